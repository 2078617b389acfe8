/-! REFERENCE: mostWaits, waits, load, set, door, clear, row, tape, clerk -/
section
variable {g : GH} {d nm no : Nat} {I : II}
def ShM (I : II) : Prop := (∀ j, 0 ≤ j → j < 72 → 0 ≤ I 129 j ∧ I 129 j ≤ 999) ∧ (1 ≤ I 100 46 ∧ I 100 46 ≤ 99) ∧ (0 ≤ I 100 47 ∧ I 100 47 ≤ 9999)
theorem y_mw_hours {a b c m : Int} {y : Nat} {Q : QT} (hI : ShM I) (ha : 0 ≤ a ∧ a ≤ 15) (hb : 0 ≤ b ∧ b ≤ 15) (hc : 0 ≤ c ∧ c ≤ 15) (hy : y < 3) (hm : 0 ≤ m ∧ m ≤ 30000)
    (hk : ∀ (u v : Int), T g d mX12_mostWaits 0 0 107 [some (vr 100), some (vi a), some (vi b), some (vi c), some (vi (msH (I 129) (I 100 46) a b c m y 24)), some (vi y), some (vi u), some (vi v)] [] (shX nm no) (RX nm no) I Q) :
    ∀ (k h : Nat), 24 - h < k → h ≤ 24 → T g d mX12_mostWaits 0 0 18 [some (vr 100), some (vi a), some (vi b), some (vi c), some (vi (msH (I 129) (I 100 46) a b c m y h)), some (vi y), some (vi (wtH (I 129) (I 100 46) a b c y h)), some (vi h)] [] (shX nm no) (RX nm no) I Q := by
  intro k
  induction k with
  | zero => intro h hk; omega
  | succ k ih =>
    intro h hk2 h1
    have w0 := wtH_bd hI.1 hy hI.2.1.1 ha.1 hb.1 hc.1 h h1
    have m0 := msH_bd hI.1 hy hI.2.1.1 ha.1 hb.1 hc.1 hm h h1
    have hr := hI.2.1
    refine m_iload dX12_mostWaits_18 rfl ?_
    refine m_bipush dX12_mostWaits_20 rfl (by decide) ?_
    refine m_icmp_ge (tgt := 107) dX12_mostWaits_22 (by decide) (fun c22 => ?_) (fun c22 => ?_)
    · have eh : h = 24 := by omega
      subst eh
      exact hk _ _
    · have hl := hI.1 (24 * y + h) (by omega) (by omega)
      have hx := wtH_bd hI.1 hy hI.2.1.1 ha.1 hb.1 hc.1 (h + 1) (by omega)
      have hw3 : 0 ≤ crw a b c h ∧ crw a b c h ≤ 15 := by unfold crw; split; omega; split <;> omega
      have hp : 0 ≤ I 100 46 * crw a b c h ∧ I 100 46 * crw a b c h ≤ 99 * 15 := ⟨Int.mul_nonneg (by omega) (by omega), Int.mul_le_mul (by omega) (by omega) (by omega) (by omega)⟩
      have ew : wtH (I 129) (I 100 46) a b c y (h + 1) = max 0 (wtH (I 129) (I 100 46) a b c y h + I 129 (24 * y + h) - crw a b c h * I 100 46) := rfl
      rw [Int.mul_comm (crw a b c h)] at ew
      have em : msH (I 129) (I 100 46) a b c m y (h + 1) = max (msH (I 129) (I 100 46) a b c m y h) (wtH (I 129) (I 100 46) a b c y (h + 1)) := rfl
      refine m_iload dX12_mostWaits_25 rfl ?_
      refine m_aload_n dX12_mostWaits_27 rfl ?_
      refine m_gr (z := 45) dX12_mostWaits_28 fl_X12_102 oX_100 rfl rfl rX_100_45 ?_
      refine m_bipush dX12_mostWaits_31 rfl (by decide) ?_
      refine m_iload dX12_mostWaits_33 rfl ?_
      refine m_imul dX12_mostWaits_35 (by omega) ?_
      refine m_iload dX12_mostWaits_36 rfl ?_
      refine m_iadd dX12_mostWaits_38 (by omega) ?_
      refine m_iald dX12_mostWaits_39 sX_129 (by omega) (by omega) ?_
      refine m_aload_n dX12_mostWaits_40 rfl ?_
      refine m_gi (z := 46) dX12_mostWaits_41 fl_X12_105 oX_100 rfl rfl ?_
      refine m_iload dX12_mostWaits_44 rfl ?_
      refine m_bipush dX12_mostWaits_46 rfl (by decide) ?_
      refine m_ticmp_ge (tgt := 55) (M := 67) dX12_mostWaits_48 (by decide) (fun c48 hM48 => by
          refine m_iload dX12_mostWaits_55 rfl ?_
          refine m_bipush dX12_mostWaits_57 rfl (by decide) ?_
          refine m_ticmp_ge (tgt := 66) (M := 67) dX12_mostWaits_59 (by decide) (fun c59 hM59 => by
              refine m_iload_n dX12_mostWaits_66 rfl ?_
              exact hM59
            ) (fun c59 hM59 => by
              refine m_iload_n dX12_mostWaits_62 rfl ?_
              refine m_goto (tgt := 67) dX12_mostWaits_63 (by decide) ?_
              exact hM59
            ) ?_
          exact hM48
        ) (fun c48 hM48 => by
          refine m_iload_n dX12_mostWaits_51 rfl ?_
          refine m_goto (tgt := 67) dX12_mostWaits_52 (by decide) ?_
          exact hM48
        ) ?_
      refine m_top (crw a b c h) (by unfold crw; repeat' split; all_goals omega) ?_
      refine m_imul dX12_mostWaits_67 (by omega) ?_
      refine m_isub dX12_mostWaits_68 (by omega) ?_
      refine m_iadd dX12_mostWaits_69 (by omega) ?_
      refine m_istore dX12_mostWaits_70 (by decide) rfl rfl ?_
      refine m_iload dX12_mostWaits_72 rfl ?_
      refine m_tif_ge (tgt := 81) (M := 83) dX12_mostWaits_74 (by decide) (fun c74 hM74 => by
          refine m_iload dX12_mostWaits_81 rfl ?_
          exact hM74
        ) (fun c74 hM74 => by
          refine m_iconst dX12_mostWaits_77 (by decide) ?_
          refine m_goto (tgt := 83) dX12_mostWaits_78 (by decide) ?_
          exact hM74
        ) ?_
      refine m_top (wtH (I 129) (I 100 46) a b c y (h + 1)) (by rw [ew]; split <;> omega) ?_
      refine m_istore dX12_mostWaits_83 (by decide) rfl rfl ?_
      refine m_iload dX12_mostWaits_85 rfl ?_
      refine m_iload dX12_mostWaits_87 rfl ?_
      refine m_ticmp_le (tgt := 97) (M := 99) dX12_mostWaits_89 (by decide) (fun c89 hM89 => by
          refine m_iload dX12_mostWaits_97 rfl ?_
          exact hM89
        ) (fun c89 hM89 => by
          refine m_iload dX12_mostWaits_92 rfl ?_
          refine m_goto (tgt := 99) dX12_mostWaits_94 (by decide) ?_
          exact hM89
        ) ?_
      refine m_top (msH (I 129) (I 100 46) a b c m y (h + 1)) (by rw [em]; split <;> omega) ?_
      refine m_istore dX12_mostWaits_99 (by decide) rfl rfl ?_
      refine m_iinc dX12_mostWaits_101 rfl (by decide) rfl rfl (by omega) ?_
      refine m_goto (tgt := 18) dX12_mostWaits_104 (by decide) ?_
      exact ih (h + 1) (by omega) (by omega)
theorem y_mw_days {a b c : Int} {Q : QT} (hI : ShM I) (ha : 0 ≤ a ∧ a ≤ 15) (hb : 0 ≤ b ∧ b ≤ 15) (hc : 0 ≤ c ∧ c ≤ 15) (h : Q (some (vi (msD (I 129) (I 100 46) a b c 3))) (shX nm no) (RX nm no) I) :
    ∀ (k y : Nat) (l6 l7 : Option AV), 3 - y < k → y ≤ 3 → T g d mX12_mostWaits 0 0 6 [some (vr 100), some (vi a), some (vi b), some (vi c), some (vi (msD (I 129) (I 100 46) a b c y)), some (vi y), l6, l7] [] (shX nm no) (RX nm no) I Q := by
  intro k
  induction k with
  | zero => intro y l6 l7 hk; omega
  | succ k ih =>
    intro y l6 l7 hk2 h1
    have m0 := msD_bd hI.1 hI.2.1.1 ha.1 hb.1 hc.1 y h1
    refine m_iload dX12_mostWaits_6 rfl ?_
    refine m_iconst dX12_mostWaits_8 (by decide) ?_
    refine m_icmp_ge (tgt := 113) dX12_mostWaits_9 (by decide) (fun c9 => ?_) (fun c9 => ?_)
    · have eh : y = 3 := by omega
      subst eh
      refine m_iload dX12_mostWaits_113 rfl ?_
      refine m_iret dX12_mostWaits_115 rfl ?_
      exact h
    · refine m_iconst dX12_mostWaits_12 (by decide) ?_
      refine m_istore dX12_mostWaits_13 (by decide) rfl rfl ?_
      refine m_iconst dX12_mostWaits_15 (by decide) ?_
      refine m_istore dX12_mostWaits_16 (by decide) rfl rfl ?_
      refine y_mw_hours hI ha hb hc (by omega) (by omega) (fun u v => ?_) 25 0 (by omega) (by omega)
      rw [show msH (I 129) (I 100 46) a b c (msD (I 129) (I 100 46) a b c y) y 24 = msD (I 129) (I 100 46) a b c (y + 1) from rfl]
      refine m_iinc dX12_mostWaits_107 rfl (by decide) rfl rfl (by omega) ?_
      refine m_goto (tgt := 6) dX12_mostWaits_110 (by decide) ?_
      exact ih (y + 1) _ _ (by omega) (by omega)
theorem y_mostWaits {a b c : Int} (hI : ShM I) (ha : 0 ≤ a ∧ a ≤ 15) (hb : 0 ≤ b ∧ b ≤ 15) (hc : 0 ≤ c ∧ c ≤ 15) : SP g d mX12_mostWaits 0 0 [vr 100, vi a, vi b, vi c] (shX nm no) (RX nm no) I (some (vi (msD (I 129) (I 100 46) a b c 3))) (shX nm no) (RX nm no) I := by
  intro Q h
  refine C_of rfl (Nat.le_of_ble_eq_true rfl) rfl ?_
  refine m_iconst dX12_mostWaits_0 (by decide) ?_
  refine m_istore dX12_mostWaits_1 (by decide) rfl rfl ?_
  refine m_iconst dX12_mostWaits_3 (by decide) ?_
  refine m_istore dX12_mostWaits_4 (by decide) rfl rfl ?_
  exact y_mw_days hI ha hb hc h 4 0 _ _ (by omega) (by omega)
theorem py_waits {a b c : Int} (hd : 2 ≤ d) (hI : ShM I) : SP g d mX12_waits 0 0 [vr 100, vi a, vi b, vi c] (shX nm no) (RX nm no) I (some (vi (if (0 ≤ a ∧ a ≤ 15) ∧ (0 ≤ b ∧ b ≤ 15) ∧ (0 ≤ c ∧ c ≤ 15) then msD (I 129) (I 100 46) a b c 3 else -3))) (shX nm no) (RX nm no) I := by
  intro Q h
  refine C_of rfl (Nat.le_of_ble_eq_true rfl) rfl ?_
  refine m_iload_n dX12_waits_0 rfl ?_
  refine m_iconst dX12_waits_1 (by decide) ?_
  refine m_bipush dX12_waits_2 rfl (by decide) ?_
  refine m_Si [_, _, _] dX12_waits_4 lk_X12_123 rfl rfl (Nat.le_of_ble_eq_true rfl) (by omega) y_in ?_
  refine m_if_eq (tgt := 40) dX12_waits_7 (by decide) (fun c7 => ?_) (fun c7 => ?_)
  · have z7 := bI_eq0 c7
    refine m_bipush dX12_waits_40 rfl (by decide) ?_
    refine m_iret dX12_waits_42 rfl ?_
    rw [if_neg (by omega)] at h
    exact h
  · have z7 := bI_ne0 c7
    refine m_iload_n dX12_waits_10 rfl ?_
    refine m_iconst dX12_waits_11 (by decide) ?_
    refine m_bipush dX12_waits_12 rfl (by decide) ?_
    refine m_Si [_, _, _] dX12_waits_14 lk_X12_123 rfl rfl (Nat.le_of_ble_eq_true rfl) (by omega) y_in ?_
    refine m_if_eq (tgt := 40) dX12_waits_17 (by decide) (fun c17 => ?_) (fun c17 => ?_)
    · have z17 := bI_eq0 c17
      refine m_bipush dX12_waits_40 rfl (by decide) ?_
      refine m_iret dX12_waits_42 rfl ?_
      rw [if_neg (by omega)] at h
      exact h
    · have z17 := bI_ne0 c17
      refine m_iload_n dX12_waits_20 rfl ?_
      refine m_iconst dX12_waits_21 (by decide) ?_
      refine m_bipush dX12_waits_22 rfl (by decide) ?_
      refine m_Si [_, _, _] dX12_waits_24 lk_X12_123 rfl rfl (Nat.le_of_ble_eq_true rfl) (by omega) y_in ?_
      refine m_if_eq (tgt := 40) dX12_waits_27 (by decide) (fun c27 => ?_) (fun c27 => ?_)
      · have z27 := bI_eq0 c27
        refine m_bipush dX12_waits_40 rfl (by decide) ?_
        refine m_iret dX12_waits_42 rfl ?_
        rw [if_neg (by omega)] at h
        exact h
      · have z27 := bI_ne0 c27
        refine m_aload_n dX12_waits_30 rfl ?_
        refine m_iload_n dX12_waits_31 rfl ?_
        refine m_iload_n dX12_waits_32 rfl ?_
        refine m_iload_n dX12_waits_33 rfl ?_
        refine m_Vi [_, _, _] dX12_waits_34 lk_X12_352 rfl oX_100 rfl (Nat.le_of_ble_eq_true rfl) (by omega) (y_mostWaits hI z7 z17 z27) ?_
        refine m_goto (tgt := 42) dX12_waits_37 (by decide) ?_
        refine m_iret dX12_waits_42 rfl ?_
        rw [if_pos ⟨z7, z17, z27⟩] at h
        exact h
theorem py_load {a b v : Int} (hd : 1 ≤ d) : SI g d mX12_load [vr 100, vi a, vi b, vi v] (shX nm no) (RX nm no) I (fun r J => (¬ (0 ≤ a ∧ a ≤ 2) ∧ r = -2 ∧ J = I) ∨ ((0 ≤ a ∧ a ≤ 2) ∧ ¬ ((0 ≤ b ∧ b ≤ 23) ∧ (0 ≤ v ∧ v ≤ 999)) ∧ r = -3 ∧ J = I) ∨ ((0 ≤ a ∧ a ≤ 2) ∧ (0 ≤ b ∧ b ≤ 23) ∧ (0 ≤ v ∧ v ≤ 999) ∧ r = I 129 (24 * a + b) ∧ J = (upI I 129 (24 * a + b) v))) := by
  intro Q h
  refine C_of rfl (Nat.le_of_ble_eq_true rfl) rfl ?_
  refine m_iload_n dX12_load_0 rfl ?_
  refine m_iconst dX12_load_1 (by decide) ?_
  refine m_iconst dX12_load_2 (by decide) ?_
  refine m_Si [_, _, _] dX12_load_3 lk_X12_123 rfl rfl (Nat.le_of_ble_eq_true rfl) (by omega) y_in ?_
  refine m_if_ne (tgt := 12) dX12_load_6 (by decide) (fun c6 => ?_) (fun c6 => ?_)
  · have z6 := bI_ne0 c6
    refine m_iload_n dX12_load_12 rfl ?_
    refine m_iconst dX12_load_13 (by decide) ?_
    refine m_bipush dX12_load_14 rfl (by decide) ?_
    refine m_Si [_, _, _] dX12_load_16 lk_X12_123 rfl rfl (Nat.le_of_ble_eq_true rfl) (by omega) y_in ?_
    refine m_if_eq (tgt := 33) dX12_load_19 (by decide) (fun c19 => ?_) (fun c19 => ?_)
    · have z19 := bI_eq0 c19
      refine m_bipush dX12_load_33 rfl (by decide) ?_
      refine m_iret dX12_load_35 rfl ?_
      exact h _ _ (Or.inr (Or.inl ⟨z6, by omega, rfl, rfl⟩))
    · have z19 := bI_ne0 c19
      refine m_iload_n dX12_load_22 rfl ?_
      refine m_iconst dX12_load_23 (by decide) ?_
      refine m_sipush dX12_load_24 rfl (by decide) ?_
      refine m_Si [_, _, _] dX12_load_27 lk_X12_123 rfl rfl (Nat.le_of_ble_eq_true rfl) (by omega) y_in ?_
      refine m_if_ne (tgt := 36) dX12_load_30 (by decide) (fun c30 => ?_) (fun c30 => ?_)
      · have z30 := bI_ne0 c30
        refine m_aload_n dX12_load_36 rfl ?_
        refine m_gr (z := 45) dX12_load_37 fl_X12_102 oX_100 rfl rfl rX_100_45 ?_
        refine m_bipush dX12_load_40 rfl (by decide) ?_
        refine m_iload_n dX12_load_42 rfl ?_
        refine m_imul dX12_load_43 (by omega) ?_
        refine m_iload_n dX12_load_44 rfl ?_
        refine m_iadd dX12_load_45 (by omega) ?_
        refine m_iald dX12_load_46 sX_129 (by omega) (by omega) ?_
        refine m_istore dX12_load_47 (by decide) rfl rfl ?_
        refine m_aload_n dX12_load_49 rfl ?_
        refine m_gr (z := 45) dX12_load_50 fl_X12_102 oX_100 rfl rfl rX_100_45 ?_
        refine m_bipush dX12_load_53 rfl (by decide) ?_
        refine m_iload_n dX12_load_55 rfl ?_
        refine m_imul dX12_load_56 (by omega) ?_
        refine m_iload_n dX12_load_57 rfl ?_
        refine m_iadd dX12_load_58 (by omega) ?_
        refine m_iload_n dX12_load_59 rfl ?_
        refine m_iast dX12_load_60 sX_129 (by omega) (by omega) ?_
        refine m_iload dX12_load_61 rfl ?_
        refine m_iret dX12_load_63 rfl ?_
        exact h _ _ (Or.inr (Or.inr ⟨z6, z19, z30, rfl, rfl⟩))
      · have z30 := bI_eq0 (show _ = (0 : Int) by omega)
        refine m_bipush dX12_load_33 rfl (by decide) ?_
        refine m_iret dX12_load_35 rfl ?_
        exact h _ _ (Or.inr (Or.inl ⟨z6, by omega, rfl, rfl⟩))
  · have z6 := bI_eq0 (show _ = (0 : Int) by omega)
    refine m_bipush dX12_load_9 rfl (by decide) ?_
    refine m_iret dX12_load_11 rfl ?_
    exact h _ _ (Or.inl ⟨z6, rfl, rfl⟩)
theorem upI_id {I : II} {o : Nat} {i : Int} : upI I o i (I o i) = I := by
  funext x j
  unfold upI
  split
  · next h => rw [h.1, h.2]
  · rfl
theorem upI_id2 {I : II} {o : Nat} {i v : Int} (h : I o i = v) : upI I o i v = I := by rw [← h]; exact upI_id
theorem py_set {k v : Int} (hd : 1 ≤ d) : SI g d mX12_set [vr 100, vi k, vi v] (shX nm no) (RX nm no) I (fun r J => ((k = 0 ∧ 1 ≤ v ∧ v ≤ 99) ∧ r = I 100 46 ∧ J = (upI I 100 46 v)) ∨ ((k = 1 ∧ 0 ≤ v ∧ v ≤ 9999) ∧ r = I 100 47 ∧ J = (upI I 100 47 v)) ∨ (¬ (k = 0 ∧ 1 ≤ v ∧ v ≤ 99) ∧ ¬ (k = 1 ∧ 0 ≤ v ∧ v ≤ 9999) ∧ r = -3 ∧ J = I)) := by
  intro Q h
  refine C_of rfl (Nat.le_of_ble_eq_true rfl) rfl ?_
  refine m_iload_n dX12_set_0 rfl ?_
  refine m_iconst dX12_set_1 (by decide) ?_
  refine m_iconst dX12_set_2 (by decide) ?_
  refine m_Si [_, _, _] dX12_set_3 lk_X12_123 rfl rfl (Nat.le_of_ble_eq_true rfl) (by omega) y_in ?_
  refine m_if_eq (tgt := 37) dX12_set_6 (by decide) (fun c6 => ?_) (fun c6 => ?_)
  · have z6 := bI_eq0 c6
    refine m_bipush dX12_set_37 rfl (by decide) ?_
    refine m_iret dX12_set_39 rfl ?_
    exact h _ _ (Or.inr (Or.inr ⟨by omega, by omega, rfl, rfl⟩))
  · have z6 := bI_ne0 c6
    refine m_iload_n dX12_set_9 rfl ?_
    refine m_iload_n dX12_set_10 rfl ?_
    refine m_tif_ne (tgt := 18) (M := 19) dX12_set_11 (by decide) (fun c11 hM11 => by
        refine m_iconst dX12_set_18 (by decide) ?_
        exact hM11
      ) (fun c11 hM11 => by
        refine m_iconst dX12_set_14 (by decide) ?_
        refine m_goto (tgt := 19) dX12_set_15 (by decide) ?_
        exact hM11
      ) ?_
    refine m_iload_n dX12_set_19 rfl ?_
    refine m_tif_ne (tgt := 28) (M := 31) dX12_set_20 (by decide) (fun c20 hM20 => by
        refine m_sipush dX12_set_28 rfl (by decide) ?_
        exact hM20
      ) (fun c20 hM20 => by
        refine m_bipush dX12_set_23 rfl (by decide) ?_
        refine m_goto (tgt := 31) dX12_set_25 (by decide) ?_
        exact hM20
      ) ?_
    refine m_Si [_, _, _] dX12_set_31 lk_X12_123 rfl rfl (Nat.le_of_ble_eq_true rfl) (by omega) y_in ?_
    refine m_if_ne (tgt := 40) dX12_set_34 (by decide) (fun c34 => ?_) (fun c34 => ?_)
    · have z34 := bI_ne0 c34
      refine m_iload_n dX12_set_40 rfl ?_
      refine m_tif_ne (tgt := 51) (M := 55) dX12_set_41 (by decide) (fun c41 hM41 => by
          refine m_aload_n dX12_set_51 rfl ?_
          refine m_gi (z := 47) dX12_set_52 fl_X12_349 oX_100 rfl rfl ?_
          exact hM41
        ) (fun c41 hM41 => by
          refine m_aload_n dX12_set_44 rfl ?_
          refine m_gi (z := 46) dX12_set_45 fl_X12_105 oX_100 rfl rfl ?_
          refine m_goto (tgt := 55) dX12_set_48 (by decide) ?_
          exact hM41
        ) ?_
      refine m_istore_n dX12_set_55 (by decide) rfl rfl ?_
      refine m_aload_n dX12_set_56 rfl ?_
      refine m_iload_n dX12_set_57 rfl ?_
      refine m_tif_ne (tgt := 65) (M := 69) dX12_set_58 (by decide) (fun c58 hM58 => by
          refine m_aload_n dX12_set_65 rfl ?_
          refine m_gi (z := 46) dX12_set_66 fl_X12_105 oX_100 rfl rfl ?_
          exact hM58
        ) (fun c58 hM58 => by
          refine m_iload_n dX12_set_61 rfl ?_
          refine m_goto (tgt := 69) dX12_set_62 (by decide) ?_
          exact hM58
        ) ?_
      refine m_pi (z := 46) dX12_set_69 fl_X12_105 oX_100 rfl rfl rfl ?_
      refine m_aload_n dX12_set_72 rfl ?_
      refine m_iload_n dX12_set_73 rfl ?_
      refine m_iconst dX12_set_74 (by decide) ?_
      refine m_ticmp_ne (tgt := 82) (M := 86) dX12_set_75 (by decide) (fun c75 hM75 => by
          refine m_aload_n dX12_set_82 rfl ?_
          refine m_gi (z := 47) dX12_set_83 fl_X12_349 oX_100 rfl rfl ?_
          rw [upI_j (show (47 : Int) ≠ 46 by decide)]
          exact hM75
        ) (fun c75 hM75 => by
          refine m_iload_n dX12_set_78 rfl ?_
          refine m_goto (tgt := 86) dX12_set_79 (by decide) ?_
          exact hM75
        ) ?_
      refine m_pi (z := 47) dX12_set_86 fl_X12_349 oX_100 rfl rfl rfl ?_
      refine m_iload_n dX12_set_89 rfl ?_
      refine m_iret dX12_set_90 rfl ?_
      have hk : k = 0 ∨ k = 1 := by omega
      rcases hk with rfl | rfl
      · simp only [ne_eq, not_true_eq_false, if_false, if_true] at z34 ⊢
        refine h _ _ (Or.inl ⟨⟨rfl, z34⟩, rfl, ?_⟩)
        rw [if_pos (by decide)]
        exact upI_id2 (by rw [upI_j (by decide)])
      · simp only [ne_eq] at z34 ⊢
        refine h _ _ (Or.inr (Or.inl ⟨⟨rfl, z34⟩, rfl, ?_⟩))
        rw [if_pos (by decide), upI_id, if_neg (by decide)]
    · have z34 := bI_eq0 (show _ = (0 : Int) by omega)
      refine m_bipush dX12_set_37 rfl (by decide) ?_
      refine m_iret dX12_set_39 rfl ?_
      exact h _ _ (Or.inr (Or.inr ⟨by omega, by omega, rfl, rfl⟩))
theorem py_door {x y u : Int} (hd : 1 ≤ d) (hc : 0 ≤ I 100 48 ∧ I 100 48 ≤ 6) : SI g d mX12_door [vr 100, vi x, vi y, vi u] (shX nm no) (RX nm no) I (fun r J => (¬ ((0 ≤ x ∧ x ≤ 20) ∧ (0 ≤ y ∧ y ≤ 20) ∧ (0 ≤ u ∧ u ≤ 200)) ∧ r = -3 ∧ J = I) ∨ (((0 ≤ x ∧ x ≤ 20) ∧ (0 ≤ y ∧ y ≤ 20) ∧ (0 ≤ u ∧ u ≤ 200)) ∧ I 100 48 = 6 ∧ r = -5 ∧ J = I) ∨ (((0 ≤ x ∧ x ≤ 20) ∧ (0 ≤ y ∧ y ≤ 20) ∧ (0 ≤ u ∧ u ≤ 200)) ∧ I 100 48 < 6 ∧ r = I 100 48 ∧ J = (upI (upI (upI (upI I 130 (I 100 48) x) 131 (I 100 48) y) 132 (I 100 48) u) 100 48 (I 100 48 + 1)))) := by
  intro Q h
  refine C_of rfl (Nat.le_of_ble_eq_true rfl) rfl ?_
  refine m_iload_n dX12_door_0 rfl ?_
  refine m_iconst dX12_door_1 (by decide) ?_
  refine m_bipush dX12_door_2 rfl (by decide) ?_
  refine m_Si [_, _, _] dX12_door_4 lk_X12_123 rfl rfl (Nat.le_of_ble_eq_true rfl) (by omega) y_in ?_
  refine m_if_eq (tgt := 31) dX12_door_7 (by decide) (fun c7 => ?_) (fun c7 => ?_)
  · have z7 := bI_eq0 c7
    refine m_bipush dX12_door_31 rfl (by decide) ?_
    refine m_iret dX12_door_33 rfl ?_
    exact h _ _ (Or.inl ⟨by omega, rfl, rfl⟩)
  · have z7 := bI_ne0 c7
    refine m_iload_n dX12_door_10 rfl ?_
    refine m_iconst dX12_door_11 (by decide) ?_
    refine m_bipush dX12_door_12 rfl (by decide) ?_
    refine m_Si [_, _, _] dX12_door_14 lk_X12_123 rfl rfl (Nat.le_of_ble_eq_true rfl) (by omega) y_in ?_
    refine m_if_eq (tgt := 31) dX12_door_17 (by decide) (fun c17 => ?_) (fun c17 => ?_)
    · have z17 := bI_eq0 c17
      refine m_bipush dX12_door_31 rfl (by decide) ?_
      refine m_iret dX12_door_33 rfl ?_
      exact h _ _ (Or.inl ⟨by omega, rfl, rfl⟩)
    · have z17 := bI_ne0 c17
      refine m_iload_n dX12_door_20 rfl ?_
      refine m_iconst dX12_door_21 (by decide) ?_
      refine m_sipush dX12_door_22 rfl (by decide) ?_
      refine m_Si [_, _, _] dX12_door_25 lk_X12_123 rfl rfl (Nat.le_of_ble_eq_true rfl) (by omega) y_in ?_
      refine m_if_ne (tgt := 34) dX12_door_28 (by decide) (fun c28 => ?_) (fun c28 => ?_)
      · have z28 := bI_ne0 c28
        refine m_aload_n dX12_door_34 rfl ?_
        refine m_gi (z := 48) dX12_door_35 fl_X12_355 oX_100 rfl rfl ?_
        refine m_bipush dX12_door_38 rfl (by decide) ?_
        refine m_icmp_ne (tgt := 46) dX12_door_40 (by decide) (fun c40 => ?_) (fun c40 => ?_)
        · refine m_aload_n dX12_door_46 rfl ?_
          refine m_gr (z := 49) dX12_door_47 fl_X12_108 oX_100 rfl rfl rX_100_49 ?_
          refine m_aload_n dX12_door_50 rfl ?_
          refine m_gi (z := 48) dX12_door_51 fl_X12_355 oX_100 rfl rfl ?_
          refine m_iload_n dX12_door_54 rfl ?_
          refine m_iast dX12_door_55 sX_130 (by omega) (by omega) ?_
          refine m_aload_n dX12_door_56 rfl ?_
          refine m_gr (z := 50) dX12_door_57 fl_X12_111 oX_100 rfl rfl rX_100_50 ?_
          refine m_aload_n dX12_door_60 rfl ?_
          refine m_gi (z := 48) dX12_door_61 fl_X12_355 oX_100 rfl rfl ?_
          rw [upI_o (show (100 : Nat) ≠ 130 by omega)]
          refine m_iload_n dX12_door_64 rfl ?_
          refine m_iast dX12_door_65 sX_131 (by omega) (by omega) ?_
          refine m_aload_n dX12_door_66 rfl ?_
          refine m_gr (z := 51) dX12_door_67 fl_X12_114 oX_100 rfl rfl rX_100_51 ?_
          refine m_aload_n dX12_door_70 rfl ?_
          refine m_gi (z := 48) dX12_door_71 fl_X12_355 oX_100 rfl rfl ?_
          rw [upI_o (show (100 : Nat) ≠ 131 by omega), upI_o (show (100 : Nat) ≠ 130 by omega)]
          refine m_iload_n dX12_door_74 rfl ?_
          refine m_iast dX12_door_75 sX_132 (by omega) (by omega) ?_
          refine m_aload_n dX12_door_76 rfl ?_
          refine m_dup dX12_door_77 (fun _ z => by cases z) ?_
          refine m_gi (z := 48) dX12_door_78 fl_X12_355 oX_100 rfl rfl ?_
          rw [upI_o (show (100 : Nat) ≠ 132 by omega), upI_o (show (100 : Nat) ≠ 131 by omega), upI_o (show (100 : Nat) ≠ 130 by omega)]
          refine m_iconst dX12_door_81 (by decide) ?_
          refine m_iadd dX12_door_82 (by omega) ?_
          refine m_pi (z := 48) dX12_door_83 fl_X12_355 oX_100 rfl rfl rfl ?_
          refine m_aload_n dX12_door_86 rfl ?_
          refine m_gi (z := 48) dX12_door_87 fl_X12_355 oX_100 rfl rfl ?_
          rw [upI_s]
          refine m_iconst dX12_door_90 (by decide) ?_
          refine m_isub dX12_door_91 (by omega) ?_
          refine m_iret dX12_door_92 rfl ?_
          rw [show I 100 48 + 1 - 1 = I 100 48 by omega]
          exact h _ _ (Or.inr (Or.inr ⟨⟨z7, z17, z28⟩, by omega, rfl, rfl⟩))
        · refine m_bipush dX12_door_43 rfl (by decide) ?_
          refine m_iret dX12_door_45 rfl ?_
          exact h _ _ (Or.inr (Or.inl ⟨⟨z7, z17, z28⟩, by omega, rfl, rfl⟩))
      · have z28 := bI_eq0 (show _ = (0 : Int) by omega)
        refine m_bipush dX12_door_31 rfl (by decide) ?_
        refine m_iret dX12_door_33 rfl ?_
        exact h _ _ (Or.inl ⟨by omega, rfl, rfl⟩)
theorem py_clear : SP g d mX12_clear 0 0 [vr 100] (shX nm no) (RX nm no) I (some (vi (I 100 48))) (shX nm no) (RX nm no) (upI I 100 48 0) := by
  intro Q h
  refine C_of rfl (Nat.le_of_ble_eq_true rfl) rfl ?_
  refine m_aload_n dX12_clear_0 rfl ?_
  refine m_gi (z := 48) dX12_clear_1 fl_X12_355 oX_100 rfl rfl ?_
  refine m_istore_n dX12_clear_4 (by decide) rfl rfl ?_
  refine m_aload_n dX12_clear_5 rfl ?_
  refine m_iconst dX12_clear_6 (by decide) ?_
  refine m_pi (z := 48) dX12_clear_7 fl_X12_355 oX_100 rfl rfl rfl ?_
  refine m_iload_n dX12_clear_10 rfl ?_
  refine m_iret dX12_clear_11 rfl ?_
  exact h
/-- seven places of a row set -/
def rwI (I : II) (o : Nat) (b : Int) (v : Int) (n : Int) : II := fun x j => if x = o ∧ b ≤ j ∧ j < b + n then v else I x j
theorem rwI_0 {I : II} {o : Nat} {b v : Int} : rwI I o b v 0 = I := by
  funext x j; unfold rwI; exact if_neg (fun q => by omega)
theorem rwI_up {I : II} {o : Nat} {b v n : Int} (h : 0 ≤ n) : upI (rwI I o b v n) o (b + n) v = rwI I o b v (n + 1) := by
  funext x j
  unfold upI rwI
  by_cases h1 : x = o
  · by_cases h2 : j = b + n
    · rw [if_pos ⟨h1, h2⟩, if_pos ⟨h1, by omega, by omega⟩]
    · rw [if_neg (fun q => h2 q.2)]
      by_cases h3 : b ≤ j ∧ j < b + n
      · rw [if_pos ⟨h1, h3⟩, if_pos ⟨h1, by omega, by omega⟩]
      · rw [if_neg (fun q => h3 q.2), if_neg (fun q => by omega)]
  · rw [if_neg (fun q => h1 q.1), if_neg (fun q => h1 q.1), if_neg (fun q => h1 q.1)]
theorem rwI_o {I : II} {o x : Nat} {b v n : Int} (h : x ≠ o) : rwI I o b v n x = I x := funext fun j => if_neg fun q => h q.1
theorem rw_comm {I : II} {o p : Nat} {b v n j u : Int} (h : p ≠ o) : upI (rwI I o b v n) p j u = rwI (upI I p j u) o b v n := by
  funext x k
  unfold upI rwI
  by_cases h1 : x = p ∧ k = j <;> by_cases h2 : x = o ∧ b ≤ k ∧ k < b + n
  · exact absurd (h1.1.symm.trans h2.1) h
  · simp only [if_pos h1, if_neg h2]
  · simp only [if_neg h1, if_pos h2]
  · simp only [if_neg h1, if_neg h2]
theorem y_row_loop {n : Int} {Q : QT} (hc : 0 ≤ I 100 41 ∧ I 100 41 < 8) (h : Q (some (vi (I 100 41))) (shX nm no) (RX nm no) (upI (rwI (rwI (upI I 126 (I 100 41) n) 127 (7 * I 100 41) 2 7) 128 (7 * I 100 41) 0 7) 100 41 (I 100 41 + 1))) : ∀ (k : Nat) (i : Int), (7 - i).toNat < k → 0 ≤ i → i ≤ 7 → T g d mX12_row 0 0 37 [some (vr 100), some (vi n), some (vi i)] [] (shX nm no) (RX nm no) (rwI (rwI (upI I 126 (I 100 41) n) 127 (7 * I 100 41) 2 i) 128 (7 * I 100 41) 0 i) Q := by
  intro k
  induction k with
  | zero => intro i hk; omega
  | succ k ih =>
    intro i hk h0 h1
    have e0 : (rwI (rwI (upI I 126 (I 100 41) n) 127 (7 * I 100 41) 2 i) 128 (7 * I 100 41) 0 i) 100 41 = I 100 41 := by rw [rwI_o (by decide), rwI_o (by decide), upI_o (by decide)]
    refine m_iload_n dX12_row_37 rfl ?_
    refine m_bipush dX12_row_38 rfl (by decide) ?_
    refine m_icmp_ge (tgt := 79) dX12_row_40 (by decide) (fun c40 => ?_) (fun c40 => ?_)
    · have ei : i = 7 := by omega
      subst ei
      refine m_aload_n dX12_row_79 rfl ?_
      refine m_dup dX12_row_80 (fun _ z => by cases z) ?_
      refine m_gi (z := 41) dX12_row_81 fl_X12_327 oX_100 rfl rfl ?_
      rw [e0]
      refine m_iconst dX12_row_84 (by decide) ?_
      refine m_iadd dX12_row_85 (by omega) ?_
      refine m_pi (z := 41) dX12_row_86 fl_X12_327 oX_100 rfl rfl rfl ?_
      refine m_aload_n dX12_row_89 rfl ?_
      refine m_gi (z := 41) dX12_row_90 fl_X12_327 oX_100 rfl rfl ?_
      rw [upI_s]
      refine m_iconst dX12_row_93 (by decide) ?_
      refine m_isub dX12_row_94 (by omega) ?_
      refine m_iret dX12_row_95 rfl ?_
      rw [show I 100 41 + 1 - 1 = I 100 41 by omega]
      exact h
    · refine m_aload_n dX12_row_43 rfl ?_
      refine m_gr (z := 43) dX12_row_44 fl_X12_96 oX_100 rfl rfl rX_100_43 ?_
      refine m_bipush dX12_row_47 rfl (by decide) ?_
      refine m_aload_n dX12_row_49 rfl ?_
      refine m_gi (z := 41) dX12_row_50 fl_X12_327 oX_100 rfl rfl ?_
      rw [e0]
      refine m_imul dX12_row_53 (by omega) ?_
      refine m_iload_n dX12_row_54 rfl ?_
      refine m_iadd dX12_row_55 (by omega) ?_
      refine m_iconst dX12_row_56 (by decide) ?_
      refine m_iast dX12_row_57 sX_127 (by omega) (by omega) ?_
      refine m_aload_n dX12_row_58 rfl ?_
      refine m_gr (z := 44) dX12_row_59 fl_X12_99 oX_100 rfl rfl rX_100_44 ?_
      refine m_bipush dX12_row_62 rfl (by decide) ?_
      refine m_aload_n dX12_row_64 rfl ?_
      refine m_gi (z := 41) dX12_row_65 fl_X12_327 oX_100 rfl rfl ?_
      rw [upI_o (show (100 : Nat) ≠ 127 by omega)]
      rw [e0]
      refine m_imul dX12_row_68 (by omega) ?_
      refine m_iload_n dX12_row_69 rfl ?_
      refine m_iadd dX12_row_70 (by omega) ?_
      refine m_iconst dX12_row_71 (by decide) ?_
      refine m_iast dX12_row_72 sX_128 (by omega) (by omega) ?_
      refine m_iinc dX12_row_73 rfl (by decide) rfl rfl (by omega) ?_
      refine m_goto (tgt := 37) dX12_row_76 (by decide) ?_
      rw [rw_comm (by decide), rwI_up h0, rwI_up h0]
      exact ih (i + 1) (by omega) (by omega) (by omega)
theorem py_row {n : Int} (hd : 1 ≤ d) (hc : 0 ≤ I 100 41 ∧ I 100 41 ≤ 8) : SI g d mX12_row [vr 100, vi n] (shX nm no) (RX nm no) I (fun v J => (¬ (2 ≤ n ∧ n ≤ 7) ∧ v = -3 ∧ J = I) ∨ ((2 ≤ n ∧ n ≤ 7) ∧ I 100 41 = 8 ∧ v = -5 ∧ J = I) ∨ ((2 ≤ n ∧ n ≤ 7) ∧ I 100 41 < 8 ∧ v = I 100 41 ∧ J = upI (rwI (rwI (upI I 126 (I 100 41) n) 127 (7 * I 100 41) 2 7) 128 (7 * I 100 41) 0 7) 100 41 (I 100 41 + 1))) := by
  intro Q h
  refine C_of rfl (Nat.le_of_ble_eq_true rfl) rfl ?_
  refine m_iload_n dX12_row_0 rfl ?_
  refine m_iconst dX12_row_1 (by decide) ?_
  refine m_bipush dX12_row_2 rfl (by decide) ?_
  refine m_Si [_, _, _] dX12_row_4 lk_X12_123 rfl rfl (Nat.le_of_ble_eq_true rfl) (by omega) y_in ?_
  refine m_if_ne (tgt := 13) dX12_row_7 (by decide) (fun c7 => ?_) (fun c7 => ?_)
  · have z7 := bI_ne0 c7
    refine m_aload_n dX12_row_13 rfl ?_
    refine m_gi (z := 41) dX12_row_14 fl_X12_327 oX_100 rfl rfl ?_
    refine m_bipush dX12_row_17 rfl (by decide) ?_
    refine m_icmp_ne (tgt := 25) dX12_row_19 (by decide) (fun c19 => ?_) (fun c19 => ?_)
    · refine m_aload_n dX12_row_25 rfl ?_
      refine m_gr (z := 42) dX12_row_26 fl_X12_93 oX_100 rfl rfl rX_100_42 ?_
      refine m_aload_n dX12_row_29 rfl ?_
      refine m_gi (z := 41) dX12_row_30 fl_X12_327 oX_100 rfl rfl ?_
      refine m_iload_n dX12_row_33 rfl ?_
      refine m_iast dX12_row_34 sX_126 (by omega) (by omega) ?_
      refine m_iconst dX12_row_35 (by decide) ?_
      refine m_istore_n dX12_row_36 (by decide) rfl rfl ?_
      have z := y_row_loop (g := g) (d := d) (nm := nm) (no := no) (n := n) (I := I) (Q := Q) ⟨by omega, by omega⟩ (h _ _ (Or.inr (Or.inr ⟨z7, by omega, rfl, rfl⟩))) 8 0 (by omega) (by omega) (by omega)
      rw [rwI_0, rwI_0] at z
      exact z
    · refine m_bipush dX12_row_22 rfl (by decide) ?_
      refine m_iret dX12_row_24 rfl ?_
      exact h _ _ (Or.inr (Or.inl ⟨z7, by omega, rfl, rfl⟩))
  · have z7 := bI_eq0 (show _ = (0 : Int) by omega)
    refine m_bipush dX12_row_10 rfl (by decide) ?_
    refine m_iret dX12_row_12 rfl ?_
    exact h _ _ (Or.inl ⟨z7, rfl, rfl⟩)
theorem py_tape {a b v : Int} (hd : 2 ≤ d) (hc : 0 ≤ I 100 41 ∧ I 100 41 ≤ 8) (hs : ∀ r, 0 ≤ r → r < I 100 41 → 2 ≤ I 126 r ∧ I 126 r ≤ 7) : SI g d mX12_tape [vr 100, vi a, vi b, vi v] (shX nm no) (RX nm no) I (fun q J => (¬ ((0 ≤ a ∧ a ≤ I 100 41 - 1) ∧ (0 ≤ b ∧ b ≤ I 126 a - 1)) ∧ q = -2 ∧ J = I) ∨ (((0 ≤ a ∧ a ≤ I 100 41 - 1) ∧ (0 ≤ b ∧ b ≤ I 126 a - 1)) ∧ ¬ (0 ≤ v ∧ v ≤ 2) ∧ q = -3 ∧ J = I) ∨ (((0 ≤ a ∧ a ≤ I 100 41 - 1) ∧ (0 ≤ b ∧ b ≤ I 126 a - 1)) ∧ (0 ≤ v ∧ v ≤ 2) ∧ q = I 127 (7 * a + b) ∧ J = upI I 127 (7 * a + b) v)) := by
  intro Q h
  refine C_of rfl (Nat.le_of_ble_eq_true rfl) rfl ?_
  refine m_aload_n dX12_tape_0 rfl ?_
  refine m_iload_n dX12_tape_1 rfl ?_
  refine m_Vi [_] dX12_tape_2 lk_X12_330 rfl oX_100 rfl (Nat.le_of_ble_eq_true rfl) (by omega) (y_isRow (by omega) ⟨by omega, by omega⟩) ?_
  refine m_if_eq (tgt := 24) dX12_tape_5 (by decide) (fun c5 => ?_) (fun c5 => ?_)
  · have z5 := bI_eq0 c5
    refine m_bipush dX12_tape_24 rfl (by decide) ?_
    refine m_iret dX12_tape_26 rfl ?_
    exact h _ _ (Or.inl ⟨by omega, rfl, rfl⟩)
  · have z5 := bI_ne0 c5
    have hs1 := hs a (by omega) (by omega)
    refine m_iload_n dX12_tape_8 rfl ?_
    refine m_iconst dX12_tape_9 (by decide) ?_
    refine m_aload_n dX12_tape_10 rfl ?_
    refine m_gr (z := 42) dX12_tape_11 fl_X12_93 oX_100 rfl rfl rX_100_42 ?_
    refine m_iload_n dX12_tape_14 rfl ?_
    refine m_iald dX12_tape_15 sX_126 (by omega) (by omega) ?_
    refine m_iconst dX12_tape_16 (by decide) ?_
    refine m_isub dX12_tape_17 (by omega) ?_
    refine m_Si [_, _, _] dX12_tape_18 lk_X12_123 rfl rfl (Nat.le_of_ble_eq_true rfl) (by omega) y_in ?_
    refine m_if_ne (tgt := 27) dX12_tape_21 (by decide) (fun c21 => ?_) (fun c21 => ?_)
    · have z21 := bI_ne0 c21
      refine m_iload_n dX12_tape_27 rfl ?_
      refine m_iconst dX12_tape_28 (by decide) ?_
      refine m_iconst dX12_tape_29 (by decide) ?_
      refine m_Si [_, _, _] dX12_tape_30 lk_X12_123 rfl rfl (Nat.le_of_ble_eq_true rfl) (by omega) y_in ?_
      refine m_if_ne (tgt := 39) dX12_tape_33 (by decide) (fun c33 => ?_) (fun c33 => ?_)
      · have z33 := bI_ne0 c33
        refine m_aload_n dX12_tape_39 rfl ?_
        refine m_gr (z := 43) dX12_tape_40 fl_X12_96 oX_100 rfl rfl rX_100_43 ?_
        refine m_bipush dX12_tape_43 rfl (by decide) ?_
        refine m_iload_n dX12_tape_45 rfl ?_
        refine m_imul dX12_tape_46 (by omega) ?_
        refine m_iload_n dX12_tape_47 rfl ?_
        refine m_iadd dX12_tape_48 (by omega) ?_
        refine m_iald dX12_tape_49 sX_127 (by omega) (by omega) ?_
        refine m_istore dX12_tape_50 (by decide) rfl rfl ?_
        refine m_aload_n dX12_tape_52 rfl ?_
        refine m_gr (z := 43) dX12_tape_53 fl_X12_96 oX_100 rfl rfl rX_100_43 ?_
        refine m_bipush dX12_tape_56 rfl (by decide) ?_
        refine m_iload_n dX12_tape_58 rfl ?_
        refine m_imul dX12_tape_59 (by omega) ?_
        refine m_iload_n dX12_tape_60 rfl ?_
        refine m_iadd dX12_tape_61 (by omega) ?_
        refine m_iload_n dX12_tape_62 rfl ?_
        refine m_iast dX12_tape_63 sX_127 (by omega) (by omega) ?_
        refine m_iload dX12_tape_64 rfl ?_
        refine m_iret dX12_tape_66 rfl ?_
        exact h _ _ (Or.inr (Or.inr ⟨⟨z5, z21⟩, z33, rfl, rfl⟩))
      · have z33 := bI_eq0 (show _ = (0 : Int) by omega)
        refine m_bipush dX12_tape_36 rfl (by decide) ?_
        refine m_iret dX12_tape_38 rfl ?_
        exact h _ _ (Or.inr (Or.inl ⟨⟨z5, z21⟩, z33, rfl, rfl⟩))
    · have z21 := bI_eq0 (show _ = (0 : Int) by omega)
      refine m_bipush dX12_tape_24 rfl (by decide) ?_
      refine m_iret dX12_tape_26 rfl ?_
      exact h _ _ (Or.inl ⟨by omega, rfl, rfl⟩)
theorem py_clerk {a b v : Int} (hd : 2 ≤ d) (hc : 0 ≤ I 100 41 ∧ I 100 41 ≤ 8) (hs : ∀ r, 0 ≤ r → r < I 100 41 → 2 ≤ I 126 r ∧ I 126 r ≤ 7) : SI g d mX12_clerk [vr 100, vi a, vi b, vi v] (shX nm no) (RX nm no) I (fun q J => (¬ ((0 ≤ a ∧ a ≤ I 100 41 - 1) ∧ (0 ≤ b ∧ b ≤ I 126 a - 2) ∧ (0 ≤ v ∧ v ≤ 7)) ∧ q = -2 ∧ J = I) ∨ (((0 ≤ a ∧ a ≤ I 100 41 - 1) ∧ (0 ≤ b ∧ b ≤ I 126 a - 2) ∧ (0 ≤ v ∧ v ≤ 7)) ∧ q = I 128 (7 * a + b) ∧ J = upI I 128 (7 * a + b) v)) := by
  intro Q h
  refine C_of rfl (Nat.le_of_ble_eq_true rfl) rfl ?_
  refine m_aload_n dX12_clerk_0 rfl ?_
  refine m_iload_n dX12_clerk_1 rfl ?_
  refine m_Vi [_] dX12_clerk_2 lk_X12_330 rfl oX_100 rfl (Nat.le_of_ble_eq_true rfl) (by omega) (y_isRow (by omega) ⟨by omega, by omega⟩) ?_
  refine m_if_eq (tgt := 34) dX12_clerk_5 (by decide) (fun c5 => ?_) (fun c5 => ?_)
  · have z5 := bI_eq0 c5
    refine m_bipush dX12_clerk_34 rfl (by decide) ?_
    refine m_iret dX12_clerk_36 rfl ?_
    exact h _ _ (Or.inl ⟨by omega, rfl, rfl⟩)
  · have z5 := bI_ne0 c5
    have hs1 := hs a (by omega) (by omega)
    refine m_iload_n dX12_clerk_8 rfl ?_
    refine m_iconst dX12_clerk_9 (by decide) ?_
    refine m_aload_n dX12_clerk_10 rfl ?_
    refine m_gr (z := 42) dX12_clerk_11 fl_X12_93 oX_100 rfl rfl rX_100_42 ?_
    refine m_iload_n dX12_clerk_14 rfl ?_
    refine m_iald dX12_clerk_15 sX_126 (by omega) (by omega) ?_
    refine m_iconst dX12_clerk_16 (by decide) ?_
    refine m_isub dX12_clerk_17 (by omega) ?_
    refine m_Si [_, _, _] dX12_clerk_18 lk_X12_123 rfl rfl (Nat.le_of_ble_eq_true rfl) (by omega) y_in ?_
    refine m_if_eq (tgt := 34) dX12_clerk_21 (by decide) (fun c21 => ?_) (fun c21 => ?_)
    · have z21 := bI_eq0 c21
      refine m_bipush dX12_clerk_34 rfl (by decide) ?_
      refine m_iret dX12_clerk_36 rfl ?_
      exact h _ _ (Or.inl ⟨by omega, rfl, rfl⟩)
    · have z21 := bI_ne0 c21
      refine m_iload_n dX12_clerk_24 rfl ?_
      refine m_iconst dX12_clerk_25 (by decide) ?_
      refine m_bipush dX12_clerk_26 rfl (by decide) ?_
      refine m_Si [_, _, _] dX12_clerk_28 lk_X12_123 rfl rfl (Nat.le_of_ble_eq_true rfl) (by omega) y_in ?_
      refine m_if_ne (tgt := 37) dX12_clerk_31 (by decide) (fun c31 => ?_) (fun c31 => ?_)
      · have z31 := bI_ne0 c31
        refine m_aload_n dX12_clerk_37 rfl ?_
        refine m_gr (z := 44) dX12_clerk_38 fl_X12_99 oX_100 rfl rfl rX_100_44 ?_
        refine m_bipush dX12_clerk_41 rfl (by decide) ?_
        refine m_iload_n dX12_clerk_43 rfl ?_
        refine m_imul dX12_clerk_44 (by omega) ?_
        refine m_iload_n dX12_clerk_45 rfl ?_
        refine m_iadd dX12_clerk_46 (by omega) ?_
        refine m_iald dX12_clerk_47 sX_128 (by omega) (by omega) ?_
        refine m_istore dX12_clerk_48 (by decide) rfl rfl ?_
        refine m_aload_n dX12_clerk_50 rfl ?_
        refine m_gr (z := 44) dX12_clerk_51 fl_X12_99 oX_100 rfl rfl rX_100_44 ?_
        refine m_bipush dX12_clerk_54 rfl (by decide) ?_
        refine m_iload_n dX12_clerk_56 rfl ?_
        refine m_imul dX12_clerk_57 (by omega) ?_
        refine m_iload_n dX12_clerk_58 rfl ?_
        refine m_iadd dX12_clerk_59 (by omega) ?_
        refine m_iload_n dX12_clerk_60 rfl ?_
        refine m_iast dX12_clerk_61 sX_128 (by omega) (by omega) ?_
        refine m_iload dX12_clerk_62 rfl ?_
        refine m_iret dX12_clerk_64 rfl ?_
        exact h _ _ (Or.inr ⟨⟨z5, z21, z31⟩, rfl, rfl⟩)
      · have z31 := bI_eq0 (show _ = (0 : Int) by omega)
        refine m_bipush dX12_clerk_34 rfl (by decide) ?_
        refine m_iret dX12_clerk_36 rfl ?_
        exact h _ _ (Or.inl ⟨by omega, rfl, rfl⟩)
end
