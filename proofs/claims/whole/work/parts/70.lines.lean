/-! THE REFERENCE: lines of orders: lastOf, rankOf, isTwice, isNightHour, isNight, wordsOf -/
section
variable {g : GH} {d nm no : Nat} {I : II}
def lsF (v : Int → Int) (so kd wo : Int) : Nat → Int
  | 0 => wo
  | k + 1 => if v (3 * k) = so ∧ v (3 * k + 1) = kd then v (3 * k + 2) else lsF v so kd wo k
def twF (v : Int → Int) (kd : Int) (n : Nat) : Prop := kd = 4 ∨ ∃ k : Nat, k < n ∧ v (3 * k) = 4 ∧ v (3 * k + 1) = kd
def ngF (v : Int → Int) (h : Int) : Nat → Prop
  | 0 => True
  | k + 1 => if v (3 * k) = 3 then (if v (3 * k + 1) ≤ v (3 * k + 2) then v (3 * k + 1) ≤ h ∧ h ≤ v (3 * k + 2) else v (3 * k + 1) ≤ h ∨ h ≤ v (3 * k + 2)) else ngF v h k
abbrev lnV (I : II) (q : Int) : Int → Int := fun j => I 116 (30 * q + j)
def lsO (I : II) (q so kd wo : Int) : Int := if q = -1 then wo else lsF (lnV I q) so kd wo (I 115 q).toNat
def twO (I : II) (q kd : Int) : Prop := if q = -1 then kd = 4 else twF (lnV I q) kd (I 115 q).toNat
def ngO (I : II) (q h : Int) : Prop := if q = -1 then True else ngF (lnV I q) h (I 115 q).toNat
def rkD (k : Int) : Int := if k = 3 then 0 else if k = 1 then 1 else if k = 4 then 2 else if k = 0 then 3 else 4
/-- the reference's lines are within bounds -/
def LnI (I : II) (no : Nat) : Prop := I 100 27 = no ∧ no ≤ 6 ∧ ∀ q : Int, 0 ≤ q → q < no → 0 ≤ I 115 q ∧ I 115 q ≤ 10
theorem y_lo_loop {no2 : Nat} {q so kd wo : Int} {Q : QT} (hL : LnI I no2) (hq : -1 ≤ q ∧ q < no2) (hq0 : q ≠ -1) (h : Q (some (vi (lsF (lnV I q) so kd wo (I 115 q).toNat))) (shX nm no) (RX nm no) I) : ∀ (m k : Nat) (l7 : Option AV), (I 115 q).toNat - k < m → k ≤ (I 115 q).toNat → T g d mX12_lastOf 0 0 7 [some (vr 100), some (vi q), some (vi so), some (vi kd), some (vi wo), some (vi (lsF (lnV I q) so kd wo k)), some (vi k), l7] [] (shX nm no) (RX nm no) I Q := by
  have hb := hL.2.2 q (by omega) hq.2
  have h6 := hL.2.1
  intro m
  induction m with
  | zero => intro k l7 hm; omega
  | succ m ih =>
    intro k l7 hm hk
    have e1 : lsF (lnV I q) so kd wo (k + 1) = if I 116 (30 * q + 3 * k) = so ∧ I 116 (30 * q + (3 * k + 1)) = kd then I 116 (30 * q + (3 * k + 2)) else lsF (lnV I q) so kd wo k := rfl
    rw [← Int.add_assoc, ← Int.add_assoc] at e1
    refine m_iload_n dX12_lastOf_7 rfl ?_
    refine m_iconst dX12_lastOf_8 (by decide) ?_
    refine m_icmp_eq (tgt := 80) dX12_lastOf_9 (by decide) (fun c9 => ?_) (fun c9 => ?_)
    · exact absurd c9 hq0
    · refine m_iload dX12_lastOf_12 rfl ?_
      refine m_aload_n dX12_lastOf_14 rfl ?_
      refine m_gr (z := 30) dX12_lastOf_15 fl_X12_60 oX_100 rfl rfl rX_100_30 ?_
      refine m_iload_n dX12_lastOf_18 rfl ?_
      refine m_iald dX12_lastOf_19 sX_115 (by omega) (by omega) ?_
      refine m_icmp_ge (tgt := 80) dX12_lastOf_20 (by decide) (fun c20 => ?_) (fun c20 => ?_)
      · have ek : k = (I 115 q).toNat := by omega
        subst ek
        refine m_iload dX12_lastOf_80 rfl ?_
        refine m_iret dX12_lastOf_82 rfl ?_
        exact h
      · refine m_bipush dX12_lastOf_23 rfl (by decide) ?_
        refine m_iload_n dX12_lastOf_25 rfl ?_
        refine m_imul dX12_lastOf_26 (by omega) ?_
        refine m_iconst dX12_lastOf_27 (by decide) ?_
        refine m_iload dX12_lastOf_28 rfl ?_
        refine m_imul dX12_lastOf_30 (by omega) ?_
        refine m_iadd dX12_lastOf_31 (by omega) ?_
        refine m_istore dX12_lastOf_32 (by decide) rfl rfl ?_
        refine m_aload_n dX12_lastOf_34 rfl ?_
        refine m_gr (z := 31) dX12_lastOf_35 fl_X12_63 oX_100 rfl rfl rX_100_31 ?_
        refine m_iload dX12_lastOf_38 rfl ?_
        refine m_iald dX12_lastOf_40 sX_116 (by omega) (by omega) ?_
        refine m_iload_n dX12_lastOf_41 rfl ?_
        refine m_ticmp_ne (tgt := 70) (M := 72) dX12_lastOf_42 (by decide) (fun c42 hM42 => by
            refine m_iload dX12_lastOf_70 rfl ?_
            exact hM42
          ) (fun c42 hM42 => by
            refine m_aload_n dX12_lastOf_45 rfl ?_
            refine m_gr (z := 31) dX12_lastOf_46 fl_X12_63 oX_100 rfl rfl rX_100_31 ?_
            refine m_iload dX12_lastOf_49 rfl ?_
            refine m_iconst dX12_lastOf_51 (by decide) ?_
            refine m_iadd dX12_lastOf_52 (by omega) ?_
            refine m_iald dX12_lastOf_53 sX_116 (by omega) (by omega) ?_
            refine m_iload_n dX12_lastOf_54 rfl ?_
            refine m_ticmp_ne (tgt := 70) (M := 72) dX12_lastOf_55 (by decide) (fun c55 hM55 => by
                refine m_iload dX12_lastOf_70 rfl ?_
                exact hM55
              ) (fun c55 hM55 => by
                refine m_aload_n dX12_lastOf_58 rfl ?_
                refine m_gr (z := 31) dX12_lastOf_59 fl_X12_63 oX_100 rfl rfl rX_100_31 ?_
                refine m_iload dX12_lastOf_62 rfl ?_
                refine m_iconst dX12_lastOf_64 (by decide) ?_
                refine m_iadd dX12_lastOf_65 (by omega) ?_
                refine m_iald dX12_lastOf_66 sX_116 (by omega) (by omega) ?_
                refine m_goto (tgt := 72) dX12_lastOf_67 (by decide) ?_
                exact hM55
              ) ?_
            exact hM42
          ) ?_
        refine m_top (lsF (lnV I q) so kd wo (k + 1)) (by rw [e1]; (repeat' split) <;> first | rfl | omega) ?_
        refine m_istore dX12_lastOf_72 (by decide) rfl rfl ?_
        refine m_iinc dX12_lastOf_74 rfl (by decide) rfl rfl (by omega) ?_
        refine m_goto (tgt := 7) dX12_lastOf_77 (by decide) ?_
        exact ih (k + 1) _ (by omega) (by omega)
theorem y_lastOf {no2 : Nat} {q so kd wo : Int} (hL : LnI I no2) (hq : -1 ≤ q ∧ q < no2) : SP g d mX12_lastOf 0 0 [vr 100, vi q, vi so, vi kd, vi wo] (shX nm no) (RX nm no) I (some (vi (lsO I q so kd wo))) (shX nm no) (RX nm no) I := by
  intro Q h
  refine C_of rfl (Nat.le_of_ble_eq_true rfl) rfl ?_
  refine m_iload dX12_lastOf_0 rfl ?_
  refine m_istore dX12_lastOf_2 (by decide) rfl rfl ?_
  refine m_iconst dX12_lastOf_4 (by decide) ?_
  refine m_istore dX12_lastOf_5 (by decide) rfl rfl ?_
  unfold lsO at h
  by_cases hq0 : q = -1
  · rw [if_pos hq0] at h
    refine m_iload_n dX12_lastOf_7 rfl ?_
    refine m_iconst dX12_lastOf_8 (by decide) ?_
    refine m_icmp_eq (tgt := 80) dX12_lastOf_9 (by decide) (fun c9 => ?_) (fun c9 => ?_)
    · refine m_iload dX12_lastOf_80 rfl ?_
      refine m_iret dX12_lastOf_82 rfl ?_
      exact h
    · exact absurd hq0 c9
  · rw [if_neg hq0] at h
    exact y_lo_loop hL hq hq0 h _ 0 _ (Nat.lt_succ_self _) (by omega)
theorem y_rankOf {no2 : Nat} {q kd : Int} (hd : 1 ≤ d) (hL : LnI I no2) (hq : -1 ≤ q ∧ q < no2) : SP g d mX12_rankOf 0 0 [vr 100, vi q, vi kd] (shX nm no) (RX nm no) I (some (vi (lsO I q 0 kd (rkD kd)))) (shX nm no) (RX nm no) I := by
  intro Q h
  refine C_of rfl (Nat.le_of_ble_eq_true rfl) rfl ?_
  refine m_aload_n dX12_rankOf_0 rfl ?_
  refine m_iload_n dX12_rankOf_1 rfl ?_
  refine m_iconst dX12_rankOf_2 (by decide) ?_
  refine m_iload_n dX12_rankOf_3 rfl ?_
  refine m_iload_n dX12_rankOf_4 rfl ?_
  refine m_iconst dX12_rankOf_5 (by decide) ?_
  refine m_ticmp_ne (tgt := 13) (M := 40) dX12_rankOf_6 (by decide) (fun c6 hM6 => by
      refine m_iload_n dX12_rankOf_13 rfl ?_
      refine m_iconst dX12_rankOf_14 (by decide) ?_
      refine m_ticmp_ne (tgt := 22) (M := 40) dX12_rankOf_15 (by decide) (fun c15 hM15 => by
          refine m_iload_n dX12_rankOf_22 rfl ?_
          refine m_iconst dX12_rankOf_23 (by decide) ?_
          refine m_ticmp_ne (tgt := 31) (M := 40) dX12_rankOf_24 (by decide) (fun c24 hM24 => by
              refine m_iload_n dX12_rankOf_31 rfl ?_
              refine m_tif_ne (tgt := 39) (M := 40) dX12_rankOf_32 (by decide) (fun c32 hM32 => by
                  refine m_iconst dX12_rankOf_39 (by decide) ?_
                  exact hM32
                ) (fun c32 hM32 => by
                  refine m_iconst dX12_rankOf_35 (by decide) ?_
                  refine m_goto (tgt := 40) dX12_rankOf_36 (by decide) ?_
                  exact hM32
                ) ?_
              exact hM24
            ) (fun c24 hM24 => by
              refine m_iconst dX12_rankOf_27 (by decide) ?_
              refine m_goto (tgt := 40) dX12_rankOf_28 (by decide) ?_
              exact hM24
            ) ?_
          exact hM15
        ) (fun c15 hM15 => by
          refine m_iconst dX12_rankOf_18 (by decide) ?_
          refine m_goto (tgt := 40) dX12_rankOf_19 (by decide) ?_
          exact hM15
        ) ?_
      exact hM6
    ) (fun c6 hM6 => by
      refine m_iconst dX12_rankOf_9 (by decide) ?_
      refine m_goto (tgt := 40) dX12_rankOf_10 (by decide) ?_
      exact hM6
    ) ?_
  refine m_top (rkD kd) (by unfold rkD; (repeat' split) <;> first | rfl | omega) ?_
  refine m_Vi [_, _, _, _] dX12_rankOf_40 lk_X12_160 rfl oX_100 rfl (Nat.le_of_ble_eq_true rfl) (by omega) (y_lastOf hL hq) ?_
  refine m_iret dX12_rankOf_43 rfl ?_
  exact h
theorem y_tw_loop {no2 : Nat} {q kd : Int} {Q : QT} (hL : LnI I no2) (hq : -1 ≤ q ∧ q < no2) (hq0 : q ≠ -1) (h : Q (some (vi (bP (twF (lnV I q) kd (I 115 q).toNat)))) (shX nm no) (RX nm no) I) : ∀ (m k : Nat) (f : Int), (I 115 q).toNat - k < m → k ≤ (I 115 q).toNat → isB f (twF (lnV I q) kd k) → T g d mX12_isTwice 0 0 14 [some (vr 100), some (vi q), some (vi kd), some (vi f), some (vi k)] [] (shX nm no) (RX nm no) I Q := by
  have hb := hL.2.2 q (by omega) hq.2
  have h6 := hL.2.1
  intro m
  induction m with
  | zero => intro k f hm; omega
  | succ m ih =>
    intro k f hm hk hf
    have hf1 := hf.1
    refine m_iload_n dX12_isTwice_14 rfl ?_
    refine m_iconst dX12_isTwice_15 (by decide) ?_
    refine m_icmp_eq (tgt := 84) dX12_isTwice_16 (by decide) (fun c16 => ?_) (fun c16 => ?_)
    · exact absurd c16 hq0
    · refine m_iload dX12_isTwice_19 rfl ?_
      refine m_aload_n dX12_isTwice_21 rfl ?_
      refine m_gr (z := 30) dX12_isTwice_22 fl_X12_60 oX_100 rfl rfl rX_100_30 ?_
      refine m_iload_n dX12_isTwice_25 rfl ?_
      refine m_iald dX12_isTwice_26 sX_115 (by omega) (by omega) ?_
      refine m_icmp_ge (tgt := 84) dX12_isTwice_27 (by decide) (fun c27 => ?_) (fun c27 => ?_)
      · have ek : k = (I 115 q).toNat := by omega
        rw [ek] at hf
        refine m_iload_n dX12_isTwice_84 rfl ?_
        refine m_zret dX12_isTwice_85 rfl hf1 ?_
        rw [hf.bp]
        exact h
      · refine m_iload_n dX12_isTwice_30 rfl ?_
        refine m_tif_ne (tgt := 72) (M := 77) dX12_isTwice_31 (by decide) (fun c31 hM31 => by
            refine m_iconst dX12_isTwice_72 (by decide) ?_
            refine m_goto (tgt := 77) dX12_isTwice_73 (by decide) ?_
            exact hM31
          ) (fun c31 hM31 => by
            refine m_aload_n dX12_isTwice_34 rfl ?_
            refine m_gr (z := 31) dX12_isTwice_35 fl_X12_63 oX_100 rfl rfl rX_100_31 ?_
            refine m_bipush dX12_isTwice_38 rfl (by decide) ?_
            refine m_iload_n dX12_isTwice_40 rfl ?_
            refine m_imul dX12_isTwice_41 (by omega) ?_
            refine m_iconst dX12_isTwice_42 (by decide) ?_
            refine m_iload dX12_isTwice_43 rfl ?_
            refine m_imul dX12_isTwice_45 (by omega) ?_
            refine m_iadd dX12_isTwice_46 (by omega) ?_
            refine m_iald dX12_isTwice_47 sX_116 (by omega) (by omega) ?_
            refine m_iconst dX12_isTwice_48 (by decide) ?_
            refine m_ticmp_ne (tgt := 76) (M := 77) dX12_isTwice_49 (by decide) (fun c49 hM49 => by
                refine m_iconst dX12_isTwice_76 (by decide) ?_
                exact hM49
              ) (fun c49 hM49 => by
                refine m_aload_n dX12_isTwice_52 rfl ?_
                refine m_gr (z := 31) dX12_isTwice_53 fl_X12_63 oX_100 rfl rfl rX_100_31 ?_
                refine m_bipush dX12_isTwice_56 rfl (by decide) ?_
                refine m_iload_n dX12_isTwice_58 rfl ?_
                refine m_imul dX12_isTwice_59 (by omega) ?_
                refine m_iconst dX12_isTwice_60 (by decide) ?_
                refine m_iload dX12_isTwice_61 rfl ?_
                refine m_imul dX12_isTwice_63 (by omega) ?_
                refine m_iadd dX12_isTwice_64 (by omega) ?_
                refine m_iconst dX12_isTwice_65 (by decide) ?_
                refine m_iadd dX12_isTwice_66 (by omega) ?_
                refine m_iald dX12_isTwice_67 sX_116 (by omega) (by omega) ?_
                refine m_iload_n dX12_isTwice_68 rfl ?_
                refine m_ticmp_ne (tgt := 76) (M := 77) dX12_isTwice_69 (by decide) (fun c69 hM69 => by
                    refine m_iconst dX12_isTwice_76 (by decide) ?_
                    exact hM69
                  ) (fun c69 hM69 => by
                    refine m_iconst dX12_isTwice_72 (by decide) ?_
                    refine m_goto (tgt := 77) dX12_isTwice_73 (by decide) ?_
                    exact hM69
                  ) ?_
                exact hM49
              ) ?_
            exact hM31
          ) ?_
        refine m_top (bI (f = 1 ∨ (I 116 (30 * q + 3 * k) = 4 ∧ I 116 (30 * q + 3 * k + 1) = kd))) (by unfold bI; (repeat' split) <;> first | rfl | omega) ?_
        refine m_istore_n dX12_isTwice_77 (by decide) rfl rfl ?_
        refine m_iinc dX12_isTwice_78 rfl (by decide) rfl rfl (by omega) ?_
        refine m_goto (tgt := 14) dX12_isTwice_81 (by decide) ?_
        refine ih (k + 1) _ (by omega) (by omega) (isB_bI ?_)
        constructor
        · rintro (z | z)
          · rcases hf.2.mp z with y | ⟨j, j1, j2⟩
            · exact Or.inl y
            · exact Or.inr ⟨j, by omega, j2⟩
          · exact Or.inr ⟨k, by omega, z.1, by rw [← z.2]; show I 116 (30 * q + (3 * k + 1)) = _; rw [← Int.add_assoc]⟩
        · rintro (y | ⟨j, j1, j2, j3⟩)
          · exact Or.inl (hf.2.mpr (Or.inl y))
          · rcases (show j < k ∨ j = k by omega) with z | z
            · exact Or.inl (hf.2.mpr (Or.inr ⟨j, z, j2, j3⟩))
            · subst z
              refine Or.inr ⟨j2, ?_⟩
              rw [← j3]; show _ = I 116 (30 * q + (3 * j + 1)); rw [← Int.add_assoc]
theorem y_isTwice {no2 : Nat} {q kd : Int} (hL : LnI I no2) (hq : -1 ≤ q ∧ q < no2) : SP g d mX12_isTwice 0 0 [vr 100, vi q, vi kd] (shX nm no) (RX nm no) I (some (vi (bP (twO I q kd)))) (shX nm no) (RX nm no) I := by
  intro Q h
  refine C_of rfl (Nat.le_of_ble_eq_true rfl) rfl ?_
  refine m_iload_n dX12_isTwice_0 rfl ?_
  refine m_iconst dX12_isTwice_1 (by decide) ?_
  refine m_ticmp_ne (tgt := 9) (M := 10) dX12_isTwice_2 (by decide) (fun c2 hM2 => by
      refine m_iconst dX12_isTwice_9 (by decide) ?_
      exact hM2
    ) (fun c2 hM2 => by
      refine m_iconst dX12_isTwice_5 (by decide) ?_
      refine m_goto (tgt := 10) dX12_isTwice_6 (by decide) ?_
      exact hM2
    ) ?_
  refine m_top (bI (kd = 4)) (by unfold bI; (repeat' split) <;> first | rfl | omega) ?_
  refine m_istore_n dX12_isTwice_10 (by decide) rfl rfl ?_
  refine m_iconst dX12_isTwice_11 (by decide) ?_
  refine m_istore dX12_isTwice_12 (by decide) rfl rfl ?_
  unfold twO at h
  by_cases hq0 : q = -1
  · rw [if_pos hq0, ← bI_bP] at h
    refine m_iload_n dX12_isTwice_14 rfl ?_
    refine m_iconst dX12_isTwice_15 (by decide) ?_
    refine m_icmp_eq (tgt := 84) dX12_isTwice_16 (by decide) (fun c16 => ?_) (fun c16 => ?_)
    · refine m_iload_n dX12_isTwice_84 rfl ?_
      refine m_zret dX12_isTwice_85 rfl bI_01 ?_
      exact h
    · exact absurd hq0 c16
  · rw [if_neg hq0] at h
    exact y_tw_loop hL hq hq0 h _ 0 _ (Nat.lt_succ_self _) (by omega) (isB_bI ⟨fun z => Or.inl z, fun z => z.elim id (fun ⟨j, j1, _⟩ => by omega)⟩)
theorem y_ng_loop {no2 : Nat} {q t : Int} {Q : QT} (hd : 1 ≤ d) (hL : LnI I no2) (hq : -1 ≤ q ∧ q < no2) (hq0 : q ≠ -1) (h : Q (some (vi (bP (ngF (lnV I q) t (I 115 q).toNat)))) (shX nm no) (RX nm no) I) : ∀ (m k : Nat) (f : Int) (l5 l6 l7 : Option AV), (I 115 q).toNat - k < m → k ≤ (I 115 q).toNat → isB f (ngF (lnV I q) t k) → T g d mX12_isNightHour 0 0 5 [some (vr 100), some (vi q), some (vi t), some (vi f), some (vi k), l5, l6, l7] [] (shX nm no) (RX nm no) I Q := by
  have hb := hL.2.2 q (by omega) hq.2
  have h6 := hL.2.1
  intro m
  induction m with
  | zero => intro k f l5 l6 l7 hm; omega
  | succ m ih =>
    intro k f l5 l6 l7 hm hk hf
    have hf1 := hf.1
    have e1 : ngF (lnV I q) t (k + 1) = if I 116 (30 * q + 3 * k) = 3 then (if I 116 (30 * q + (3 * k + 1)) ≤ I 116 (30 * q + (3 * k + 2)) then I 116 (30 * q + (3 * k + 1)) ≤ t ∧ t ≤ I 116 (30 * q + (3 * k + 2)) else I 116 (30 * q + (3 * k + 1)) ≤ t ∨ t ≤ I 116 (30 * q + (3 * k + 2))) else ngF (lnV I q) t k := rfl
    rw [← Int.add_assoc, ← Int.add_assoc] at e1
    refine m_iload_n dX12_isNightHour_5 rfl ?_
    refine m_iconst dX12_isNightHour_6 (by decide) ?_
    refine m_icmp_eq (tgt := 107) dX12_isNightHour_7 (by decide) (fun c7 => ?_) (fun c7 => ?_)
    · exact absurd c7 hq0
    · refine m_iload dX12_isNightHour_10 rfl ?_
      refine m_aload_n dX12_isNightHour_12 rfl ?_
      refine m_gr (z := 30) dX12_isNightHour_13 fl_X12_60 oX_100 rfl rfl rX_100_30 ?_
      refine m_iload_n dX12_isNightHour_16 rfl ?_
      refine m_iald dX12_isNightHour_17 sX_115 (by omega) (by omega) ?_
      refine m_icmp_ge (tgt := 107) dX12_isNightHour_18 (by decide) (fun c18 => ?_) (fun c18 => ?_)
      · have ek : k = (I 115 q).toNat := by omega
        rw [ek] at hf
        refine m_iload_n dX12_isNightHour_107 rfl ?_
        refine m_zret dX12_isNightHour_108 rfl hf1 ?_
        rw [hf.bp]
        exact h
      · refine m_bipush dX12_isNightHour_21 rfl (by decide) ?_
        refine m_iload_n dX12_isNightHour_23 rfl ?_
        refine m_imul dX12_isNightHour_24 (by omega) ?_
        refine m_iconst dX12_isNightHour_25 (by decide) ?_
        refine m_iload dX12_isNightHour_26 rfl ?_
        refine m_imul dX12_isNightHour_28 (by omega) ?_
        refine m_iadd dX12_isNightHour_29 (by omega) ?_
        refine m_istore dX12_isNightHour_30 (by decide) rfl rfl ?_
        refine m_aload_n dX12_isNightHour_32 rfl ?_
        refine m_gr (z := 31) dX12_isNightHour_33 fl_X12_63 oX_100 rfl rfl rX_100_31 ?_
        refine m_iload dX12_isNightHour_36 rfl ?_
        refine m_iconst dX12_isNightHour_38 (by decide) ?_
        refine m_iadd dX12_isNightHour_39 (by omega) ?_
        refine m_iald dX12_isNightHour_40 sX_116 (by omega) (by omega) ?_
        refine m_istore dX12_isNightHour_41 (by decide) rfl rfl ?_
        refine m_aload_n dX12_isNightHour_43 rfl ?_
        refine m_gr (z := 31) dX12_isNightHour_44 fl_X12_63 oX_100 rfl rfl rX_100_31 ?_
        refine m_iload dX12_isNightHour_47 rfl ?_
        refine m_iconst dX12_isNightHour_49 (by decide) ?_
        refine m_iadd dX12_isNightHour_50 (by omega) ?_
        refine m_iald dX12_isNightHour_51 sX_116 (by omega) (by omega) ?_
        refine m_istore dX12_isNightHour_52 (by decide) rfl rfl ?_
        refine m_aload_n dX12_isNightHour_54 rfl ?_
        refine m_gr (z := 31) dX12_isNightHour_55 fl_X12_63 oX_100 rfl rfl rX_100_31 ?_
        refine m_iload dX12_isNightHour_58 rfl ?_
        refine m_iald dX12_isNightHour_60 sX_116 (by omega) (by omega) ?_
        refine m_iconst dX12_isNightHour_61 (by decide) ?_
        refine m_icmp_ne (tgt := 101) dX12_isNightHour_62 (by decide) (fun c62 => ?_) (fun c62 => ?_)
        · rw [if_neg c62] at e1
          refine m_iinc dX12_isNightHour_101 rfl (by decide) rfl rfl (by omega) ?_
          refine m_goto (tgt := 5) dX12_isNightHour_104 (by decide) ?_
          first
          | exact ih (k + 1) _ _ _ _ (by omega) (by omega) ⟨bP_01, ⟨fun z => bP_ne0 (by rw [z]; decide), fun z => bP_t z⟩⟩
          | (rw [← e1] at hf; exact ih (k + 1) _ _ _ _ (by omega) (by omega) hf)
        · rw [if_pos (by omega)] at e1
          refine m_iload dX12_isNightHour_65 rfl ?_
          refine m_iload dX12_isNightHour_67 rfl ?_
          refine m_ticmp_gt (tgt := 83) (M := 100) dX12_isNightHour_69 (by decide) (fun c69 hM69 => by
              refine m_iload_n dX12_isNightHour_83 rfl ?_
              refine m_iload dX12_isNightHour_84 rfl ?_
              refine m_ticmp_ge (tgt := 95) (M := 100) dX12_isNightHour_86 (by decide) (fun c86 hM86 => by
                  refine m_iconst dX12_isNightHour_95 (by decide) ?_
                  refine m_goto (tgt := 100) dX12_isNightHour_96 (by decide) ?_
                  exact hM86
                ) (fun c86 hM86 => by
                  refine m_iload_n dX12_isNightHour_89 rfl ?_
                  refine m_iload dX12_isNightHour_90 rfl ?_
                  refine m_ticmp_gt (tgt := 99) (M := 100) dX12_isNightHour_92 (by decide) (fun c92 hM92 => by
                      refine m_iconst dX12_isNightHour_99 (by decide) ?_
                      exact hM92
                    ) (fun c92 hM92 => by
                      refine m_iconst dX12_isNightHour_95 (by decide) ?_
                      refine m_goto (tgt := 100) dX12_isNightHour_96 (by decide) ?_
                      exact hM92
                    ) ?_
                  exact hM86
                ) ?_
              exact hM69
            ) (fun c69 hM69 => by
              refine m_iload_n dX12_isNightHour_72 rfl ?_
              refine m_iload dX12_isNightHour_73 rfl ?_
              refine m_iload dX12_isNightHour_75 rfl ?_
              refine m_Si [_, _, _] dX12_isNightHour_77 lk_X12_123 rfl rfl (Nat.le_of_ble_eq_true rfl) (by omega) y_in ?_
              refine m_goto (tgt := 100) dX12_isNightHour_80 (by decide) ?_
              exact hM69
            ) ?_
          refine m_top (bP (ngF (lnV I q) t (k + 1))) (by
            rw [e1]
            by_cases z1 : I 116 (30 * q + 3 * k + 1) ≤ I 116 (30 * q + 3 * k + 2)
            · rw [if_pos z1, ← bI_bP, if_neg (by omega)]
            · rw [if_neg z1, ← bI_bP, if_pos (by omega)]
              unfold bI
              (repeat' split) <;> first | rfl | omega) ?_
          refine m_istore_n dX12_isNightHour_100 (by decide) rfl rfl ?_
          refine m_iinc dX12_isNightHour_101 rfl (by decide) rfl rfl (by omega) ?_
          refine m_goto (tgt := 5) dX12_isNightHour_104 (by decide) ?_
          first
          | exact ih (k + 1) _ _ _ _ (by omega) (by omega) ⟨bP_01, ⟨fun z => bP_ne0 (by rw [z]; decide), fun z => bP_t z⟩⟩
          | (rw [← e1] at hf; exact ih (k + 1) _ _ _ _ (by omega) (by omega) hf)
theorem y_isNightHour {no2 : Nat} {q t : Int} (hd : 1 ≤ d) (hL : LnI I no2) (hq : -1 ≤ q ∧ q < no2) : SP g d mX12_isNightHour 0 0 [vr 100, vi q, vi t] (shX nm no) (RX nm no) I (some (vi (bP (ngO I q t)))) (shX nm no) (RX nm no) I := by
  intro Q h
  refine C_of rfl (Nat.le_of_ble_eq_true rfl) rfl ?_
  refine m_iconst dX12_isNightHour_0 (by decide) ?_
  refine m_istore_n dX12_isNightHour_1 (by decide) rfl rfl ?_
  refine m_iconst dX12_isNightHour_2 (by decide) ?_
  refine m_istore dX12_isNightHour_3 (by decide) rfl rfl ?_
  unfold ngO at h
  by_cases hq0 : q = -1
  · rw [if_pos hq0, bP_t trivial] at h
    refine m_iload_n dX12_isNightHour_5 rfl ?_
    refine m_iconst dX12_isNightHour_6 (by decide) ?_
    refine m_icmp_eq (tgt := 107) dX12_isNightHour_7 (by decide) (fun c7 => ?_) (fun c7 => ?_)
    · refine m_iload_n dX12_isNightHour_107 rfl ?_
      refine m_zret dX12_isNightHour_108 rfl (Or.inr rfl) ?_
      exact h
    · exact absurd hq0 c7
  · rw [if_neg hq0] at h
    exact y_ng_loop hd hL hq hq0 h _ 0 _ _ _ _ (Nat.lt_succ_self _) (by omega) (isB_1 trivial)
theorem y_isNight {no2 : Nat} {q t : Int} (hd : 2 ≤ d) (hL : LnI I no2) (hq : -1 ≤ q ∧ q < no2) (ht : 0 ≤ t) : SP g d mX12_isNight 0 0 [vr 100, vi q, vi t] (shX nm no) (RX nm no) I (some (vi (bP (ngO I q (t % 1440 / 60))))) (shX nm no) (RX nm no) I := by
  intro Q h
  refine C_of rfl (Nat.le_of_ble_eq_true rfl) rfl ?_
  refine m_aload_n dX12_isNight_0 rfl ?_
  refine m_iload_n dX12_isNight_1 rfl ?_
  refine m_iload_n dX12_isNight_2 rfl ?_
  refine m_sipush dX12_isNight_3 rfl (by decide) ?_
  refine m_irem dX12_isNight_6 (by omega) (by omega) ?_
  refine m_bipush dX12_isNight_7 rfl (by decide) ?_
  refine m_idiv dX12_isNight_9 (by omega) (by omega) ?_
  refine m_Vi [_, _] dX12_isNight_10 lk_X12_187 rfl oX_100 rfl (Nat.le_of_ble_eq_true rfl) (by omega) (y_isNightHour (by omega) hL hq) ?_
  refine m_zret dX12_isNight_13 rfl bP_01 ?_
  exact h
noncomputable def wsO (I : II) (q n k : Int) : Int := cif (twO I q k) (2 * n) n
theorem y_wordsOf {no2 : Nat} {q n k : Int} (hd : 1 ≤ d) (hL : LnI I no2) (hq : -1 ≤ q ∧ q < no2) (hn : 0 ≤ n ∧ n ≤ 1000) : SP g d mX12_wordsOf 0 0 [vr 100, vi n, vi k, vi q] (shX nm no) (RX nm no) I (some (vi (wsO I q n k))) (shX nm no) (RX nm no) I := by
  intro Q h
  refine C_of rfl (Nat.le_of_ble_eq_true rfl) rfl ?_
  refine m_aload_n dX12_wordsOf_0 rfl ?_
  refine m_iload_n dX12_wordsOf_1 rfl ?_
  refine m_iload_n dX12_wordsOf_2 rfl ?_
  refine m_Vi [_, _] dX12_wordsOf_3 lk_X12_164 rfl oX_100 rfl (Nat.le_of_ble_eq_true rfl) (by omega) (y_isTwice hL hq) ?_
  refine m_if_eq (tgt := 15) dX12_wordsOf_6 (by decide) (fun c6 => ?_) (fun c6 => ?_)
  · have z6 := bP_eq0 c6
    refine m_iload_n dX12_wordsOf_15 rfl ?_
    refine m_iret dX12_wordsOf_16 rfl ?_
    unfold wsO at h
    first | (rw [cif_f z6] at h; exact h) | (rw [cif_t z6] at h; exact h)
  · have z6 := bP_ne0 c6
    refine m_iconst dX12_wordsOf_9 (by decide) ?_
    refine m_iload_n dX12_wordsOf_10 rfl ?_
    refine m_imul dX12_wordsOf_11 (by omega) ?_
    refine m_goto (tgt := 16) dX12_wordsOf_12 (by decide) ?_
    refine m_iret dX12_wordsOf_16 rfl ?_
    unfold wsO at h
    first | (rw [cif_f z6] at h; exact h) | (rw [cif_t z6] at h; exact h)
noncomputable def aTold (k what kind no : Int) (rk py tw le ba ng : Int) : Int := if -1 ≤ k ∧ k ≤ no - 1 then (if (0 ≤ what ∧ what ≤ 5) ∧ (0 ≤ kind ∧ kind ≤ (if what = 5 then 23 else if what ≤ 2 then 4 else 0)) then (if what = 0 then rk else if what = 1 then py else if what = 2 then tw else if what = 3 then le else if what = 4 then ba else ng) else -3) else -2
theorem py_told {k what kind : Int} (hd : 2 ≤ d) {no2 : Nat} (hL : LnI I no2) : SP g d mX12_told 0 0 [vr 100, vi k, vi what, vi kind] (shX nm no) (RX nm no) I (some (vi (aTold k what kind no2 (lsO I k 0 kind (rkD kind)) (lsO I k 1 kind 1) (bP (twO I k kind)) (lsO I k 2 0 0) (lsO I k 5 0 0) (bP (ngO I k kind))))) (shX nm no) (RX nm no) I := by
  have h1 := hL.1
  have h2 := hL.2.1
  intro Q h
  refine C_of rfl (Nat.le_of_ble_eq_true rfl) rfl ?_
  refine m_iload_n dX12_told_0 rfl ?_
  refine m_iconst dX12_told_1 (by decide) ?_
  refine m_aload_n dX12_told_2 rfl ?_
  refine m_gi (z := 27) dX12_told_3 fl_X12_310 oX_100 rfl rfl ?_
  refine m_iconst dX12_told_6 (by decide) ?_
  refine m_isub dX12_told_7 (by omega) ?_
  refine m_Si [_, _, _] dX12_told_8 lk_X12_123 rfl rfl (Nat.le_of_ble_eq_true rfl) (by omega) y_in ?_
  refine m_if_ne (tgt := 17) dX12_told_11 (by decide) (fun c11 => ?_) (fun c11 => ?_)
  · have z11 := bI_ne0 c11
    refine m_iload_n dX12_told_17 rfl ?_
    refine m_iconst dX12_told_18 (by decide) ?_
    refine m_iconst dX12_told_19 (by decide) ?_
    refine m_Si [_, _, _] dX12_told_20 lk_X12_123 rfl rfl (Nat.le_of_ble_eq_true rfl) (by omega) y_in ?_
    refine m_if_eq (tgt := 54) dX12_told_23 (by decide) (fun c23 => ?_) (fun c23 => ?_)
    · have z23 := bI_eq0 c23
      refine m_bipush dX12_told_54 rfl (by decide) ?_
      refine m_iret dX12_told_56 rfl ?_
      refine Eq.mp (congrArg (fun z => Q (some (vi z)) _ _ _) ?_) h
      unfold aTold
      (repeat' split) <;> first | rfl | omega
    · have z23 := bI_ne0 c23
      refine m_iload_n dX12_told_26 rfl ?_
      refine m_iconst dX12_told_27 (by decide) ?_
      refine m_iload_n dX12_told_28 rfl ?_
      refine m_iconst dX12_told_29 (by decide) ?_
      refine m_ticmp_ge (tgt := 37) (M := 48) dX12_told_30 (by decide) (fun c30 hM30 => by
          refine m_iload_n dX12_told_37 rfl ?_
          refine m_iconst dX12_told_38 (by decide) ?_
          refine m_ticmp_ge (tgt := 46) (M := 48) dX12_told_39 (by decide) (fun c39 hM39 => by
              refine m_bipush dX12_told_46 rfl (by decide) ?_
              exact hM39
            ) (fun c39 hM39 => by
              refine m_iconst dX12_told_42 (by decide) ?_
              refine m_goto (tgt := 48) dX12_told_43 (by decide) ?_
              exact hM39
            ) ?_
          exact hM30
        ) (fun c30 hM30 => by
          refine m_iconst dX12_told_33 (by decide) ?_
          refine m_goto (tgt := 48) dX12_told_34 (by decide) ?_
          exact hM30
        ) ?_
      refine m_top (if what = 5 then 23 else if what ≤ 2 then 4 else 0) (by (repeat' split) <;> first | rfl | omega) ?_
      refine m_Si [_, _, _] dX12_told_48 lk_X12_123 rfl rfl (Nat.le_of_ble_eq_true rfl) (by omega) y_in ?_
      refine m_if_ne (tgt := 57) dX12_told_51 (by decide) (fun c51 => ?_) (fun c51 => ?_)
      · have z51 := bI_ne0 c51
        refine m_iload_n dX12_told_57 rfl ?_
        by_cases e58_0 : what = 0
        · refine m_tableIn (tgt := 92) 0 dX12_told_58 e58_0 (by decide) (by decide) rfl (by decide) ?_
          refine m_aload_n dX12_told_92 rfl ?_
          refine m_iload_n dX12_told_93 rfl ?_
          refine m_iload_n dX12_told_94 rfl ?_
          refine m_Vi [_, _] dX12_told_95 lk_X12_196 rfl oX_100 rfl (Nat.le_of_ble_eq_true rfl) (by omega) (y_rankOf (by omega) hL ⟨by omega, by omega⟩) ?_
          refine m_iret dX12_told_98 rfl ?_
          refine Eq.mp (congrArg (fun z => Q (some (vi z)) _ _ _) ?_) h
          unfold aTold
          (repeat' split) <;> first | rfl | omega
        by_cases e58_1 : what = 1
        · refine m_tableIn (tgt := 99) 1 dX12_told_58 e58_1 (by decide) (by decide) rfl (by decide) ?_
          refine m_aload_n dX12_told_99 rfl ?_
          refine m_iload_n dX12_told_100 rfl ?_
          refine m_iconst dX12_told_101 (by decide) ?_
          refine m_iload_n dX12_told_102 rfl ?_
          refine m_iconst dX12_told_103 (by decide) ?_
          refine m_Vi [_, _, _, _] dX12_told_104 lk_X12_160 rfl oX_100 rfl (Nat.le_of_ble_eq_true rfl) (by omega) (y_lastOf hL ⟨by omega, by omega⟩) ?_
          refine m_iret dX12_told_107 rfl ?_
          refine Eq.mp (congrArg (fun z => Q (some (vi z)) _ _ _) ?_) h
          unfold aTold
          (repeat' split) <;> first | rfl | omega
        by_cases e58_2 : what = 2
        · refine m_tableIn (tgt := 108) 2 dX12_told_58 e58_2 (by decide) (by decide) rfl (by decide) ?_
          refine m_aload_n dX12_told_108 rfl ?_
          refine m_iload_n dX12_told_109 rfl ?_
          refine m_iload_n dX12_told_110 rfl ?_
          refine m_Vi [_, _] dX12_told_111 lk_X12_164 rfl oX_100 rfl (Nat.le_of_ble_eq_true rfl) (by omega) (y_isTwice hL ⟨by omega, by omega⟩) ?_
          refine m_if_eq (tgt := 121) dX12_told_114 (by decide) (fun c114 => ?_) (fun c114 => ?_)
          · have z2 := bP_eq0 c114
            rw [bP_f z2] at h
            refine m_iconst dX12_told_121 (by decide) ?_
            refine m_iret dX12_told_122 rfl ?_
            refine Eq.mp (congrArg (fun z => Q (some (vi z)) _ _ _) ?_) h
            unfold aTold
            (repeat' split) <;> first | rfl | omega
          · have z2 := bP_ne0 c114
            rw [bP_t z2] at h
            refine m_iconst dX12_told_117 (by decide) ?_
            refine m_goto (tgt := 122) dX12_told_118 (by decide) ?_
            refine m_iret dX12_told_122 rfl ?_
            refine Eq.mp (congrArg (fun z => Q (some (vi z)) _ _ _) ?_) h
            unfold aTold
            (repeat' split) <;> first | rfl | omega
        by_cases e58_3 : what = 3
        · refine m_tableIn (tgt := 123) 3 dX12_told_58 e58_3 (by decide) (by decide) rfl (by decide) ?_
          refine m_aload_n dX12_told_123 rfl ?_
          refine m_iload_n dX12_told_124 rfl ?_
          refine m_iconst dX12_told_125 (by decide) ?_
          refine m_iconst dX12_told_126 (by decide) ?_
          refine m_iconst dX12_told_127 (by decide) ?_
          refine m_Vi [_, _, _, _] dX12_told_128 lk_X12_160 rfl oX_100 rfl (Nat.le_of_ble_eq_true rfl) (by omega) (y_lastOf hL ⟨by omega, by omega⟩) ?_
          refine m_iret dX12_told_131 rfl ?_
          refine Eq.mp (congrArg (fun z => Q (some (vi z)) _ _ _) ?_) h
          unfold aTold
          (repeat' split) <;> first | rfl | omega
        by_cases e58_4 : what = 4
        · refine m_tableIn (tgt := 132) 4 dX12_told_58 e58_4 (by decide) (by decide) rfl (by decide) ?_
          refine m_aload_n dX12_told_132 rfl ?_
          refine m_iload_n dX12_told_133 rfl ?_
          refine m_iconst dX12_told_134 (by decide) ?_
          refine m_iconst dX12_told_135 (by decide) ?_
          refine m_iconst dX12_told_136 (by decide) ?_
          refine m_Vi [_, _, _, _] dX12_told_137 lk_X12_160 rfl oX_100 rfl (Nat.le_of_ble_eq_true rfl) (by omega) (y_lastOf hL ⟨by omega, by omega⟩) ?_
          refine m_iret dX12_told_140 rfl ?_
          refine Eq.mp (congrArg (fun z => Q (some (vi z)) _ _ _) ?_) h
          unfold aTold
          (repeat' split) <;> first | rfl | omega
        refine m_tableOut (tgt := 141) dX12_told_58 (by omega) (by decide) ?_
        refine m_aload_n dX12_told_141 rfl ?_
        refine m_iload_n dX12_told_142 rfl ?_
        refine m_iload_n dX12_told_143 rfl ?_
        refine m_Vi [_, _] dX12_told_144 lk_X12_187 rfl oX_100 rfl (Nat.le_of_ble_eq_true rfl) (by omega) (y_isNightHour (by omega) hL ⟨by omega, by omega⟩) ?_
        refine m_if_eq (tgt := 154) dX12_told_147 (by decide) (fun c147 => ?_) (fun c147 => ?_)
        · have z2 := bP_eq0 c147
          rw [bP_f z2] at h
          refine m_iconst dX12_told_154 (by decide) ?_
          refine m_iret dX12_told_155 rfl ?_
          refine Eq.mp (congrArg (fun z => Q (some (vi z)) _ _ _) ?_) h
          unfold aTold
          (repeat' split) <;> first | rfl | omega
        · have z2 := bP_ne0 c147
          rw [bP_t z2] at h
          refine m_iconst dX12_told_150 (by decide) ?_
          refine m_goto (tgt := 155) dX12_told_151 (by decide) ?_
          refine m_iret dX12_told_155 rfl ?_
          refine Eq.mp (congrArg (fun z => Q (some (vi z)) _ _ _) ?_) h
          unfold aTold
          (repeat' split) <;> first | rfl | omega
      · have z51 := bI_eq0 (show _ = (0 : Int) by omega)
        refine m_bipush dX12_told_54 rfl (by decide) ?_
        refine m_iret dX12_told_56 rfl ?_
        refine Eq.mp (congrArg (fun z => Q (some (vi z)) _ _ _) ?_) h
        unfold aTold
        (repeat' split) <;> first | rfl | omega
  · have z11 := bI_eq0 (show _ = (0 : Int) by omega)
    refine m_bipush dX12_told_14 rfl (by decide) ?_
    refine m_iret dX12_told_16 rfl ?_
    refine Eq.mp (congrArg (fun z => Q (some (vi z)) _ _ _) ?_) h
    unfold aTold
    (repeat' split) <;> first | rfl | omega
end
