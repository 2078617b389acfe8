/-! TAPES: Integer.bitCount, fewestBlamed -/
def bc1 (n : Int) : Int := n - f_iand (f_iushr n 1) 1431655765
def bc2 (n : Int) : Int := f_iand (bc1 n) 858993459 + f_iand (f_iushr (bc1 n) 2) 858993459
def bc3 (n : Int) : Int := bc2 n + f_iushr (bc2 n) 4
def bc4 (n : Int) : Int := f_iand (bc3 n) 252645135 + f_iushr (f_iand (bc3 n) 252645135) 8
def bc5 (n : Int) : Int := bc4 n + f_iushr (bc4 n) 16
/-- how many of the eight low bits are set -/
def pcF (n : Nat) : Nat := n % 2 + n / 2 % 2 + n / 4 % 2 + n / 8 % 2 + n / 16 % 2 + n / 32 % 2 + n / 64 % 2 + n / 128 % 2
theorem bc_ok : ∀ n : Fin 256, R32 (bc1 n.val) ∧ R32 (bc2 n.val) ∧ R32 (bc3 n.val) ∧ R32 (bc4 n.val) ∧ R32 (bc5 n.val) ∧ f_iand (bc5 n.val) 63 = pcF n.val := by decide +kernel
theorem x_bitCount {g : GH} {d : Nat} {I : II} {sh : SH} {R : RR} {n : Nat} (hn : n < 256) : SP g d mJ6_bitCount_0f7a4 0 0 [vi n] sh R I (some (vi (pcF n))) sh R I := by
  obtain ⟨b1, b2, b3, b4, b5, b6⟩ := bc_ok ⟨n, hn⟩
  intro Q h
  refine C_of rfl (Nat.le_of_ble_eq_true rfl) rfl ?_
  refine m_iload_n dJ6_bitCount_0f7a4_0 rfl ?_
  refine m_iload_n dJ6_bitCount_0f7a4_1 rfl ?_
  refine m_iconst dJ6_bitCount_0f7a4_2 (by decide) ?_
  refine m_iushr dJ6_bitCount_0f7a4_3 ?_
  refine m_ldcw (a := 1431655765) dJ6_bitCount_0f7a4_4 kc_J6_265 rfl ?_
  refine m_iand dJ6_bitCount_0f7a4_7 ?_
  refine m_isub dJ6_bitCount_0f7a4_8 b1 ?_
  refine m_istore_n dJ6_bitCount_0f7a4_9 (by decide) rfl rfl ?_
  refine m_iload_n dJ6_bitCount_0f7a4_10 rfl ?_
  refine m_ldcw (a := 858993459) dJ6_bitCount_0f7a4_11 kc_J6_266 rfl ?_
  refine m_iand dJ6_bitCount_0f7a4_14 ?_
  refine m_iload_n dJ6_bitCount_0f7a4_15 rfl ?_
  refine m_iconst dJ6_bitCount_0f7a4_16 (by decide) ?_
  refine m_iushr dJ6_bitCount_0f7a4_17 ?_
  refine m_ldcw (a := 858993459) dJ6_bitCount_0f7a4_18 kc_J6_266 rfl ?_
  refine m_iand dJ6_bitCount_0f7a4_21 ?_
  refine m_iadd dJ6_bitCount_0f7a4_22 b2 ?_
  refine m_istore_n dJ6_bitCount_0f7a4_23 (by decide) rfl rfl ?_
  refine m_iload_n dJ6_bitCount_0f7a4_24 rfl ?_
  refine m_iload_n dJ6_bitCount_0f7a4_25 rfl ?_
  refine m_iconst dJ6_bitCount_0f7a4_26 (by decide) ?_
  refine m_iushr dJ6_bitCount_0f7a4_27 ?_
  refine m_iadd dJ6_bitCount_0f7a4_28 b3 ?_
  refine m_ldcw (a := 252645135) dJ6_bitCount_0f7a4_29 kc_J6_267 rfl ?_
  refine m_iand dJ6_bitCount_0f7a4_32 ?_
  refine m_istore_n dJ6_bitCount_0f7a4_33 (by decide) rfl rfl ?_
  refine m_iload_n dJ6_bitCount_0f7a4_34 rfl ?_
  refine m_iload_n dJ6_bitCount_0f7a4_35 rfl ?_
  refine m_bipush dJ6_bitCount_0f7a4_36 rfl (by decide) ?_
  refine m_iushr dJ6_bitCount_0f7a4_38 ?_
  refine m_iadd dJ6_bitCount_0f7a4_39 b4 ?_
  refine m_istore_n dJ6_bitCount_0f7a4_40 (by decide) rfl rfl ?_
  refine m_iload_n dJ6_bitCount_0f7a4_41 rfl ?_
  refine m_iload_n dJ6_bitCount_0f7a4_42 rfl ?_
  refine m_bipush dJ6_bitCount_0f7a4_43 rfl (by decide) ?_
  refine m_iushr dJ6_bitCount_0f7a4_45 ?_
  refine m_iadd dJ6_bitCount_0f7a4_46 b5 ?_
  refine m_istore_n dJ6_bitCount_0f7a4_47 (by decide) rfl rfl ?_
  refine m_iload_n dJ6_bitCount_0f7a4_48 rfl ?_
  refine m_bipush dJ6_bitCount_0f7a4_49 rfl (by decide) ?_
  refine m_iand dJ6_bitCount_0f7a4_51 ?_
  refine m_iret dJ6_bitCount_0f7a4_52 rfl ?_
  rw [← b6] at h
  exact h
/-- whom row r blames; whether the set s explains every row; the first set of the fewest -/
noncomputable def sqF (I : II) (r : Nat) : Int := susF (I (58 + r)) (I (67 + r)) (I 56 r).toNat
def exT (I : II) (s : Nat) : Prop := ∀ r : Nat, r < (I 55 4).toNat → sqF I r = 0 ∨ f_iand (sqF I r) s ≠ 0
noncomputable def fbF (ok : Nat → Prop) : Nat → Nat
  | 0 => 255
  | n + 1 => if pcF n < pcF (fbF ok n) ∧ bP (ok n) ≠ 0 then n else fbF ok n
theorem fbF_bd (ok : Nat → Prop) : ∀ n : Nat, n ≤ 256 → fbF ok n < 256
  | 0, _ => by unfold fbF; omega
  | n + 1, h => by
    have := fbF_bd ok n (by omega)
    unfold fbF
    split <;> omega
theorem TapI_fr {I J : II} (hF : ∀ x, x ≠ 75 → J x = I x) (hI : TapI I) : TapI J := by
  unfold TapI
  rw [hF 55 (by decide), hF 56 (by decide)]
  refine ⟨hI.1, fun r hr => ?_⟩
  have := hI.1
  rw [hF (58 + r) (by omega), hF (67 + r) (by omega)]
  exact hI.2 r hr
section
variable {g : GH} {d nm no : Nat} {I : II}
theorem x_fb_sets {J : II} {Q : QT} (hd : 3 ≤ d) (hc : 0 ≤ J 55 4 ∧ J 55 4 ≤ 8) (hX : ∀ s : Nat, exP (J 75) s (J 55 4).toNat = exT I s) (h : Q (some (vi (fbF (exT I) 255))) (shX nm no) (RX nm no) J) : ∀ (k i : Nat), 255 - i < k → i ≤ 255 → T g d mX9_fewestBlamed 0 0 35 [some (vr 55), some (vi 255), some (vi (fbF (exT I) i)), some (vi i)] [] (shX nm no) (RX nm no) J Q := by
  intro k
  induction k with
  | zero => intro i hk; omega
  | succ k ih =>
    intro i hk h1
    have hb := fbF_bd (exT I) i (by omega)
    refine m_iload_n dX9_fewestBlamed_35 rfl ?_
    refine m_iload_n dX9_fewestBlamed_36 rfl ?_
    refine m_icmp_ge (tgt := 67) dX9_fewestBlamed_37 (by decide) (fun c37 => ?_) (fun c37 => ?_)
    · have ei : i = 255 := by omega
      subst ei
      refine m_iload_n dX9_fewestBlamed_67 rfl ?_
      refine m_iret dX9_fewestBlamed_68 rfl ?_
      exact h
    · refine m_iload_n dX9_fewestBlamed_40 rfl ?_
      refine m_Si [_] dX9_fewestBlamed_41 lk_X9_56 rfl rfl (Nat.le_of_ble_eq_true rfl) (by omega) (x_bitCount (by omega)) ?_
      refine m_iload_n dX9_fewestBlamed_44 rfl ?_
      refine m_Si [_] dX9_fewestBlamed_45 lk_X9_56 rfl rfl (Nat.le_of_ble_eq_true rfl) (by omega) (x_bitCount hb) ?_
      refine m_icmp_ge (tgt := 61) dX9_fewestBlamed_48 (by decide) (fun c48 => ?_) (fun c48 => ?_)
      · have e : fbF (exT I) (i + 1) = fbF (exT I) i := by rw [fbF, if_neg (fun z => by omega)]
        rw [← e]
        refine m_iinc dX9_fewestBlamed_61 rfl (by decide) rfl rfl (by omega) ?_
        refine m_goto (tgt := 35) dX9_fewestBlamed_64 (by decide) ?_
        first | exact ih (i + 1) (by omega) (by omega) | (have e2 := ih (i + 1) (by omega) (by omega); rw [e] at e2; exact e2)
      · refine m_aload_n dX9_fewestBlamed_51 rfl ?_
        refine m_iload_n dX9_fewestBlamed_52 rfl ?_
        refine m_Vi [_] dX9_fewestBlamed_53 lk_X9_61 rfl oX_55 rfl (Nat.le_of_ble_eq_true rfl) (by omega) (x_explainsAll hc) ?_
        refine m_if_eq (tgt := 61) dX9_fewestBlamed_56 (by decide) (fun c56 => ?_) (fun c56 => ?_)
        · rw [hX] at c56
          have e : fbF (exT I) (i + 1) = fbF (exT I) i := by rw [fbF, if_neg (fun z => z.2 c56)]
          rw [← e]
          refine m_iinc dX9_fewestBlamed_61 rfl (by decide) rfl rfl (by omega) ?_
          refine m_goto (tgt := 35) dX9_fewestBlamed_64 (by decide) ?_
          first | exact ih (i + 1) (by omega) (by omega) | (have e2 := ih (i + 1) (by omega) (by omega); rw [e] at e2; exact e2)
        · rw [hX] at c56
          have e : fbF (exT I) (i + 1) = i := by rw [fbF, if_pos ⟨by omega, c56⟩]
          refine m_iload_n dX9_fewestBlamed_59 rfl ?_
          refine m_istore_n dX9_fewestBlamed_60 (by decide) rfl rfl ?_
          refine m_iinc dX9_fewestBlamed_61 rfl (by decide) rfl rfl (by omega) ?_
          refine m_goto (tgt := 35) dX9_fewestBlamed_64 (by decide) ?_
          first | exact ih (i + 1) (by omega) (by omega) | (have e2 := ih (i + 1) (by omega) (by omega); rw [e] at e2; exact e2)
theorem x_fb_rows {Q : QT} (hd : 4 ≤ d) (hI : TapI I) (h : ∀ J : II, (∀ x, x ≠ 75 → J x = I x) → Q (some (vi (fbF (exT I) 255))) (shX nm no) (RX nm no) J) : ∀ (k i : Nat) (J : II), (I 55 4).toNat - i < k → i ≤ (I 55 4).toNat → (∀ x, x ≠ 75 → J x = I x) → (∀ q : Nat, q < i → J 75 q = sqF I q) → T g d mX9_fewestBlamed 0 0 2 [some (vr 55), some (vi i), none, none] [] (shX nm no) (RX nm no) J Q := by
  intro k
  induction k with
  | zero => intro i J hk; omega
  | succ k ih =>
    intro i J hk h1 hF hq
    have hJ := TapI_fr hF hI
    have hc := hJ.1
    have e55 : J 55 4 = I 55 4 := by rw [hF 55 (by decide)]
    refine m_iload_n dX9_fewestBlamed_2 rfl ?_
    refine m_aload_n dX9_fewestBlamed_3 rfl ?_
    refine m_gi (z := 4) dX9_fewestBlamed_4 fl_X9_26 oX_55 rfl rfl ?_
    refine m_icmp_ge (tgt := 27) dX9_fewestBlamed_7 (by decide) (fun c7 => ?_) (fun c7 => ?_)
    · have ei : i = (I 55 4).toNat := by omega
      have hX : ∀ s : Nat, exP (J 75) s (J 55 4).toNat = exT I s := fun s => propext ⟨fun z r hr => by
        have y := z r (by rw [e55]; exact hr)
        rw [hq r (by omega)] at y
        exact y, fun z r hr => by
        have y := z r (by rw [← e55]; exact hr)
        rw [hq r (by rw [e55] at hr; omega)]
        exact y⟩
      refine m_sipush dX9_fewestBlamed_27 rfl (by decide) ?_
      refine m_istore_n dX9_fewestBlamed_30 (by decide) rfl rfl ?_
      refine m_iload_n dX9_fewestBlamed_31 rfl ?_
      refine m_istore_n dX9_fewestBlamed_32 (by decide) rfl rfl ?_
      refine m_iconst dX9_fewestBlamed_33 (by decide) ?_
      refine m_istore_n dX9_fewestBlamed_34 (by decide) rfl rfl ?_
      exact x_fb_sets (by omega) hc hX (h J hF) 256 0 (by omega) (by omega)
    · have HF : ∀ x, x ≠ 75 → upI J 75 i (susF (J (58 + i)) (J (67 + i)) (J 56 i).toNat) x = I x := fun x y => by rw [upI_o y]; exact hF x y
      have HQ : ∀ q : Nat, q < i + 1 → upI J 75 i (susF (J (58 + i)) (J (67 + i)) (J 56 i).toNat) 75 q = sqF I q := fun q z => by
        by_cases y : q = i
        · subst y
          rw [upI_s, hF (58 + q) (by omega), hF (67 + q) (by omega), hF 56 (by decide)]
          rfl
        · rw [upI_j (by omega)]
          exact hq q (by omega)
      refine m_aload_n dX9_fewestBlamed_10 rfl ?_
      refine m_gr (z := 3) dX9_fewestBlamed_11 fl_X9_23 oX_55 rfl rfl rX_55_3 ?_
      refine m_iload_n dX9_fewestBlamed_14 rfl ?_
      refine m_aload_n dX9_fewestBlamed_15 rfl ?_
      refine m_iload_n dX9_fewestBlamed_16 rfl ?_
      refine m_Vi [_] dX9_fewestBlamed_17 lk_X9_53 rfl oX_55 rfl (Nat.le_of_ble_eq_true rfl) (by omega) (x_suspectsOf (by omega) hJ (by omega)) ?_
      refine m_iast dX9_fewestBlamed_20 sX_75 (by omega) (by omega) ?_
      refine m_iinc dX9_fewestBlamed_21 rfl (by decide) rfl rfl (by omega) ?_
      refine m_goto (tgt := 2) dX9_fewestBlamed_24 (by decide) ?_
      exact ih (i + 1) _ (by omega) (by omega) HF HQ
theorem x_fewestBlamed (hd : 4 ≤ d) (hI : TapI I) : SI g d mX9_fewestBlamed [vr 55] (shX nm no) (RX nm no) I (fun r J => r = fbF (exT I) 255 ∧ ∀ x, x ≠ 75 → J x = I x) := by
  intro Q h
  refine C_of rfl (Nat.le_of_ble_eq_true rfl) rfl ?_
  refine m_iconst dX9_fewestBlamed_0 (by decide) ?_
  refine m_istore_n dX9_fewestBlamed_1 (by decide) rfl rfl ?_
  exact x_fb_rows hd hI (fun J y => h _ J ⟨rfl, y⟩) _ 0 I (Nat.lt_succ_self _) (by omega) (fun _ _ => rfl) (fun q z => by omega)
end
