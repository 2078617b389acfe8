/-! TAPES: suspectsOf, explainsAll -/
/-- the bits of the clerks of n hands from hand lo -/
def suB (v : Int → Int) (lo : Int) : Nat → Int
  | 0 => 0
  | n + 1 => f_ior (suB v lo n) (f_ishl 1 (v (lo + n)))
noncomputable def susF (u v : Int → Int) (n : Nat) : Int :=
  if fwF u n = -1 then 0 else if bP (qrP u n) ≠ 0 then 0 else suB v (max 0 (lrF u (fwF u n).toNat)) (fwF u n - max 0 (lrF u (fwF u n).toNat)).toNat
def exP (v : Int → Int) (s : Int) (n : Nat) : Prop := ∀ r : Nat, r < n → v r = 0 ∨ f_iand (v r) s ≠ 0
section
variable {g : GH} {d nm no : Nat} {I : II}
theorem x_su_loop {r : Nat} {lo wr : Int} {Q : QT} (hI : TapI I) (hr : (r : Int) < I 55 4) (hlo : 0 ≤ lo ∧ lo ≤ wr ∧ wr ≤ 7) (h : Q (some (vi (suB (I (67 + r)) lo (wr - lo).toNat))) (shX nm no) (RX nm no) I) : ∀ (k i : Nat), (wr - lo).toNat - i < k → i ≤ (wr - lo).toNat → T g d mX9_suspectsOf 0 0 35 [some (vr 55), some (vi r), some (vi wr), some (vi (suB (I (67 + r)) lo i)), some (vi (lo + i))] [] (shX nm no) (RX nm no) I Q := by
  have hr8 : r < 8 := by have := hI.1; omega
  have hs := (hI.2 r hr).1
  intro k
  induction k with
  | zero => intro i hk; omega
  | succ k ih =>
    intro i hk h1
    refine m_iload dX9_suspectsOf_35 rfl ?_
    refine m_iload_n dX9_suspectsOf_37 rfl ?_
    refine m_icmp_ge (tgt := 61) dX9_suspectsOf_38 (by decide) (fun c38 => ?_) (fun c38 => ?_)
    · have ei : i = (wr - lo).toNat := by omega
      rw [← ei] at h
      refine m_iload_n dX9_suspectsOf_61 rfl ?_
      refine m_iret dX9_suspectsOf_62 rfl ?_
      exact h
    · refine m_iload_n dX9_suspectsOf_41 rfl ?_
      refine m_iconst dX9_suspectsOf_42 (by decide) ?_
      refine m_aload_n dX9_suspectsOf_43 rfl ?_
      refine m_gr (z := 2) dX9_suspectsOf_44 fl_X9_20 oX_55 rfl rfl rX_55_2 ?_
      refine m_iload_n dX9_suspectsOf_47 rfl ?_
      refine m_al dX9_suspectsOf_48 sX_66 (by decide) (by omega) (by omega) (rX_clk hr8) ?_
      refine m_iload dX9_suspectsOf_49 rfl ?_
      refine m_iald dX9_suspectsOf_51 (sX_clk hr8) (by omega) (by omega) ?_
      refine m_ishl dX9_suspectsOf_52 ?_
      refine m_ior dX9_suspectsOf_53 ?_
      refine m_istore_n dX9_suspectsOf_54 (by decide) rfl rfl ?_
      refine m_iinc dX9_suspectsOf_55 rfl (by decide) rfl rfl (by omega) ?_
      refine m_goto (tgt := 35) dX9_suspectsOf_58 (by decide) ?_
      have e := ih (i + 1) (by omega) (by omega)
      rw [show lo + ((i + 1 : Nat) : Int) = lo + (i : Int) + 1 by omega] at e
      exact e
theorem x_suspectsOf {r : Nat} (hd : 2 ≤ d) (hI : TapI I) (hr : (r : Int) < I 55 4) : SP g d mX9_suspectsOf 0 0 [vr 55, vi r] (shX nm no) (RX nm no) I (some (vi (susF (I (58 + r)) (I (67 + r)) (I 56 r).toNat))) (shX nm no) (RX nm no) I := by
  have hr8 : r < 8 := by have := hI.1; omega
  have hs := (hI.2 r hr).1
  have f0 := fwF_bd (I (58 + r)) (I 56 r).toNat
  have l0 := lrF_bd (I (58 + r)) (fwF (I (58 + r)) (I 56 r).toNat).toNat
  intro Q h
  refine C_of rfl (Nat.le_of_ble_eq_true rfl) rfl ?_
  refine m_aload_n dX9_suspectsOf_0 rfl ?_
  refine m_iload_n dX9_suspectsOf_1 rfl ?_
  refine m_Vi [_] dX9_suspectsOf_2 lk_X9_36 rfl oX_55 rfl (Nat.le_of_ble_eq_true rfl) (by omega) (x_firstWrong hI hr) ?_
  refine m_istore_n dX9_suspectsOf_5 (by decide) rfl rfl ?_
  refine m_iload_n dX9_suspectsOf_6 rfl ?_
  refine m_iconst dX9_suspectsOf_7 (by decide) ?_
  refine m_icmp_eq (tgt := 19) dX9_suspectsOf_8 (by decide) (fun c8 => ?_) (fun c8 => ?_)
  · rw [susF, if_pos c8] at h
    refine m_iconst dX9_suspectsOf_19 (by decide) ?_
    refine m_iret dX9_suspectsOf_20 rfl ?_
    exact h
  · refine m_aload_n dX9_suspectsOf_11 rfl ?_
    refine m_iload_n dX9_suspectsOf_12 rfl ?_
    refine m_Vi [_] dX9_suspectsOf_13 lk_X9_40 rfl oX_55 rfl (Nat.le_of_ble_eq_true rfl) (by omega) (x_quarrels hI hr) ?_
    refine m_if_eq (tgt := 21) dX9_suspectsOf_16 (by decide) (fun c16 => ?_) (fun c16 => ?_)
    · rw [susF, if_neg c8, if_neg (fun z => z c16)] at h
      refine m_iconst dX9_suspectsOf_21 (by decide) ?_
      refine m_istore_n dX9_suspectsOf_22 (by decide) rfl rfl ?_
      refine m_iconst dX9_suspectsOf_23 (by decide) ?_
      refine m_aload_n dX9_suspectsOf_24 rfl ?_
      refine m_iload_n dX9_suspectsOf_25 rfl ?_
      refine m_iload_n dX9_suspectsOf_26 rfl ?_
      refine m_Vi [_, _] dX9_suspectsOf_27 lk_X9_44 rfl oX_55 rfl (Nat.le_of_ble_eq_true rfl) (by omega) (x_lastRightAhead hI hr ⟨by omega, by omega⟩) ?_
      refine m_max dX9_suspectsOf_30 lk_X9_48 (by omega) (Nat.le_of_ble_eq_true rfl) ?_
      refine m_istore dX9_suspectsOf_33 (by decide) rfl rfl ?_
      have e := x_su_loop (g := g) (d := d) (nm := nm) (no := no) (Q := Q) hI hr (lo := max 0 (lrF (I (58 + r)) (fwF (I (58 + r)) (I 56 r).toNat).toNat)) (wr := fwF (I (58 + r)) (I 56 r).toNat) ⟨by omega, by omega, by omega⟩ h _ 0 (Nat.lt_succ_self _) (by omega)
      rw [show max 0 (lrF (I (58 + r)) (fwF (I (58 + r)) (I 56 r).toNat).toNat) + ((0 : Nat) : Int) = max 0 (lrF (I (58 + r)) (fwF (I (58 + r)) (I 56 r).toNat).toNat) by omega] at e
      exact e
    · rw [susF, if_neg c8, if_pos c16] at h
      refine m_iconst dX9_suspectsOf_19 (by decide) ?_
      refine m_iret dX9_suspectsOf_20 rfl ?_
      exact h
theorem x_ex_loop {s : Int} {Q : QT} (hc : 0 ≤ I 55 4 ∧ I 55 4 ≤ 8) (h : Q (some (vi (bP (exP (I 75) s (I 55 4).toNat)))) (shX nm no) (RX nm no) I) : ∀ (k i : Nat), (I 55 4).toNat - i < k → i ≤ (I 55 4).toNat → exP (I 75) s i → T g d mX9_explainsAll 0 0 2 [some (vr 55), some (vi s), some (vi i)] [] (shX nm no) (RX nm no) I Q := by
  intro k
  induction k with
  | zero => intro i hk; omega
  | succ k ih =>
    intro i hk h1 hx
    refine m_iload_n dX9_explainsAll_2 rfl ?_
    refine m_aload_n dX9_explainsAll_3 rfl ?_
    refine m_gi (z := 4) dX9_explainsAll_4 fl_X9_26 oX_55 rfl rfl ?_
    refine m_icmp_ge (tgt := 38) dX9_explainsAll_7 (by decide) (fun c7 => ?_) (fun c7 => ?_)
    · have ei : i = (I 55 4).toNat := by omega
      rw [← ei, bP_t hx] at h
      refine m_iconst dX9_explainsAll_38 (by decide) ?_
      refine m_zret dX9_explainsAll_39 rfl (by omega) ?_
      exact h
    · refine m_aload_n dX9_explainsAll_10 rfl ?_
      refine m_gr (z := 3) dX9_explainsAll_11 fl_X9_23 oX_55 rfl rfl rX_55_3 ?_
      refine m_iload_n dX9_explainsAll_14 rfl ?_
      refine m_iald dX9_explainsAll_15 sX_75 (by omega) (by omega) ?_
      refine m_if_eq (tgt := 32) dX9_explainsAll_16 (by decide) (fun c16 => ?_) (fun c16 => ?_)
      · have HX : exP (I 75) s (i + 1) := fun q hq => by
          rcases (show q < i ∨ q = i by omega) with z | z
          · exact hx q z
          · subst z; exact Or.inl c16
        refine m_iinc dX9_explainsAll_32 rfl (by decide) rfl rfl (by omega) ?_
        refine m_goto (tgt := 2) dX9_explainsAll_35 (by decide) ?_
        exact ih (i + 1) (by omega) (by omega) HX
      · refine m_aload_n dX9_explainsAll_19 rfl ?_
        refine m_gr (z := 3) dX9_explainsAll_20 fl_X9_23 oX_55 rfl rfl rX_55_3 ?_
        refine m_iload_n dX9_explainsAll_23 rfl ?_
        refine m_iald dX9_explainsAll_24 sX_75 (by omega) (by omega) ?_
        refine m_iload_n dX9_explainsAll_25 rfl ?_
        refine m_iand dX9_explainsAll_26 ?_
        refine m_if_ne (tgt := 32) dX9_explainsAll_27 (by decide) (fun c27 => ?_) (fun c27 => ?_)
        · have HX : exP (I 75) s (i + 1) := fun q hq => by
            rcases (show q < i ∨ q = i by omega) with z | z
            · exact hx q z
            · subst z; exact Or.inr c27
          refine m_iinc dX9_explainsAll_32 rfl (by decide) rfl rfl (by omega) ?_
          refine m_goto (tgt := 2) dX9_explainsAll_35 (by decide) ?_
          exact ih (i + 1) (by omega) (by omega) HX
        · have hn : ¬ exP (I 75) s (I 55 4).toNat := fun z => by
            rcases z i (by omega) with y | y
            · exact c16 y
            · exact y c27
          rw [bP_f hn] at h
          refine m_iconst dX9_explainsAll_30 (by decide) ?_
          refine m_zret dX9_explainsAll_31 rfl (by omega) ?_
          exact h
theorem x_explainsAll {s : Int} (hc : 0 ≤ I 55 4 ∧ I 55 4 ≤ 8) : SP g d mX9_explainsAll 0 0 [vr 55, vi s] (shX nm no) (RX nm no) I (some (vi (bP (exP (I 75) s (I 55 4).toNat)))) (shX nm no) (RX nm no) I := by
  intro Q h
  refine C_of rfl (Nat.le_of_ble_eq_true rfl) rfl ?_
  refine m_iconst dX9_explainsAll_0 (by decide) ?_
  refine m_istore_n dX9_explainsAll_1 (by decide) rfl rfl ?_
  exact x_ex_loop hc h _ 0 (Nat.lt_succ_self _) (by omega) (fun q z => by omega)
end
