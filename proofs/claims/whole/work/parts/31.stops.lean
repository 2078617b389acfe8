/-! STOPS; THE SMALL METHODS OF NET -/
theorem bt_or {a w j : Int} (ha : 0 ≤ a) (h1 : a < 4096) (hw : 0 ≤ w) (hw2 : w < 12) (hj : 0 ≤ j) : 0 ≤ f_ior a (f_ishl 1 w) ∧ f_ior a (f_ishl 1 w) < 4096 ∧ (bt (f_ior a (f_ishl 1 w)) j ↔ (bt a j ∨ j = w)) := by
  have h2 : (2 : Nat) ^ w.toNat < 2 ^ 12 := Nat.pow_lt_pow_right (by omega) (by omega)
  have h2' : ((2 ^ w.toNat : Nat) : Int) < 4096 := Int.ofNat_lt.mpr (show 2 ^ w.toNat < 4096 from h2)
  rw [shl32 hw (by omega), or32 ha (Int.natCast_nonneg _) (by omega) (Int.lt_trans h2' (by decide)), Int.toNat_natCast]
  have h3 : a.toNat ||| 2 ^ w.toNat < 2 ^ 12 := Nat.or_lt_two_pow (by omega) h2
  refine ⟨Int.natCast_nonneg _, Int.ofNat_lt.mpr (show a.toNat ||| 2 ^ w.toNat < 4096 from h3), ?_⟩
  unfold bt
  rw [Int.toNat_natCast, Nat.testBit_or, Nat.testBit_two_pow]
  simp only [Bool.or_eq_true, decide_eq_true_eq]
  constructor
  · rintro (h | h)
    · exact Or.inl h
    · exact Or.inr (by omega)
  · rintro (h | h)
    · exact Or.inl h
    · exact Or.inr (by omega)
theorem bt_0 (j : Int) : ¬ bt 0 j := by unfold bt; simp
/-- bits of the wires that the first n stops stop in minute t -/
def stB (I : II) (a b c : Nat) (t n bits : Int) : Prop := 0 ≤ bits ∧ bits < 4096 ∧ ∀ w, 0 ≤ w → w < 12 → (bt bits w ↔ ∃ k, 0 ≤ k ∧ k < n ∧ I a k = w ∧ I b k ≤ t ∧ t ≤ I c k)
theorem stB_0 {I : II} {a b c : Nat} {t : Int} : stB I a b c t 0 0 := ⟨by omega, by omega, fun w _ _ => ⟨fun h => absurd h (bt_0 w), fun ⟨k, h1, h2, _⟩ => by omega⟩⟩
theorem stB_no {I : II} {a b c : Nat} {t n bits : Int} (h : stB I a b c t n bits) (hn : ¬ (I b n ≤ t ∧ t ≤ I c n)) : stB I a b c t (n + 1) bits := by
  refine ⟨h.1, h.2.1, fun w h0 h1 => (h.2.2 w h0 h1).trans ⟨fun ⟨k, q1, q2, q3⟩ => ⟨k, q1, by omega, q3⟩, fun ⟨k, q1, q2, q3, q4, q5⟩ => ⟨k, q1, ?_, q3, q4, q5⟩⟩⟩
  rcases Int.lt_or_eq_of_le (show k ≤ n by omega) with e | e
  · exact e
  · subst e; exact absurd ⟨q4, q5⟩ hn
theorem stB_yes {I : II} {a b c : Nat} {t n bits : Int} (h : stB I a b c t n bits) (hn : 0 ≤ n) (ha : 0 ≤ I a n ∧ I a n < 12) (h1 : I b n ≤ t) (h2 : t ≤ I c n) : stB I a b c t (n + 1) (f_ior bits (f_ishl 1 (I a n))) := by
  refine ⟨(bt_or h.1 h.2.1 ha.1 ha.2 (j := 0) (by omega)).1, (bt_or h.1 h.2.1 ha.1 ha.2 (j := 0) (by omega)).2.1, fun w h0 h3 => ?_⟩
  rw [(bt_or h.1 h.2.1 ha.1 ha.2 h0).2.2, h.2.2 w h0 h3]
  constructor
  · rintro (⟨k, q1, q2, q3⟩ | e)
    · exact ⟨k, q1, by omega, q3⟩
    · exact ⟨n, hn, by omega, e.symm, h1, h2⟩
  · rintro ⟨k, q1, q2, q3, q4, q5⟩
    rcases Int.lt_or_eq_of_le (show k ≤ n by omega) with e | e
    · exact Or.inl ⟨k, q1, e, q3, q4, q5⟩
    · subst e; exact Or.inr q3.symm
/-- the stops as they are kept -/
def StI (I : II) (o a b c : Nat) (n : Int) : Prop := 0 ≤ I o 3 ∧ I o 3 ≤ n ∧ ∀ k, 0 ≤ k → k < I o 3 → (0 ≤ I a k ∧ I a k < 12) ∧ 0 ≤ I b k ∧ I b k ≤ I c k ∧ I c k ≤ 9000
/-- what endOfThoseIn answers of the first n stops -/
def enB (I : II) (a b c : Nat) (v f t n e : Int) : Prop := (-1 ≤ e ∧ e ≤ 9000) ∧ (∀ k, 0 ≤ k → k < n → I a k = v → I b k ≤ t → f ≤ I c k → I c k ≤ e) ∧ (e = -1 ∨ ∃ k, 0 ≤ k ∧ k < n ∧ I a k = v ∧ I b k ≤ t ∧ f ≤ I c k ∧ I c k = e)
theorem enB_0 {I : II} {a b c : Nat} {v f t : Int} : enB I a b c v f t 0 (-1) := ⟨by omega, fun k h0 h1 => by omega, Or.inl rfl⟩
theorem enB_no {I : II} {a b c : Nat} {v f t n e : Int} (h : enB I a b c v f t n e) (hn : ¬ (I a n = v ∧ I b n ≤ t ∧ f ≤ I c n)) : enB I a b c v f t (n + 1) e := by
  refine ⟨h.1, fun k h0 h1 q1 q2 q3 => ?_, ?_⟩
  · rcases Int.lt_or_eq_of_le (show k ≤ n by omega) with z | z
    · exact h.2.1 k h0 z q1 q2 q3
    · subst z; exact absurd ⟨q1, q2, q3⟩ hn
  · rcases h.2.2 with z | ⟨k, q1, q2, q3⟩
    · exact Or.inl z
    · exact Or.inr ⟨k, q1, by omega, q3⟩
theorem enB_yes {I : II} {a b c : Nat} {v f t n e : Int} (h : enB I a b c v f t n e) (hn : 0 ≤ n) (h1 : I a n = v) (h2 : I b n ≤ t) (h3 : f ≤ I c n) (h4 : 0 ≤ I c n ∧ I c n ≤ 9000) : enB I a b c v f t (n + 1) (max e (I c n)) := by
  refine ⟨by have := h.1; omega, fun k h0 h5 q1 q2 q3 => ?_, ?_⟩
  · rcases Int.lt_or_eq_of_le (show k ≤ n by omega) with z | z
    · have := h.2.1 k h0 z q1 q2 q3; omega
    · subst z; omega
  · rcases Int.le_total e (I c n) with z | z
    · exact Or.inr ⟨n, hn, by omega, h1, h2, h3, by omega⟩
    · rw [show max e (I c n) = e by omega]
      rcases h.2.2 with y | ⟨k, q1, q2, q3⟩
      · exact Or.inl y
      · exact Or.inr ⟨k, q1, by omega, q3⟩
section
variable {g : GH} {d nm no : Nat} {I : II}
theorem x_stop28_loop {t : Int} {Q : QT} (hI : StI I 28 29 30 31 12) (hq : ∀ r, stB I 29 30 31 t (I 28 3) r → Q (some (vi r)) (shX nm no) (RX nm no) I) : ∀ (n : Nat) (i bits : Int), (I 28 3 - i).toNat < n → 0 ≤ i → i ≤ I 28 3 → stB I 29 30 31 t i bits → T g d mX8_stoppedIn 0 0 4 [some (vr 28), some (vi t), some (vi bits), some (vi i)] [] (shX nm no) (RX nm no) I Q := by
  have hc := hI.1
  have hc2 := hI.2.1
  intro n
  induction n with
  | zero => intro i bits hn; omega
  | succ n ih =>
    intro i bits hn h0 h1 hb
    refine m_iload_n dX8_stoppedIn_4 rfl ?_
    refine m_aload_n dX8_stoppedIn_5 rfl ?_
    refine m_gi (z := 3) dX8_stoppedIn_6 fl_X8_21 oX_28 rfl rfl ?_
    refine m_icmp_ge (tgt := 49) dX8_stoppedIn_9 (by decide) (fun c9 => ?_) (fun c9 => ?_)
    · have ei : i = I 28 3 := by omega
      rw [ei] at hb
      refine m_iload_n dX8_stoppedIn_49 rfl ?_
      refine m_iret dX8_stoppedIn_50 rfl ?_
      exact hq _ hb
    · have hk := hI.2.2 i h0 (by omega)
      refine m_aload_n dX8_stoppedIn_12 rfl ?_
      refine m_gr (z := 1) dX8_stoppedIn_13 fl_X8_15 oX_28 rfl rfl rX_28_1 ?_
      refine m_iload_n dX8_stoppedIn_16 rfl ?_
      refine m_iald dX8_stoppedIn_17 sX_30 (by omega) (by omega) ?_
      refine m_iload_n dX8_stoppedIn_18 rfl ?_
      refine m_icmp_gt (tgt := 43) dX8_stoppedIn_19 (by decide) (fun c19 => ?_) (fun c19 => ?_)
      · have hv := stB_no hb (by omega)
        refine m_iinc dX8_stoppedIn_43 rfl (by decide) rfl rfl (by omega) ?_
        refine m_goto (tgt := 4) dX8_stoppedIn_46 (by decide) ?_
        exact ih (i + 1) _ (by omega) (by omega) (by omega) hv
      · refine m_iload_n dX8_stoppedIn_22 rfl ?_
        refine m_aload_n dX8_stoppedIn_23 rfl ?_
        refine m_gr (z := 2) dX8_stoppedIn_24 fl_X8_18 oX_28 rfl rfl rX_28_2 ?_
        refine m_iload_n dX8_stoppedIn_27 rfl ?_
        refine m_iald dX8_stoppedIn_28 sX_31 (by omega) (by omega) ?_
        refine m_icmp_gt (tgt := 43) dX8_stoppedIn_29 (by decide) (fun c29 => ?_) (fun c29 => ?_)
        · have hv := stB_no hb (by omega)
          refine m_iinc dX8_stoppedIn_43 rfl (by decide) rfl rfl (by omega) ?_
          refine m_goto (tgt := 4) dX8_stoppedIn_46 (by decide) ?_
          exact ih (i + 1) _ (by omega) (by omega) (by omega) hv
        · refine m_iload_n dX8_stoppedIn_32 rfl ?_
          refine m_iconst dX8_stoppedIn_33 (by decide) ?_
          refine m_aload_n dX8_stoppedIn_34 rfl ?_
          refine m_gr (z := 0) dX8_stoppedIn_35 fl_X8_9 oX_28 rfl rfl rX_28_0 ?_
          refine m_iload_n dX8_stoppedIn_38 rfl ?_
          refine m_iald dX8_stoppedIn_39 sX_29 (by omega) (by omega) ?_
          refine m_ishl dX8_stoppedIn_40 ?_
          refine m_ior dX8_stoppedIn_41 ?_
          have hv := stB_yes hb h0 hk.1 (by omega) (by omega)
          refine m_istore_n dX8_stoppedIn_42 (by decide) rfl rfl ?_
          refine m_iinc dX8_stoppedIn_43 rfl (by decide) rfl rfl (by omega) ?_
          refine m_goto (tgt := 4) dX8_stoppedIn_46 (by decide) ?_
          exact ih (i + 1) _ (by omega) (by omega) (by omega) hv
theorem x_stoppedIn28 {t : Int} (hI : StI I 28 29 30 31 12) : SI g d mX8_stoppedIn [vr 28, vi t] (shX nm no) (RX nm no) I (fun r I' => I' = I ∧ stB I 29 30 31 t (I 28 3) r) := by
  intro Q h
  refine C_of rfl (Nat.le_of_ble_eq_true rfl) rfl ?_
  refine m_iconst dX8_stoppedIn_0 (by decide) ?_
  refine m_istore_n dX8_stoppedIn_1 (by decide) rfl rfl ?_
  refine m_iconst dX8_stoppedIn_2 (by decide) ?_
  refine m_istore_n dX8_stoppedIn_3 (by decide) rfl rfl ?_
  exact x_stop28_loop hI (fun r hr => h r I ⟨rfl, hr⟩) ((I 28 3).toNat + 1) 0 0 (by omega) (by omega) hI.1 stB_0
theorem x_put28 {v f t : Int} (h0 : 0 ≤ I 28 3) (h1 : I 28 3 < 12) : SP g d mX8_put 0 0 [vr 28, vi v, vi f, vi t] (shX nm no) (RX nm no) I (some (vi (I 28 3 + 1))) (shX nm no) (RX nm no) (upI (upI (upI (upI I 29 (I 28 3) v) 30 (I 28 3) f) 31 (I 28 3) t) 28 3 (I 28 3 + 1)) := by
  intro Q h
  refine C_of rfl (Nat.le_of_ble_eq_true rfl) rfl ?_
  refine m_aload_n dX8_put_0 rfl ?_
  refine m_gr (z := 0) dX8_put_1 fl_X8_9 oX_28 rfl rfl rX_28_0 ?_
  refine m_aload_n dX8_put_4 rfl ?_
  refine m_gi (z := 3) dX8_put_5 fl_X8_21 oX_28 rfl rfl ?_
  refine m_iload_n dX8_put_8 rfl ?_
  refine m_iast dX8_put_9 sX_29 (by omega) (by omega) ?_
  refine m_aload_n dX8_put_10 rfl ?_
  refine m_gr (z := 1) dX8_put_11 fl_X8_15 oX_28 rfl rfl rX_28_1 ?_
  refine m_aload_n dX8_put_14 rfl ?_
  refine m_gi (z := 3) dX8_put_15 fl_X8_21 oX_28 rfl rfl ?_
  rw [upI_o (show (28 : Nat) ≠ 29 by omega)]
  refine m_iload_n dX8_put_18 rfl ?_
  refine m_iast dX8_put_19 sX_30 (by omega) (by omega) ?_
  refine m_aload_n dX8_put_20 rfl ?_
  refine m_gr (z := 2) dX8_put_21 fl_X8_18 oX_28 rfl rfl rX_28_2 ?_
  refine m_aload_n dX8_put_24 rfl ?_
  refine m_gi (z := 3) dX8_put_25 fl_X8_21 oX_28 rfl rfl ?_
  rw [upI_o (show (28 : Nat) ≠ 30 by omega), upI_o (show (28 : Nat) ≠ 29 by omega)]
  refine m_iload_n dX8_put_28 rfl ?_
  refine m_iast dX8_put_29 sX_31 (by omega) (by omega) ?_
  refine m_aload_n dX8_put_30 rfl ?_
  refine m_dup dX8_put_31 (fun _ z => by cases z) ?_
  refine m_gi (z := 3) dX8_put_32 fl_X8_21 oX_28 rfl rfl ?_
  rw [upI_o (show (28 : Nat) ≠ 31 by omega), upI_o (show (28 : Nat) ≠ 30 by omega), upI_o (show (28 : Nat) ≠ 29 by omega)]
  refine m_iconst dX8_put_35 (by decide) ?_
  refine m_iadd dX8_put_36 (by omega) ?_
  refine m_pi (z := 3) dX8_put_37 fl_X8_21 oX_28 rfl rfl rfl ?_
  refine m_aload_n dX8_put_40 rfl ?_
  refine m_gi (z := 3) dX8_put_41 fl_X8_21 oX_28 rfl rfl ?_
  rw [upI_s]
  refine m_iret dX8_put_44 rfl ?_
  exact h
theorem x_end28_loop {v f t : Int} {Q : QT} (hd : 1 ≤ d) (hI : StI I 28 29 30 31 12) (hq : ∀ r, enB I 29 30 31 v f t (I 28 3) r → Q (some (vi r)) (shX nm no) (RX nm no) I) : ∀ (n : Nat) (i e : Int), (I 28 3 - i).toNat < n → 0 ≤ i → i ≤ I 28 3 → enB I 29 30 31 v f t i e → T g d mX8_endOfThoseIn 0 0 6 [some (vr 28), some (vi v), some (vi f), some (vi t), some (vi e), some (vi i)] [] (shX nm no) (RX nm no) I Q := by
  have hc := hI.1
  have hc2 := hI.2.1
  intro n
  induction n with
  | zero => intro i e hn; omega
  | succ n ih =>
    intro i e hn h0 h1 hb
    refine m_iload dX8_endOfThoseIn_6 rfl ?_
    refine m_aload_n dX8_endOfThoseIn_8 rfl ?_
    refine m_gi (z := 3) dX8_endOfThoseIn_9 fl_X8_21 oX_28 rfl rfl ?_
    refine m_icmp_ge (tgt := 68) dX8_endOfThoseIn_12 (by decide) (fun c12 => ?_) (fun c12 => ?_)
    · have ei : i = I 28 3 := by omega
      rw [ei] at hb
      refine m_iload dX8_endOfThoseIn_68 rfl ?_
      refine m_iret dX8_endOfThoseIn_70 rfl ?_
      exact hq _ hb
    · have hk := hI.2.2 i h0 (by omega)
      refine m_aload_n dX8_endOfThoseIn_15 rfl ?_
      refine m_gr (z := 0) dX8_endOfThoseIn_16 fl_X8_9 oX_28 rfl rfl rX_28_0 ?_
      refine m_iload dX8_endOfThoseIn_19 rfl ?_
      refine m_iald dX8_endOfThoseIn_21 sX_29 (by omega) (by omega) ?_
      refine m_iload_n dX8_endOfThoseIn_22 rfl ?_
      refine m_icmp_ne (tgt := 62) dX8_endOfThoseIn_23 (by decide) (fun c23 => ?_) (fun c23 => ?_)
      · have hv : enB I 29 30 31 v f t (i + 1) e := enB_no hb (by omega)
        refine m_iinc dX8_endOfThoseIn_62 rfl (by decide) rfl rfl (by omega) ?_
        refine m_goto (tgt := 6) dX8_endOfThoseIn_65 (by decide) ?_
        exact ih (i + 1) _ (by omega) (by omega) (by omega) hv
      · refine m_aload_n dX8_endOfThoseIn_26 rfl ?_
        refine m_gr (z := 1) dX8_endOfThoseIn_27 fl_X8_15 oX_28 rfl rfl rX_28_1 ?_
        refine m_iload dX8_endOfThoseIn_30 rfl ?_
        refine m_iald dX8_endOfThoseIn_32 sX_30 (by omega) (by omega) ?_
        refine m_iload_n dX8_endOfThoseIn_33 rfl ?_
        refine m_icmp_gt (tgt := 62) dX8_endOfThoseIn_34 (by decide) (fun c34 => ?_) (fun c34 => ?_)
        · have hv : enB I 29 30 31 v f t (i + 1) e := enB_no hb (by omega)
          refine m_iinc dX8_endOfThoseIn_62 rfl (by decide) rfl rfl (by omega) ?_
          refine m_goto (tgt := 6) dX8_endOfThoseIn_65 (by decide) ?_
          exact ih (i + 1) _ (by omega) (by omega) (by omega) hv
        · refine m_iload_n dX8_endOfThoseIn_37 rfl ?_
          refine m_aload_n dX8_endOfThoseIn_38 rfl ?_
          refine m_gr (z := 2) dX8_endOfThoseIn_39 fl_X8_18 oX_28 rfl rfl rX_28_2 ?_
          refine m_iload dX8_endOfThoseIn_42 rfl ?_
          refine m_iald dX8_endOfThoseIn_44 sX_31 (by omega) (by omega) ?_
          refine m_icmp_gt (tgt := 62) dX8_endOfThoseIn_45 (by decide) (fun c45 => ?_) (fun c45 => ?_)
          · have hv : enB I 29 30 31 v f t (i + 1) e := enB_no hb (by omega)
            refine m_iinc dX8_endOfThoseIn_62 rfl (by decide) rfl rfl (by omega) ?_
            refine m_goto (tgt := 6) dX8_endOfThoseIn_65 (by decide) ?_
            exact ih (i + 1) _ (by omega) (by omega) (by omega) hv
          · refine m_iload dX8_endOfThoseIn_48 rfl ?_
            refine m_aload_n dX8_endOfThoseIn_50 rfl ?_
            refine m_gr (z := 2) dX8_endOfThoseIn_51 fl_X8_18 oX_28 rfl rfl rX_28_2 ?_
            refine m_iload dX8_endOfThoseIn_54 rfl ?_
            refine m_iald dX8_endOfThoseIn_56 sX_31 (by omega) (by omega) ?_
            refine m_max dX8_endOfThoseIn_57 lk_X8_25 (by omega) (Nat.le_of_ble_eq_true rfl) ?_
            have hv := enB_yes hb h0 (by omega) (by omega) (by omega) (by omega)
            refine m_istore dX8_endOfThoseIn_60 (by decide) rfl rfl ?_
            refine m_iinc dX8_endOfThoseIn_62 rfl (by decide) rfl rfl (by omega) ?_
            refine m_goto (tgt := 6) dX8_endOfThoseIn_65 (by decide) ?_
            exact ih (i + 1) _ (by omega) (by omega) (by omega) hv
theorem x_endOf28 {v f t : Int} (hd : 1 ≤ d) (hI : StI I 28 29 30 31 12) : SI g d mX8_endOfThoseIn [vr 28, vi v, vi f, vi t] (shX nm no) (RX nm no) I (fun r I' => I' = I ∧ enB I 29 30 31 v f t (I 28 3) r) := by
  intro Q h
  refine C_of rfl (Nat.le_of_ble_eq_true rfl) rfl ?_
  refine m_iconst dX8_endOfThoseIn_0 (by decide) ?_
  refine m_istore dX8_endOfThoseIn_1 (by decide) rfl rfl ?_
  refine m_iconst dX8_endOfThoseIn_3 (by decide) ?_
  refine m_istore dX8_endOfThoseIn_4 (by decide) rfl rfl ?_
  exact x_end28_loop hd hI (fun r hr => h r I ⟨rfl, hr⟩) ((I 28 3).toNat + 1) 0 (-1) (by omega) (by omega) hI.1 enB_0
theorem x_stop32_loop {t : Int} {Q : QT} (hI : StI I 32 33 34 35 6) (hq : ∀ r, stB I 33 34 35 t (I 32 3) r → Q (some (vi r)) (shX nm no) (RX nm no) I) : ∀ (n : Nat) (i bits : Int), (I 32 3 - i).toNat < n → 0 ≤ i → i ≤ I 32 3 → stB I 33 34 35 t i bits → T g d mX8_stoppedIn 0 0 4 [some (vr 32), some (vi t), some (vi bits), some (vi i)] [] (shX nm no) (RX nm no) I Q := by
  have hc := hI.1
  have hc2 := hI.2.1
  intro n
  induction n with
  | zero => intro i bits hn; omega
  | succ n ih =>
    intro i bits hn h0 h1 hb
    refine m_iload_n dX8_stoppedIn_4 rfl ?_
    refine m_aload_n dX8_stoppedIn_5 rfl ?_
    refine m_gi (z := 3) dX8_stoppedIn_6 fl_X8_21 oX_32 rfl rfl ?_
    refine m_icmp_ge (tgt := 49) dX8_stoppedIn_9 (by decide) (fun c9 => ?_) (fun c9 => ?_)
    · have ei : i = I 32 3 := by omega
      rw [ei] at hb
      refine m_iload_n dX8_stoppedIn_49 rfl ?_
      refine m_iret dX8_stoppedIn_50 rfl ?_
      exact hq _ hb
    · have hk := hI.2.2 i h0 (by omega)
      refine m_aload_n dX8_stoppedIn_12 rfl ?_
      refine m_gr (z := 1) dX8_stoppedIn_13 fl_X8_15 oX_32 rfl rfl rX_32_1 ?_
      refine m_iload_n dX8_stoppedIn_16 rfl ?_
      refine m_iald dX8_stoppedIn_17 sX_34 (by omega) (by omega) ?_
      refine m_iload_n dX8_stoppedIn_18 rfl ?_
      refine m_icmp_gt (tgt := 43) dX8_stoppedIn_19 (by decide) (fun c19 => ?_) (fun c19 => ?_)
      · have hv := stB_no hb (by omega)
        refine m_iinc dX8_stoppedIn_43 rfl (by decide) rfl rfl (by omega) ?_
        refine m_goto (tgt := 4) dX8_stoppedIn_46 (by decide) ?_
        exact ih (i + 1) _ (by omega) (by omega) (by omega) hv
      · refine m_iload_n dX8_stoppedIn_22 rfl ?_
        refine m_aload_n dX8_stoppedIn_23 rfl ?_
        refine m_gr (z := 2) dX8_stoppedIn_24 fl_X8_18 oX_32 rfl rfl rX_32_2 ?_
        refine m_iload_n dX8_stoppedIn_27 rfl ?_
        refine m_iald dX8_stoppedIn_28 sX_35 (by omega) (by omega) ?_
        refine m_icmp_gt (tgt := 43) dX8_stoppedIn_29 (by decide) (fun c29 => ?_) (fun c29 => ?_)
        · have hv := stB_no hb (by omega)
          refine m_iinc dX8_stoppedIn_43 rfl (by decide) rfl rfl (by omega) ?_
          refine m_goto (tgt := 4) dX8_stoppedIn_46 (by decide) ?_
          exact ih (i + 1) _ (by omega) (by omega) (by omega) hv
        · refine m_iload_n dX8_stoppedIn_32 rfl ?_
          refine m_iconst dX8_stoppedIn_33 (by decide) ?_
          refine m_aload_n dX8_stoppedIn_34 rfl ?_
          refine m_gr (z := 0) dX8_stoppedIn_35 fl_X8_9 oX_32 rfl rfl rX_32_0 ?_
          refine m_iload_n dX8_stoppedIn_38 rfl ?_
          refine m_iald dX8_stoppedIn_39 sX_33 (by omega) (by omega) ?_
          refine m_ishl dX8_stoppedIn_40 ?_
          refine m_ior dX8_stoppedIn_41 ?_
          have hv := stB_yes hb h0 hk.1 (by omega) (by omega)
          refine m_istore_n dX8_stoppedIn_42 (by decide) rfl rfl ?_
          refine m_iinc dX8_stoppedIn_43 rfl (by decide) rfl rfl (by omega) ?_
          refine m_goto (tgt := 4) dX8_stoppedIn_46 (by decide) ?_
          exact ih (i + 1) _ (by omega) (by omega) (by omega) hv
theorem x_stoppedIn32 {t : Int} (hI : StI I 32 33 34 35 6) : SI g d mX8_stoppedIn [vr 32, vi t] (shX nm no) (RX nm no) I (fun r I' => I' = I ∧ stB I 33 34 35 t (I 32 3) r) := by
  intro Q h
  refine C_of rfl (Nat.le_of_ble_eq_true rfl) rfl ?_
  refine m_iconst dX8_stoppedIn_0 (by decide) ?_
  refine m_istore_n dX8_stoppedIn_1 (by decide) rfl rfl ?_
  refine m_iconst dX8_stoppedIn_2 (by decide) ?_
  refine m_istore_n dX8_stoppedIn_3 (by decide) rfl rfl ?_
  exact x_stop32_loop hI (fun r hr => h r I ⟨rfl, hr⟩) ((I 32 3).toNat + 1) 0 0 (by omega) (by omega) hI.1 stB_0
theorem x_put32 {v f t : Int} (h0 : 0 ≤ I 32 3) (h1 : I 32 3 < 6) : SP g d mX8_put 0 0 [vr 32, vi v, vi f, vi t] (shX nm no) (RX nm no) I (some (vi (I 32 3 + 1))) (shX nm no) (RX nm no) (upI (upI (upI (upI I 33 (I 32 3) v) 34 (I 32 3) f) 35 (I 32 3) t) 32 3 (I 32 3 + 1)) := by
  intro Q h
  refine C_of rfl (Nat.le_of_ble_eq_true rfl) rfl ?_
  refine m_aload_n dX8_put_0 rfl ?_
  refine m_gr (z := 0) dX8_put_1 fl_X8_9 oX_32 rfl rfl rX_32_0 ?_
  refine m_aload_n dX8_put_4 rfl ?_
  refine m_gi (z := 3) dX8_put_5 fl_X8_21 oX_32 rfl rfl ?_
  refine m_iload_n dX8_put_8 rfl ?_
  refine m_iast dX8_put_9 sX_33 (by omega) (by omega) ?_
  refine m_aload_n dX8_put_10 rfl ?_
  refine m_gr (z := 1) dX8_put_11 fl_X8_15 oX_32 rfl rfl rX_32_1 ?_
  refine m_aload_n dX8_put_14 rfl ?_
  refine m_gi (z := 3) dX8_put_15 fl_X8_21 oX_32 rfl rfl ?_
  rw [upI_o (show (32 : Nat) ≠ 33 by omega)]
  refine m_iload_n dX8_put_18 rfl ?_
  refine m_iast dX8_put_19 sX_34 (by omega) (by omega) ?_
  refine m_aload_n dX8_put_20 rfl ?_
  refine m_gr (z := 2) dX8_put_21 fl_X8_18 oX_32 rfl rfl rX_32_2 ?_
  refine m_aload_n dX8_put_24 rfl ?_
  refine m_gi (z := 3) dX8_put_25 fl_X8_21 oX_32 rfl rfl ?_
  rw [upI_o (show (32 : Nat) ≠ 34 by omega), upI_o (show (32 : Nat) ≠ 33 by omega)]
  refine m_iload_n dX8_put_28 rfl ?_
  refine m_iast dX8_put_29 sX_35 (by omega) (by omega) ?_
  refine m_aload_n dX8_put_30 rfl ?_
  refine m_dup dX8_put_31 (fun _ z => by cases z) ?_
  refine m_gi (z := 3) dX8_put_32 fl_X8_21 oX_32 rfl rfl ?_
  rw [upI_o (show (32 : Nat) ≠ 35 by omega), upI_o (show (32 : Nat) ≠ 34 by omega), upI_o (show (32 : Nat) ≠ 33 by omega)]
  refine m_iconst dX8_put_35 (by decide) ?_
  refine m_iadd dX8_put_36 (by omega) ?_
  refine m_pi (z := 3) dX8_put_37 fl_X8_21 oX_32 rfl rfl rfl ?_
  refine m_aload_n dX8_put_40 rfl ?_
  refine m_gi (z := 3) dX8_put_41 fl_X8_21 oX_32 rfl rfl ?_
  rw [upI_s]
  refine m_iret dX8_put_44 rfl ?_
  exact h
theorem x_end32_loop {v f t : Int} {Q : QT} (hd : 1 ≤ d) (hI : StI I 32 33 34 35 6) (hq : ∀ r, enB I 33 34 35 v f t (I 32 3) r → Q (some (vi r)) (shX nm no) (RX nm no) I) : ∀ (n : Nat) (i e : Int), (I 32 3 - i).toNat < n → 0 ≤ i → i ≤ I 32 3 → enB I 33 34 35 v f t i e → T g d mX8_endOfThoseIn 0 0 6 [some (vr 32), some (vi v), some (vi f), some (vi t), some (vi e), some (vi i)] [] (shX nm no) (RX nm no) I Q := by
  have hc := hI.1
  have hc2 := hI.2.1
  intro n
  induction n with
  | zero => intro i e hn; omega
  | succ n ih =>
    intro i e hn h0 h1 hb
    refine m_iload dX8_endOfThoseIn_6 rfl ?_
    refine m_aload_n dX8_endOfThoseIn_8 rfl ?_
    refine m_gi (z := 3) dX8_endOfThoseIn_9 fl_X8_21 oX_32 rfl rfl ?_
    refine m_icmp_ge (tgt := 68) dX8_endOfThoseIn_12 (by decide) (fun c12 => ?_) (fun c12 => ?_)
    · have ei : i = I 32 3 := by omega
      rw [ei] at hb
      refine m_iload dX8_endOfThoseIn_68 rfl ?_
      refine m_iret dX8_endOfThoseIn_70 rfl ?_
      exact hq _ hb
    · have hk := hI.2.2 i h0 (by omega)
      refine m_aload_n dX8_endOfThoseIn_15 rfl ?_
      refine m_gr (z := 0) dX8_endOfThoseIn_16 fl_X8_9 oX_32 rfl rfl rX_32_0 ?_
      refine m_iload dX8_endOfThoseIn_19 rfl ?_
      refine m_iald dX8_endOfThoseIn_21 sX_33 (by omega) (by omega) ?_
      refine m_iload_n dX8_endOfThoseIn_22 rfl ?_
      refine m_icmp_ne (tgt := 62) dX8_endOfThoseIn_23 (by decide) (fun c23 => ?_) (fun c23 => ?_)
      · have hv : enB I 33 34 35 v f t (i + 1) e := enB_no hb (by omega)
        refine m_iinc dX8_endOfThoseIn_62 rfl (by decide) rfl rfl (by omega) ?_
        refine m_goto (tgt := 6) dX8_endOfThoseIn_65 (by decide) ?_
        exact ih (i + 1) _ (by omega) (by omega) (by omega) hv
      · refine m_aload_n dX8_endOfThoseIn_26 rfl ?_
        refine m_gr (z := 1) dX8_endOfThoseIn_27 fl_X8_15 oX_32 rfl rfl rX_32_1 ?_
        refine m_iload dX8_endOfThoseIn_30 rfl ?_
        refine m_iald dX8_endOfThoseIn_32 sX_34 (by omega) (by omega) ?_
        refine m_iload_n dX8_endOfThoseIn_33 rfl ?_
        refine m_icmp_gt (tgt := 62) dX8_endOfThoseIn_34 (by decide) (fun c34 => ?_) (fun c34 => ?_)
        · have hv : enB I 33 34 35 v f t (i + 1) e := enB_no hb (by omega)
          refine m_iinc dX8_endOfThoseIn_62 rfl (by decide) rfl rfl (by omega) ?_
          refine m_goto (tgt := 6) dX8_endOfThoseIn_65 (by decide) ?_
          exact ih (i + 1) _ (by omega) (by omega) (by omega) hv
        · refine m_iload_n dX8_endOfThoseIn_37 rfl ?_
          refine m_aload_n dX8_endOfThoseIn_38 rfl ?_
          refine m_gr (z := 2) dX8_endOfThoseIn_39 fl_X8_18 oX_32 rfl rfl rX_32_2 ?_
          refine m_iload dX8_endOfThoseIn_42 rfl ?_
          refine m_iald dX8_endOfThoseIn_44 sX_35 (by omega) (by omega) ?_
          refine m_icmp_gt (tgt := 62) dX8_endOfThoseIn_45 (by decide) (fun c45 => ?_) (fun c45 => ?_)
          · have hv : enB I 33 34 35 v f t (i + 1) e := enB_no hb (by omega)
            refine m_iinc dX8_endOfThoseIn_62 rfl (by decide) rfl rfl (by omega) ?_
            refine m_goto (tgt := 6) dX8_endOfThoseIn_65 (by decide) ?_
            exact ih (i + 1) _ (by omega) (by omega) (by omega) hv
          · refine m_iload dX8_endOfThoseIn_48 rfl ?_
            refine m_aload_n dX8_endOfThoseIn_50 rfl ?_
            refine m_gr (z := 2) dX8_endOfThoseIn_51 fl_X8_18 oX_32 rfl rfl rX_32_2 ?_
            refine m_iload dX8_endOfThoseIn_54 rfl ?_
            refine m_iald dX8_endOfThoseIn_56 sX_35 (by omega) (by omega) ?_
            refine m_max dX8_endOfThoseIn_57 lk_X8_25 (by omega) (Nat.le_of_ble_eq_true rfl) ?_
            have hv := enB_yes hb h0 (by omega) (by omega) (by omega) (by omega)
            refine m_istore dX8_endOfThoseIn_60 (by decide) rfl rfl ?_
            refine m_iinc dX8_endOfThoseIn_62 rfl (by decide) rfl rfl (by omega) ?_
            refine m_goto (tgt := 6) dX8_endOfThoseIn_65 (by decide) ?_
            exact ih (i + 1) _ (by omega) (by omega) (by omega) hv
theorem x_endOf32 {v f t : Int} (hd : 1 ≤ d) (hI : StI I 32 33 34 35 6) : SI g d mX8_endOfThoseIn [vr 32, vi v, vi f, vi t] (shX nm no) (RX nm no) I (fun r I' => I' = I ∧ enB I 33 34 35 v f t (I 32 3) r) := by
  intro Q h
  refine C_of rfl (Nat.le_of_ble_eq_true rfl) rfl ?_
  refine m_iconst dX8_endOfThoseIn_0 (by decide) ?_
  refine m_istore dX8_endOfThoseIn_1 (by decide) rfl rfl ?_
  refine m_iconst dX8_endOfThoseIn_3 (by decide) ?_
  refine m_istore dX8_endOfThoseIn_4 (by decide) rfl rfl ?_
  exact x_end32_loop hd hI (fun r hr => h r I ⟨rfl, hr⟩) ((I 32 3).toNat + 1) 0 (-1) (by omega) (by omega) hI.1 enB_0
end
