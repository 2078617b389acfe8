/-! TEXT: readsLine, readInto, fault -/
section
variable {g : GH} {d nm no : Nat} {I : II}
/-- what a line does to orders q with rows a, b -/
def OU (q a b : Nat) (so x y : Int) (I : II) : II := fun z j => if so = 0 ∧ z = a ∧ j = x then y else if so = 1 ∧ z = b ∧ j = x then y else if so = 3 ∧ z = q ∧ j = 6 then x else if so = 3 ∧ z = q ∧ j = 7 then y else if so = 4 ∧ z = q ∧ j = 3 then f_ior (I q 3) (f_ishl 1 x) else if so = 2 ∧ z = q ∧ j = 4 then y else if so = 5 ∧ z = q ∧ j = 5 then y else I z j
section
variable {q a b : Nat} {so x y : Int} {J : II}
theorem OU_0 : OU q a b 0 x y J = upI J a x y := by
  funext z j; unfold OU upI
  by_cases e : z = a ∧ j = x
  · rw [if_pos ⟨rfl, e⟩, if_pos e]
  · rw [if_neg (fun h => e h.2), if_neg (fun h => absurd h.1 (by decide)), if_neg (fun h => absurd h.1 (by decide)), if_neg (fun h => absurd h.1 (by decide)), if_neg (fun h => absurd h.1 (by decide)), if_neg (fun h => absurd h.1 (by decide)), if_neg (fun h => absurd h.1 (by decide)), if_neg e]
theorem OU_1 : OU q a b 1 x y J = upI J b x y := by
  funext z j; unfold OU upI
  by_cases e : z = b ∧ j = x
  · rw [if_neg (fun h => absurd h.1 (by decide)), if_pos ⟨rfl, e⟩, if_pos e]
  · rw [if_neg (fun h => absurd h.1 (by decide)), if_neg (fun h => e h.2), if_neg (fun h => absurd h.1 (by decide)), if_neg (fun h => absurd h.1 (by decide)), if_neg (fun h => absurd h.1 (by decide)), if_neg (fun h => absurd h.1 (by decide)), if_neg (fun h => absurd h.1 (by decide)), if_neg e]
theorem OU_3 : OU q a b 3 x y J = upI (upI J q 6 x) q 7 y := by
  funext z j; unfold OU upI
  rw [if_neg (fun h => absurd h.1 (by decide)), if_neg (fun h => absurd h.1 (by decide))]
  by_cases e : z = q ∧ j = 6
  · rw [if_pos ⟨rfl, e⟩, if_neg (fun h => by omega), if_pos e]
  · by_cases e2 : z = q ∧ j = 7
    · rw [if_neg (fun h => e h.2), if_pos ⟨rfl, e2⟩, if_pos e2]
    · rw [if_neg (fun h => e h.2), if_neg (fun h => e2 h.2), if_neg (fun h => absurd h.1 (by decide)), if_neg (fun h => absurd h.1 (by decide)), if_neg (fun h => absurd h.1 (by decide)), if_neg e2, if_neg e]
theorem OU_4 : OU q a b 4 x y J = upI J q 3 (f_ior (J q 3) (f_ishl 1 x)) := by
  funext z j; unfold OU upI
  rw [if_neg (fun h => absurd h.1 (by decide)), if_neg (fun h => absurd h.1 (by decide)), if_neg (fun h => absurd h.1 (by decide)), if_neg (fun h => absurd h.1 (by decide))]
  by_cases e : z = q ∧ j = 3
  · rw [if_pos ⟨rfl, e⟩, if_pos e]
  · rw [if_neg (fun h => e h.2), if_neg (fun h => absurd h.1 (by decide)), if_neg (fun h => absurd h.1 (by decide)), if_neg e]
theorem OU_2 : OU q a b 2 x y J = upI J q 4 y := by
  funext z j; unfold OU upI
  rw [if_neg (fun h => absurd h.1 (by decide)), if_neg (fun h => absurd h.1 (by decide)), if_neg (fun h => absurd h.1 (by decide)), if_neg (fun h => absurd h.1 (by decide)), if_neg (fun h => absurd h.1 (by decide))]
  by_cases e : z = q ∧ j = 4
  · rw [if_pos ⟨rfl, e⟩, if_pos e]
  · rw [if_neg (fun h => e h.2), if_neg (fun h => absurd h.1 (by decide)), if_neg e]
theorem OU_5 : OU q a b 5 x y J = upI J q 5 y := by
  funext z j; unfold OU upI
  rw [if_neg (fun h => absurd h.1 (by decide)), if_neg (fun h => absurd h.1 (by decide)), if_neg (fun h => absurd h.1 (by decide)), if_neg (fun h => absurd h.1 (by decide)), if_neg (fun h => absurd h.1 (by decide)), if_neg (fun h => absurd h.1 (by decide))]
  by_cases e : z = q ∧ j = 5
  · rw [if_pos ⟨rfl, e⟩, if_pos e]
  · rw [if_neg (fun h => e h.2), if_neg e]
theorem OU_a {j : Int} (h1 : a ≠ b) (h2 : a ≠ q) : OU q a b so x y J a j = if so = 0 ∧ j = x then y else J a j := by
  unfold OU
  by_cases e : so = 0 ∧ j = x
  · rw [if_pos ⟨e.1, rfl, e.2⟩, if_pos e]
  · rw [if_neg (fun h => e ⟨h.1, h.2.2⟩), if_neg (fun h => h1 h.2.1), if_neg (fun h => h2 h.2.1), if_neg (fun h => h2 h.2.1), if_neg (fun h => h2 h.2.1), if_neg (fun h => h2 h.2.1), if_neg (fun h => h2 h.2.1), if_neg e]
theorem OU_b {j : Int} (h1 : a ≠ b) (h2 : b ≠ q) : OU q a b so x y J b j = if so = 1 ∧ j = x then y else J b j := by
  unfold OU
  rw [if_neg (fun h => h1 h.2.1.symm)]
  by_cases e : so = 1 ∧ j = x
  · rw [if_pos ⟨e.1, rfl, e.2⟩, if_pos e]
  · rw [if_neg (fun h => e ⟨h.1, h.2.2⟩), if_neg (fun h => h2 h.2.1), if_neg (fun h => h2 h.2.1), if_neg (fun h => h2 h.2.1), if_neg (fun h => h2 h.2.1), if_neg (fun h => h2 h.2.1), if_neg e]
theorem OU_q {j : Int} (h1 : a ≠ q) (h2 : b ≠ q) : OU q a b so x y J q j = if so = 3 ∧ j = 6 then x else if so = 3 ∧ j = 7 then y else if so = 4 ∧ j = 3 then f_ior (J q 3) (f_ishl 1 x) else if so = 2 ∧ j = 4 then y else if so = 5 ∧ j = 5 then y else J q j := by
  unfold OU
  rw [if_neg (fun h => h1 h.2.1.symm), if_neg (fun h => h2 h.2.1.symm)]
  simp only [true_and]
theorem OU_o {z : Nat} (h1 : z ≠ a) (h2 : z ≠ b) (h3 : z ≠ q) : OU q a b so x y J z = J z := by
  funext j
  unfold OU
  rw [if_neg (fun h => h1 h.2.1), if_neg (fun h => h2 h.2.1), if_neg (fun h => h3 h.2.1), if_neg (fun h => h3 h.2.1), if_neg (fun h => h3 h.2.1), if_neg (fun h => h3 h.2.1), if_neg (fun h => h3 h.2.1)]
end
section
variable {f : Int → Int} {n p : Int}
theorem lnR_0 (h : soT f n p = 0) : lnR f n p = (if kdT f n (tE f n p) = -1 then tS f n (tE f n p) else cif (nuP f n (tE f n (tE f n p)) 9) (-1) (tS f n (tE f n (tE f n p)))) := by unfold lnR; rw [if_pos h]
theorem lnA_0 (h : soT f n p = 0) : lnA f n p = kdT f n (tE f n p) := by unfold lnA; rw [if_pos h]
theorem lnB_0 (h : soT f n p = 0) : lnB f n p = nvF f n (tE f n (tE f n p)) := by unfold lnB; rw [if_pos h]
theorem lnN_0 (h : soT f n p = 0) : lnN f n p = tE f n (tE f n (tE f n p)) := by unfold lnN; rw [if_pos h]
theorem lnR_1 (h : soT f n p = 1) : lnR f n p = (if kdT f n (tE f n p) = -1 then tS f n (tE f n p) else cif (nuP f n (tE f n (tE f n p)) 99) (-1) (tS f n (tE f n (tE f n p)))) := by unfold lnR; rw [if_neg (by omega), if_pos h]
theorem lnA_1 (h : soT f n p = 1) : lnA f n p = kdT f n (tE f n p) := by unfold lnA; rw [if_neg (by omega), if_pos h]
theorem lnB_1 (h : soT f n p = 1) : lnB f n p = nvF f n (tE f n (tE f n p)) := by unfold lnB; rw [if_neg (by omega), if_pos h]
theorem lnN_1 (h : soT f n p = 1) : lnN f n p = tE f n (tE f n (tE f n p)) := by unfold lnN; rw [if_neg (by omega), if_pos h]
theorem lnR_3 (h : soT f n p = 3) : lnR f n p = cif (nuP f n (tE f n p) 23) (cif (wdP f n (tE f n (tE f n p)) 8) (cif (nuP f n (tE f n (tE f n (tE f n p))) 23) (-1) (tS f n (tE f n (tE f n (tE f n p))))) (tS f n (tE f n (tE f n p)))) (tS f n (tE f n p)) := by unfold lnR; rw [if_neg (by omega), if_neg (by omega), if_pos h]
theorem lnA_3 (h : soT f n p = 3) : lnA f n p = nvF f n (tE f n p) := by unfold lnA; rw [if_neg (by omega), if_neg (by omega), if_pos h]
theorem lnB_3 (h : soT f n p = 3) : lnB f n p = nvF f n (tE f n (tE f n (tE f n p))) := by unfold lnB; rw [if_neg (by omega), if_neg (by omega), if_pos h]
theorem lnN_3 (h : soT f n p = 3) : lnN f n p = tE f n (tE f n (tE f n (tE f n p))) := by unfold lnN; rw [if_neg (by omega), if_neg (by omega), if_pos h]
theorem lnR_4 (h : soT f n p = 4) : lnR f n p = (if kdT f n (tE f n p) = -1 then tS f n (tE f n p) else -1) := by unfold lnR; rw [if_neg (by omega), if_neg (by omega), if_neg (by omega), if_pos h]
theorem lnA_4 (h : soT f n p = 4) : lnA f n p = kdT f n (tE f n p) := by unfold lnA; rw [if_neg (by omega), if_neg (by omega), if_neg (by omega), if_pos h]
theorem lnB_4 (h : soT f n p = 4) : lnB f n p = 0 := by unfold lnB; rw [if_neg (by omega), if_neg (by omega), if_neg (by omega), if_pos h]
theorem lnN_4 (h : soT f n p = 4) : lnN f n p = tE f n (tE f n p) := by unfold lnN; rw [if_neg (by omega), if_neg (by omega), if_neg (by omega)]
theorem lnR_2 (h : soT f n p = 2) : lnR f n p = cif (nuP f n (tE f n p) 99) (-1) (tS f n (tE f n p)) := by unfold lnR; rw [if_neg (by omega), if_neg (by omega), if_neg (by omega), if_neg (by omega), if_pos h]
theorem lnA_2 (h : soT f n p = 2) : lnA f n p = 0 := by unfold lnA; rw [if_neg (by omega), if_neg (by omega), if_neg (by omega), if_neg (by omega)]
theorem lnB_2 (h : soT f n p = 2) : lnB f n p = nvF f n (tE f n p) := by unfold lnB; rw [if_neg (by omega), if_neg (by omega), if_neg (by omega), if_neg (by omega)]
theorem lnN_2 (h : soT f n p = 2) : lnN f n p = tE f n (tE f n p) := by unfold lnN; rw [if_neg (by omega), if_neg (by omega), if_neg (by omega)]
theorem lnR_5 (h : soT f n p = 5) : lnR f n p = cif (nuP f n (tE f n p) 99) (-1) (tS f n (tE f n p)) := by unfold lnR; rw [if_neg (by omega), if_neg (by omega), if_neg (by omega), if_neg (by omega), if_neg (by omega), if_pos h]
theorem lnA_5 (h : soT f n p = 5) : lnA f n p = 0 := by unfold lnA; rw [if_neg (by omega), if_neg (by omega), if_neg (by omega), if_neg (by omega)]
theorem lnB_5 (h : soT f n p = 5) : lnB f n p = nvF f n (tE f n p) := by unfold lnB; rw [if_neg (by omega), if_neg (by omega), if_neg (by omega), if_neg (by omega)]
theorem lnN_5 (h : soT f n p = 5) : lnN f n p = tE f n (tE f n p) := by unfold lnN; rw [if_neg (by omega), if_neg (by omega), if_neg (by omega)]
theorem so_bd : -1 ≤ soT f n p ∧ soT f n p ≤ 5 := by
  unfold soT cif
  (repeat' split) <;> omega
theorem lnN_bd (h : 0 ≤ p ∧ p ≤ n) : 0 ≤ lnN f n p ∧ lnN f n p ≤ n := by
  have h1 := t_bd (f := f) h.2
  have h2 := t_bd (f := f) h1.2.2.1
  have h3 := t_bd (f := f) h2.2.2.1
  have h4 := t_bd (f := f) h3.2.2.1
  unfold lnN
  (repeat' split) <;> omega
theorem poF_bd (hn : 0 ≤ n) : ∀ k : Nat, 0 ≤ poF f n k ∧ poF f n k ≤ n
  | 0 => ⟨Int.le_refl 0, hn⟩
  | k + 1 => by
    have h1 := lnN_bd (f := f) (poF_bd hn k)
    have h2 := t_bd (f := f) h1.2
    show 0 ≤ tE f n (lnN f n (poF f n k)) ∧ tE f n (lnN f n (poF f n k)) ≤ n
    omega
theorem lnR_none (h : soT f n p = -1) : lnR f n p = tS f n p := by unfold lnR; rw [if_neg (by omega), if_neg (by omega), if_neg (by omega), if_neg (by omega), if_neg (by omega), if_neg (by omega)]
/-- what a line that is read has -/
theorem ln_ok (h : 0 ≤ p ∧ p ≤ n) (hr : lnR f n p = -1) : (soT f n p = 0 ∧ (0 ≤ lnA f n p ∧ lnA f n p < 5) ∧ 0 ≤ lnB f n p ∧ lnB f n p ≤ 9) ∨ (soT f n p = 1 ∧ (0 ≤ lnA f n p ∧ lnA f n p < 5) ∧ 0 ≤ lnB f n p ∧ lnB f n p ≤ 99) ∨ (soT f n p = 3 ∧ (0 ≤ lnA f n p ∧ lnA f n p ≤ 23) ∧ 0 ≤ lnB f n p ∧ lnB f n p ≤ 23) ∨ (soT f n p = 4 ∧ (0 ≤ lnA f n p ∧ lnA f n p < 5)) ∨ (soT f n p = 2 ∧ lnA f n p = 0 ∧ 0 ≤ lnB f n p ∧ lnB f n p ≤ 99) ∨ (soT f n p = 5 ∧ lnA f n p = 0 ∧ 0 ≤ lnB f n p ∧ lnB f n p ≤ 99) := by
  have h1 := t_bd (f := f) h.2
  have h2 := t_bd (f := f) h1.2.2.1
  have h3 := t_bd (f := f) h2.2.2.1
  have h4 := t_bd (f := f) h3.2.2.1
  have hk := kd_bd (f := f) (n := n) (p := tE f n p)
  have hb := so_bd (f := f) (n := n) (p := p)
  rcases (show soT f n p = -1 ∨ soT f n p = 0 ∨ soT f n p = 1 ∨ soT f n p = 2 ∨ soT f n p = 3 ∨ soT f n p = 4 ∨ soT f n p = 5 by omega) with e | e | e | e | e | e | e
  · rw [lnR_none e] at hr; omega
  · rw [lnR_0 e] at hr
    by_cases k1 : kdT f n (tE f n p) = -1
    · rw [if_pos k1] at hr; omega
    · rw [if_neg k1] at hr
      by_cases k2 : nuP f n (tE f n (tE f n p)) 9
      · have := nu_bd h2.2.2.1 k2
        rw [lnA_0 e, lnB_0 e]
        exact Or.inl ⟨e, by omega, by omega⟩
      · rw [cif_f k2] at hr; omega
  · rw [lnR_1 e] at hr
    by_cases k1 : kdT f n (tE f n p) = -1
    · rw [if_pos k1] at hr; omega
    · rw [if_neg k1] at hr
      by_cases k2 : nuP f n (tE f n (tE f n p)) 99
      · have := nu_bd h2.2.2.1 k2
        rw [lnA_1 e, lnB_1 e]
        exact Or.inr (Or.inl ⟨e, by omega, by omega⟩)
      · rw [cif_f k2] at hr; omega
  · rw [lnR_2 e] at hr
    by_cases k2 : nuP f n (tE f n p) 99
    · have := nu_bd h1.2.2.1 k2
      rw [lnA_2 e, lnB_2 e]
      exact Or.inr (Or.inr (Or.inr (Or.inr (Or.inl ⟨e, rfl, by omega⟩))))
    · rw [cif_f k2] at hr; omega
  · rw [lnR_3 e] at hr
    by_cases k1 : nuP f n (tE f n p) 23
    · rw [cif_t k1] at hr
      by_cases k2 : wdP f n (tE f n (tE f n p)) 8
      · rw [cif_t k2] at hr
        by_cases k3 : nuP f n (tE f n (tE f n (tE f n p))) 23
        · have a1 := nu_bd h1.2.2.1 k1
          have a2 := nu_bd h3.2.2.1 k3
          rw [lnA_3 e, lnB_3 e]
          exact Or.inr (Or.inr (Or.inl ⟨e, by omega, by omega⟩))
        · rw [cif_f k3] at hr; omega
      · rw [cif_f k2] at hr; omega
    · rw [cif_f k1] at hr; omega
  · rw [lnR_4 e] at hr
    by_cases k1 : kdT f n (tE f n p) = -1
    · rw [if_pos k1] at hr; omega
    · rw [lnA_4 e]
      exact Or.inr (Or.inr (Or.inr (Or.inl ⟨e, by omega⟩)))
  · rw [lnR_5 e] at hr
    by_cases k2 : nuP f n (tE f n p) 99
    · have := nu_bd h1.2.2.1 k2
      rw [lnA_5 e, lnB_5 e]
      exact Or.inr (Or.inr (Or.inr (Or.inr (Or.inr ⟨e, rfl, by omega⟩))))
    · rw [cif_f k2] at hr; omega
end
theorem x_readsLine {f : Int → Int} {n p : Int} (hf : I 47 = f) (hn : I 46 1 = n) (hT : TxI I) (hp : 0 ≤ p ∧ p ≤ n) (hA : tkB f n I p) {q a b c : Nat} (ho : OrdAt (shX nm no) (RX nm no) q a b c) (hq : q ≠ 46 ∧ q ≠ 47) (ha : a ≠ 46 ∧ a ≠ 47) (hb : b ≠ 46 ∧ b ≠ 47) (hd : 8 ≤ d) : SI g d mX10_readsLine [vr 46, vr q] (shX nm no) (RX nm no) I (fun r J => (lnR f n p = -1 ∧ r = 1 ∧ FrX (OU q a b (soT f n p) (lnA f n p) (lnB f n p) I) J ∧ tkB f n J (lnN f n p)) ∨ (lnR f n p ≠ -1 ∧ r = 0 ∧ FrX I J ∧ J 46 2 = lnR f n p)) := by
  have hb1 := t_bd (f := f) hp.2
  have hb2 := t_bd (f := f) hb1.2.2.1
  have hb3 := t_bd (f := f) hb2.2.2.1
  have hb4 := t_bd (f := f) hb3.2.2.1
  intro Q h
  refine C_of rfl (Nat.le_of_ble_eq_true rfl) rfl ?_
  refine m_aload_n dX10_readsLine_0 rfl ?_
  refine m_ldcS (i := 0) (by decide) rfl dX10_readsLine_1 ?_
  refine m_VI [_] dX10_readsLine_3 lk_X10_43 rfl oX_46 rfl (Nat.le_of_ble_eq_true rfl) (by omega) (x_pw 0 (by omega) (by decide) hf hn hT hp hA) ?_
  intro r3 I3 q3
  refine m_if_eq (tgt := 15) dX10_readsLine_6 (by decide) (fun c6 => ?_) (fun c6 => ?_)
  · obtain ⟨n3, e3⟩ : ¬ wdP f n p 0 ∧ I = I3 := (by rcases q3 with q | q; exact absurd (q.2.1.symm.trans c6) (by decide); exact ⟨q.1, q.2.2.symm⟩)
    subst e3
    refine m_aload_n dX10_readsLine_15 rfl ?_
    refine m_ldcS (i := 6) (by decide) rfl dX10_readsLine_16 ?_
    refine m_VI [_] dX10_readsLine_18 lk_X10_43 rfl oX_46 rfl (Nat.le_of_ble_eq_true rfl) (by omega) (x_pw 6 (by omega) (by decide) hf hn hT hp hA) ?_
    intro r18 I18 q18
    refine m_if_eq (tgt := 30) dX10_readsLine_21 (by decide) (fun c21 => ?_) (fun c21 => ?_)
    · obtain ⟨n18, e18⟩ : ¬ wdP f n p 6 ∧ I = I18 := (by rcases q18 with q | q; exact absurd (q.2.1.symm.trans c21) (by decide); exact ⟨q.1, q.2.2.symm⟩)
      subst e18
      refine m_aload_n dX10_readsLine_30 rfl ?_
      refine m_ldcS (i := 7) (by decide) rfl dX10_readsLine_31 ?_
      refine m_VI [_] dX10_readsLine_33 lk_X10_43 rfl oX_46 rfl (Nat.le_of_ble_eq_true rfl) (by omega) (x_pw 7 (by omega) (by decide) hf hn hT hp hA) ?_
      intro r33 I33 q33
      refine m_if_eq (tgt := 45) dX10_readsLine_36 (by decide) (fun c36 => ?_) (fun c36 => ?_)
      · obtain ⟨n33, e33⟩ : ¬ wdP f n p 7 ∧ I = I33 := (by rcases q33 with q | q; exact absurd (q.2.1.symm.trans c36) (by decide); exact ⟨q.1, q.2.2.symm⟩)
        subst e33
        refine m_aload_n dX10_readsLine_45 rfl ?_
        refine m_ldcS (i := 9) (by decide) rfl dX10_readsLine_46 ?_
        refine m_VI [_] dX10_readsLine_48 lk_X10_43 rfl oX_46 rfl (Nat.le_of_ble_eq_true rfl) (by omega) (x_pw 9 (by omega) (by decide) hf hn hT hp hA) ?_
        intro r48 I48 q48
        refine m_if_eq (tgt := 60) dX10_readsLine_51 (by decide) (fun c51 => ?_) (fun c51 => ?_)
        · obtain ⟨n48, e48⟩ : ¬ wdP f n p 9 ∧ I = I48 := (by rcases q48 with q | q; exact absurd (q.2.1.symm.trans c51) (by decide); exact ⟨q.1, q.2.2.symm⟩)
          subst e48
          refine m_aload_n dX10_readsLine_60 rfl ?_
          refine m_ldcS (i := 10) (by decide) rfl dX10_readsLine_61 ?_
          refine m_VI [_] dX10_readsLine_63 lk_X10_43 rfl oX_46 rfl (Nat.le_of_ble_eq_true rfl) (by omega) (x_pw 10 (by omega) (by decide) hf hn hT hp hA) ?_
          intro r63 I63 q63
          refine m_if_eq (tgt := 75) dX10_readsLine_66 (by decide) (fun c66 => ?_) (fun c66 => ?_)
          · obtain ⟨n63, e63⟩ : ¬ wdP f n p 10 ∧ I = I63 := (by rcases q63 with q | q; exact absurd (q.2.1.symm.trans c66) (by decide); exact ⟨q.1, q.2.2.symm⟩)
            subst e63
            refine m_aload_n dX10_readsLine_75 rfl ?_
            refine m_ldcS (i := 11) (by decide) rfl dX10_readsLine_76 ?_
            refine m_VI [_] dX10_readsLine_78 lk_X10_43 rfl oX_46 rfl (Nat.le_of_ble_eq_true rfl) (by omega) (x_pw 11 (by omega) (by decide) hf hn hT hp hA) ?_
            intro r78 I78 q78
            refine m_if_eq (tgt := 96) dX10_readsLine_81 (by decide) (fun c81 => ?_) (fun c81 => ?_)
            · obtain ⟨n78, e78⟩ : ¬ wdP f n p 11 ∧ I = I78 := (by rcases q78 with q | q; exact absurd (q.2.1.symm.trans c81) (by decide); exact ⟨q.1, q.2.2.symm⟩)
              subst e78
              refine m_iconst dX10_readsLine_96 (by decide) ?_
              refine m_zret dX10_readsLine_97 rfl (by omega) ?_
              have es : soT f n p = -1 := by unfold soT; rw [cif_f n3, cif_f n18, cif_f n33, cif_f n48, cif_f n63, cif_f n78]
              exact h _ _ (Or.inr ⟨by rw [lnR_none es]; omega, rfl, FrX_rf, by rw [lnR_none es]; exact hA.1⟩)
            · obtain ⟨w78, f78, t78⟩ : wdP f n p 11 ∧ FrX I I78 ∧ tkB f n I78 (tE f n p) := (by rcases q78 with q | q; exact ⟨q.1, q.2.2.1, q.2.2.2.2.2⟩; exact absurd q.2.1 c81)
              refine m_aload_n dX10_readsLine_84 rfl ?_
              refine m_aload_n dX10_readsLine_85 rfl ?_
              refine m_VI [_] dX10_readsLine_86 lk_X10_72 rfl oX_46 rfl (Nat.le_of_ble_eq_true rfl) (by omega) (x_readsBack (frX_f f78 hf) (frX_n f78 hn) (TxI_fr hT f78) ⟨by omega, by omega⟩ t78 ho hq ha hb (by omega)) ?_
              intro r86 I86 q86
              refine m_if_eq (tgt := 96) dX10_readsLine_89 (by decide) (fun c89 => ?_) (fun c89 => ?_)
              · refine m_iconst dX10_readsLine_96 (by decide) ?_
                refine m_zret dX10_readsLine_97 rfl (by omega) ?_
                have es : soT f n p = 5 := by unfold soT; rw [cif_f n3, cif_f n18, cif_f n33, cif_f n48, cif_f n63, cif_t w78]
                rcases q86 with z | z
                · exact absurd z.2.1 (by omega)
                · obtain ⟨zr, z3, z0, z4⟩ := z
                  have hR : I86 46 2 = lnR f n p := by rw [lnR_5 es, cif_f z0]; exact z4
                  have hN : lnR f n p ≠ -1 := by rw [← hR, z4]; omega
                  exact h _ _ (Or.inr ⟨hN, rfl, FrX_tr f78 z3, hR⟩)
              · refine m_iconst dX10_readsLine_92 (by decide) ?_
                refine m_goto (tgt := 97) dX10_readsLine_93 (by decide) ?_
                refine m_zret dX10_readsLine_97 rfl (by omega) ?_
                have es : soT f n p = 5 := by unfold soT; rw [cif_f n3, cif_f n18, cif_f n33, cif_f n48, cif_f n63, cif_t w78]
                rcases q86 with z | z
                · obtain ⟨z0, zr, z3, z4⟩ := z
                  have er : lnR f n p = -1 := by rw [lnR_5 es, cif_t z0]
                  refine h _ _ (Or.inl ⟨er, rfl, ?_, by rw [lnN_5 es]; exact z4⟩)
                  rw [es, OU_5, lnB_5 es]
                  exact ⟨fun x hx => by
                      rw [z3.1 x hx]
                      funext y
                      show (if x = q ∧ y = _ then _ else I78 x y) = (if x = q ∧ y = _ then _ else I x y)
                      rw [f78.1 x hx], fun j a1 b1 c1 e1 => by rw [z3.2 j a1 b1 c1 e1, upI_o hq.1.symm, upI_o hq.1.symm, f78.2 j a1 b1 c1 e1]⟩
                · exact absurd z.1 c89
          · obtain ⟨w63, f63, t63⟩ : wdP f n p 10 ∧ FrX I I63 ∧ tkB f n I63 (tE f n p) := (by rcases q63 with q | q; exact ⟨q.1, q.2.2.1, q.2.2.2.2.2⟩; exact absurd q.2.1 c66)
            refine m_aload_n dX10_readsLine_69 rfl ?_
            refine m_aload_n dX10_readsLine_70 rfl ?_
            refine m_VI [_] dX10_readsLine_71 lk_X10_67 rfl oX_46 rfl (Nat.le_of_ble_eq_true rfl) (by omega) (x_readsLeast (frX_f f63 hf) (frX_n f63 hn) (TxI_fr hT f63) ⟨by omega, by omega⟩ t63 ho hq ha hb (by omega)) ?_
            intro r71 I71 q71
            refine m_zret dX10_readsLine_74 rfl (by rcases q71 with z | z; exact Or.inr z.2.1; exact Or.inl z.1) ?_
            have es : soT f n p = 2 := by unfold soT; rw [cif_f n3, cif_f n18, cif_f n33, cif_f n48, cif_t w63]
            rcases q71 with z | z
            · obtain ⟨z0, zr, z3, z4⟩ := z
              have er : lnR f n p = -1 := by rw [lnR_2 es, cif_t z0]
              refine h _ _ (Or.inl ⟨er, zr, ?_, by rw [lnN_2 es]; exact z4⟩)
              rw [es, OU_2, lnB_2 es]
              exact ⟨fun x hx => by
                  rw [z3.1 x hx]
                  funext y
                  show (if x = q ∧ y = _ then _ else I63 x y) = (if x = q ∧ y = _ then _ else I x y)
                  rw [f63.1 x hx], fun j a1 b1 c1 e1 => by rw [z3.2 j a1 b1 c1 e1, upI_o hq.1.symm, upI_o hq.1.symm, f63.2 j a1 b1 c1 e1]⟩
            · obtain ⟨zr, z3, z0, z4⟩ := z
              have hR : I71 46 2 = lnR f n p := by rw [lnR_2 es, cif_f z0]; exact z4
              have hN : lnR f n p ≠ -1 := by rw [← hR, z4]; omega
              exact h _ _ (Or.inr ⟨hN, zr, FrX_tr f63 z3, hR⟩)
        · obtain ⟨w48, f48, t48⟩ : wdP f n p 9 ∧ FrX I I48 ∧ tkB f n I48 (tE f n p) := (by rcases q48 with q | q; exact ⟨q.1, q.2.2.1, q.2.2.2.2.2⟩; exact absurd q.2.1 c51)
          refine m_aload_n dX10_readsLine_54 rfl ?_
          refine m_aload_n dX10_readsLine_55 rfl ?_
          refine m_VI [_] dX10_readsLine_56 lk_X10_62 rfl oX_46 rfl (Nat.le_of_ble_eq_true rfl) (by omega) (x_readsRepeat (frX_f f48 hf) (frX_n f48 hn) (TxI_fr hT f48) ⟨by omega, by omega⟩ t48 ho hq ha hb (by omega)) ?_
          intro r56 I56 q56
          refine m_zret dX10_readsLine_59 rfl (by rcases q56 with z | z; exact Or.inr z.2.1; exact Or.inl z.1) ?_
          have es : soT f n p = 4 := by unfold soT; rw [cif_f n3, cif_f n18, cif_f n33, cif_t w48]
          rcases q56 with z | z
          · obtain ⟨z0, zr, z3, z4⟩ := z
            have er : lnR f n p = -1 := by rw [lnR_4 es, if_neg z0]
            refine h _ _ (Or.inl ⟨er, zr, ?_, by rw [lnN_4 es]; exact z4⟩)
            rw [es, OU_4, lnA_4 es]
            exact ⟨fun x hx => by
                rw [z3.1 x hx]
                funext y
                show (if x = q ∧ y = _ then _ else I48 x y) = (if x = q ∧ y = _ then _ else I x y)
                rw [f48.1 x hx, f48.1 q hq.1], fun j a1 b1 c1 e1 => by rw [z3.2 j a1 b1 c1 e1, upI_o hq.1.symm, upI_o hq.1.symm, f48.2 j a1 b1 c1 e1]⟩
          · obtain ⟨zr, z3, z0, z4⟩ := z
            have hR : I56 46 2 = lnR f n p := by rw [lnR_4 es, if_pos z0]; exact z4
            have hN : lnR f n p ≠ -1 := by rw [← hR, z4]; omega
            exact h _ _ (Or.inr ⟨hN, zr, FrX_tr f48 z3, hR⟩)
      · obtain ⟨w33, f33, t33⟩ : wdP f n p 7 ∧ FrX I I33 ∧ tkB f n I33 (tE f n p) := (by rcases q33 with q | q; exact ⟨q.1, q.2.2.1, q.2.2.2.2.2⟩; exact absurd q.2.1 c36)
        refine m_aload_n dX10_readsLine_39 rfl ?_
        refine m_aload_n dX10_readsLine_40 rfl ?_
        refine m_VI [_] dX10_readsLine_41 lk_X10_57 rfl oX_46 rfl (Nat.le_of_ble_eq_true rfl) (by omega) (x_readsNight (frX_f f33 hf) (frX_n f33 hn) (TxI_fr hT f33) ⟨by omega, by omega⟩ t33 ho hq ha hb (by omega)) ?_
        intro r41 I41 q41
        refine m_zret dX10_readsLine_44 rfl (by rcases q41 with z | z; exact Or.inr z.2.1; exact Or.inl z.1) ?_
        have es : soT f n p = 3 := by unfold soT; rw [cif_f n3, cif_f n18, cif_t w33]
        rcases q41 with z | z
        · obtain ⟨z0, zr, z3, z4⟩ := z
          have er : lnR f n p = -1 := by rw [lnR_3 es, cif_t z0.1, cif_t z0.2.1, cif_t z0.2.2]
          refine h _ _ (Or.inl ⟨er, zr, ?_, by rw [lnN_3 es]; exact z4⟩)
          rw [es, OU_3, lnA_3 es, lnB_3 es]
          exact ⟨fun x hx => by
              rw [z3.1 x hx]
              funext y
              show (if x = q ∧ y = _ then _ else if x = q ∧ y = _ then _ else I33 x y) = (if x = q ∧ y = _ then _ else if x = q ∧ y = _ then _ else I x y)
              rw [f33.1 x hx], fun j a1 b1 c1 e1 => by rw [z3.2 j a1 b1 c1 e1, upI_o hq.1.symm, upI_o hq.1.symm, upI_o hq.1.symm, upI_o hq.1.symm, f33.2 j a1 b1 c1 e1]⟩
        · obtain ⟨zr, z3, z4⟩ := z
          have hR : I41 46 2 = lnR f n p := by
            rw [lnR_3 es]
            rcases z4 with y | y | y
            · rw [cif_f y.1]; exact y.2
            · rw [cif_t y.1, cif_f y.2.1]; exact y.2.2
            · rw [cif_t y.1, cif_t y.2.1, cif_f y.2.2.1]; exact y.2.2.2
          have hN : lnR f n p ≠ -1 := by
            rw [← hR]
            rcases z4 with y | y | y
            · rw [y.2]; omega
            · rw [y.2.2]; omega
            · rw [y.2.2.2]; omega
          exact h _ _ (Or.inr ⟨hN, zr, FrX_tr f33 z3, hR⟩)
    · obtain ⟨w18, f18, t18⟩ : wdP f n p 6 ∧ FrX I I18 ∧ tkB f n I18 (tE f n p) := (by rcases q18 with q | q; exact ⟨q.1, q.2.2.1, q.2.2.2.2.2⟩; exact absurd q.2.1 c21)
      refine m_aload_n dX10_readsLine_24 rfl ?_
      refine m_aload_n dX10_readsLine_25 rfl ?_
      refine m_VI [_] dX10_readsLine_26 lk_X10_52 rfl oX_46 rfl (Nat.le_of_ble_eq_true rfl) (by omega) (x_readsPay (frX_f f18 hf) (frX_n f18 hn) (TxI_fr hT f18) ⟨by omega, by omega⟩ t18 ho hq ha hb (by omega)) ?_
      intro r26 I26 q26
      refine m_zret dX10_readsLine_29 rfl (by rcases q26 with z | z; exact Or.inr z.2.2.1; exact Or.inl z.1) ?_
      have es : soT f n p = 1 := by unfold soT; rw [cif_f n3, cif_t w18]
      rcases q26 with z | z
      · obtain ⟨z0, z1, zr, z3, z4⟩ := z
        have er : lnR f n p = -1 := by rw [lnR_1 es, if_neg z0, cif_t z1]
        refine h _ _ (Or.inl ⟨er, zr, ?_, by rw [lnN_1 es]; exact z4⟩)
        rw [es, OU_1, lnA_1 es, lnB_1 es]
        exact ⟨fun x hx => by
            rw [z3.1 x hx]
            funext y
            show (if x = b ∧ y = _ then _ else I18 x y) = (if x = b ∧ y = _ then _ else I x y)
            rw [f18.1 x hx], fun j a1 b1 c1 e1 => by rw [z3.2 j a1 b1 c1 e1, upI_o hb.1.symm, upI_o hb.1.symm, f18.2 j a1 b1 c1 e1]⟩
      · obtain ⟨zr, z3, z4⟩ := z
        have hR : I26 46 2 = lnR f n p := by
          rw [lnR_1 es]
          rcases z4 with y | y
          · rw [if_pos y.1]; exact y.2
          · rw [if_neg y.1, cif_f y.2.1]; exact y.2.2
        have hN : lnR f n p ≠ -1 := by
          rw [← hR]
          rcases z4 with y | y
          · rw [y.2]; omega
          · rw [y.2.2]; omega
        exact h _ _ (Or.inr ⟨hN, zr, FrX_tr f18 z3, hR⟩)
  · obtain ⟨w3, f3, t3⟩ : wdP f n p 0 ∧ FrX I I3 ∧ tkB f n I3 (tE f n p) := (by rcases q3 with q | q; exact ⟨q.1, q.2.2.1, q.2.2.2.2.2⟩; exact absurd q.2.1 c6)
    refine m_aload_n dX10_readsLine_9 rfl ?_
    refine m_aload_n dX10_readsLine_10 rfl ?_
    refine m_VI [_] dX10_readsLine_11 lk_X10_47 rfl oX_46 rfl (Nat.le_of_ble_eq_true rfl) (by omega) (x_readsRank (frX_f f3 hf) (frX_n f3 hn) (TxI_fr hT f3) ⟨by omega, by omega⟩ t3 ho hq ha hb (by omega)) ?_
    intro r11 I11 q11
    refine m_zret dX10_readsLine_14 rfl (by rcases q11 with z | z; exact Or.inr z.2.2.1; exact Or.inl z.1) ?_
    have es : soT f n p = 0 := by unfold soT; rw [cif_t w3]
    rcases q11 with z | z
    · obtain ⟨z0, z1, zr, z3, z4⟩ := z
      have er : lnR f n p = -1 := by rw [lnR_0 es, if_neg z0, cif_t z1]
      refine h _ _ (Or.inl ⟨er, zr, ?_, by rw [lnN_0 es]; exact z4⟩)
      rw [es, OU_0, lnA_0 es, lnB_0 es]
      exact ⟨fun x hx => by
          rw [z3.1 x hx]
          funext y
          show (if x = a ∧ y = _ then _ else I3 x y) = (if x = a ∧ y = _ then _ else I x y)
          rw [f3.1 x hx], fun j a1 b1 c1 e1 => by rw [z3.2 j a1 b1 c1 e1, upI_o ha.1.symm, upI_o ha.1.symm, f3.2 j a1 b1 c1 e1]⟩
    · obtain ⟨zr, z3, z4⟩ := z
      have hR : I11 46 2 = lnR f n p := by
        rw [lnR_0 es]
        rcases z4 with y | y
        · rw [if_pos y.1]; exact y.2
        · rw [if_neg y.1, cif_f y.2.1]; exact y.2.2
      have hN : lnR f n p ≠ -1 := by
        rw [← hR]
        rcases z4 with y | y
        · rw [y.2]; omega
        · rw [y.2.2]; omega
      exact h _ _ (Or.inr ⟨hN, zr, FrX_tr f3 z3, hR⟩)
end
