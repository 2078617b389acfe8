/-! BOTH SIDES: frames -/
section
variable {I J : II}
theorem vS_fr (h : vS I) (e1 : J 76 = I 76) (e2 : J 77 = I 77) (e3 : J 78 = I 78) (e4 : J 129 = I 129) (e5 : J 100 46 = I 100 46) (e6 : J 100 47 = I 100 47) : vS J := by
  have eo : okS J = okS I := by funext a b c; unfold okS; rw [e1, e2]
  unfold vS ShI ShM PlnI BpM at *
  rw [eo, e1, e2, e3, e4, e5, e6]; exact h
theorem vD_fr (h : vD I) (e1 : J 79 = I 79) (e2 : J 80 = I 80) (e3 : J 81 = I 81) (e4 : J 82 = I 82) (e5 : J 84 = I 84) (e6 : J 100 48 = I 100 48) (e7 : J 130 = I 130) (e8 : J 131 = I 131) (e9 : J 132 = I 132) : vD J := by
  unfold vD BoyI BoyM RndI BsX at *
  rw [e1, e2, e3, e4, e5, e6, e7, e8, e9]; exact h
theorem lsO_fr (e1 : J 115 = I 115) (e2 : J 116 = I 116) {q so kd wo : Int} : lsO J q so kd wo = lsO I q so kd wo := by unfold lsO lnV; rw [e1, e2]
theorem twO_fr (e1 : J 115 = I 115) (e2 : J 116 = I 116) {q kd : Int} : twO J q kd = twO I q kd := by unfold twO lnV; rw [e1, e2]
theorem ngO_fr (e1 : J 115 = I 115) (e2 : J 116 = I 116) {q h : Int} : ngO J q h = ngO I q h := by unfold ngO lnV; rw [e1, e2]
/-- the cells that messages, offices, wires and orders rest on -/
def fA (nm no x : Nat) : Prop := (21 ≤ x ∧ x ≤ 41 ∧ x ≠ 36) ∨ x = 43 ∨ (101 ≤ x ∧ x ≤ 110) ∨ (115 ≤ x ∧ x ≤ 117) ∨ (200 ≤ x ∧ x < 200 + nm) ∨ (300 ≤ x ∧ x < 300 + no) ∨ (310 ≤ x ∧ x < 310 + no) ∨ (320 ≤ x ∧ x < 320 + no) ∨ (330 ≤ x ∧ x < 330 + no)
theorem oid_fA {nm no : Nat} (n : Int) : fA nm no (oid no n) := by
  unfold oid fA; split <;> omega
theorem orw_fA {nm no : Nat} (hno : no ≤ 6) (n : Int) {j : Nat} (hj : j < 2) : fA nm no (orw (oid no n) j) := by
  unfold oid orw fA
  split
  · rw [if_neg (by omega)]; rcases (show j = 0 ∨ j = 1 by omega) with e | e <;> subst e <;> omega
  · rw [if_pos rfl]; omega
theorem vX_fr {m : Nat} (e : J (200 + m) = I (200 + m)) : vX J m = vX I m := by unfold vX; rw [e]
theorem vA_fr {nm no : Nat} (h : vA I nm no) (e : ∀ x, fA nm no x → J x = I x) (e0 : J 100 0 = I 100 0) (e3 : J 100 3 = I 100 3) (e8 : J 100 8 = I 100 8) (e10 : J 100 10 = I 100 10) (e12 : J 100 12 = I 100 12) (e13 : J 100 13 = I 100 13) (e26 : J 100 26 = I 100 26) (e27 : J 100 27 = I 100 27) : vA J nm no := by
  obtain ⟨hP, hN, hL, hM, hD, h0, h12⟩ := h
  obtain ⟨p1, p2, p3, p4, p5, p6, p7, p8, p9, p10⟩ := hP
  have hno := p6.2.1
  have c : ∀ x, 21 ≤ x → x ≤ 41 → x ≠ 36 → J x = I x := fun x a b d => e x (Or.inl ⟨a, b, d⟩)
  have c2 : ∀ x, 101 ≤ x → x ≤ 110 → J x = I x := fun x a b => e x (Or.inr (Or.inr (Or.inl ⟨a, b⟩)))
  have c3 : ∀ x, 115 ≤ x → x ≤ 117 → J x = I x := fun x a b => e x (Or.inr (Or.inr (Or.inr (Or.inl ⟨a, b⟩))))
  have cm : ∀ m, m < nm → J (200 + m) = I (200 + m) := fun m hm => e _ (by unfold fA; omega)
  have c43 : J 43 = I 43 := e 43 (Or.inr (Or.inl rfl))
  have ck : ∀ k, k < no → J (330 + k) = I (330 + k) := fun k hk => e _ (by unfold fA; omega)
  have co : ∀ n : Int, J (oid no n) = I (oid no n) := fun n => e _ (oid_fA n)
  have cr : ∀ (n : Int) (j : Nat), j < 2 → J (orw (oid no n) j) = I (orw (oid no n) j) := fun n j hj => e _ (orw_fA hno n hj)
  have e115 := c3 115 (by decide) (by decide)
  have e116 := c3 116 (by decide) (by decide)
  refine ⟨⟨?_, p2, ?_, ?_, ?_, ?_, fun m hm => ?_, fun m hm => ?_, fun m hm => ?_, ?_⟩, ?_, ?_, ?_, fun m hm => ?_, ?_, ?_⟩
  · rw [c43]; exact p1
  · unfold NetI at *; rw [c 21 (by decide) (by decide) (by decide), c 22 (by decide) (by decide) (by decide), c 23 (by decide) (by decide) (by decide), c 24 (by decide) (by decide) (by decide), c 25 (by decide) (by decide) (by decide), c 26 (by decide) (by decide) (by decide), c 27 (by decide) (by decide) (by decide)]; exact p3
  · unfold StI at *; rw [c 28 (by decide) (by decide) (by decide), c 29 (by decide) (by decide) (by decide), c 30 (by decide) (by decide) (by decide), c 31 (by decide) (by decide) (by decide)]; exact p4
  · unfold StI at *; rw [c 32 (by decide) (by decide) (by decide), c 33 (by decide) (by decide) (by decide), c 34 (by decide) (by decide) (by decide), c 35 (by decide) (by decide) (by decide)]; exact p5
  · refine ⟨by rw [c 37 (by decide) (by decide) (by decide)]; exact p6.1, hno, fun n => ?_⟩
    have z := p6.2.2 n
    unfold OrdI at *
    rw [co n, cr n 0 (by decide), cr n 1 (by decide)]; exact z
  · have z := p7 m hm
    unfold MsgS at *; rw [cm m hm]; exact z
  · rw [c 21 (by decide) (by decide) (by decide), c 24 (by decide) (by decide) (by decide), c 25 (by decide) (by decide) (by decide), c43, vX_fr (cm m hm)]; exact p8 m hm
  · have z := p9 m hm
    unfold CacI at *
    rw [cm m hm, c 21 (by decide) (by decide) (by decide), c 24 (by decide) (by decide) (by decide), c 25 (by decide) (by decide) (by decide), c 26 (by decide) (by decide) (by decide)]; exact z
  · rw [c43]; exact p10
  · unfold rNet at *
    rw [c2 101 (by decide) (by decide), c2 102 (by decide) (by decide), c2 103 (by decide) (by decide), c2 104 (by decide) (by decide), c2 105 (by decide) (by decide), c2 106 (by decide) (by decide), c2 107 (by decide) (by decide), c2 108 (by decide) (by decide), e3, e8, e10, c 21 (by decide) (by decide) (by decide), c 22 (by decide) (by decide) (by decide), c 23 (by decide) (by decide) (by decide), c 24 (by decide) (by decide) (by decide), c 25 (by decide) (by decide) (by decide), c 26 (by decide) (by decide) (by decide), c 27 (by decide) (by decide) (by decide), c 28 (by decide) (by decide) (by decide), c 29 (by decide) (by decide) (by decide), c 30 (by decide) (by decide) (by decide), c 31 (by decide) (by decide) (by decide), c 32 (by decide) (by decide) (by decide), c 33 (by decide) (by decide) (by decide), c 34 (by decide) (by decide) (by decide), c 35 (by decide) (by decide) (by decide)]; exact hN
  · obtain ⟨l1, l2, l3, l4⟩ := hL
    refine ⟨by unfold LnI at *; rw [e27, e115]; exact l1, by rw [e26, c 37 (by decide) (by decide) (by decide)]; exact l2, fun k hk o o0 o1 => by rw [c3 117 (by decide) (by decide), ck k hk]; exact l3 k hk o o0 o1, fun q q0 q1 => ?_⟩
    have z := l4 q q0 q1
    unfold relO nightX at *
    rw [co q, cr q 0 (by decide), cr q 1 (by decide)]
    simp only [lsO_fr e115 e116, twO_fr e115 e116, ngO_fr e115 e116]
    exact z
  · refine ⟨by rw [e13]; exact hM.1, fun m hm => ?_⟩
    have z := hM.2 m hm
    rw [c2 109 (by decide) (by decide), cm m hm]; exact z
  · have z := hD m hm
    rw [vX_fr (cm m hm), ← z]
    unfold stM
    rw [c2 110 (by decide) (by decide)]
  · rw [e0, c43]; exact h0
  · rw [e12]; exact h12
end
