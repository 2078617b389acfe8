/-! PAIRS: wires, hours, storms, lets, the lag: what vA rests on -/
section
variable {I J : II} {nm no : Nat}
theorem upI_F {o : Nat} {i v : Int} : upI I o i v o = upF (I o) i v := by
  funext j; unfold upI upF; by_cases z : j = i
  · rw [if_pos ⟨rfl, z⟩, if_pos z]
  · rw [if_neg (fun w => z w.2), if_neg z]
def fB (nm no x : Nat) : Prop := (38 ≤ x ∧ x ≤ 41) ∨ x = 43 ∨ x = 109 ∨ x = 110 ∨ (115 ≤ x ∧ x ≤ 117) ∨ (200 ≤ x ∧ x < 200 + nm) ∨ (300 ≤ x ∧ x < 300 + no) ∨ (310 ≤ x ∧ x < 310 + no) ∨ (320 ≤ x ∧ x < 320 + no) ∨ (330 ≤ x ∧ x < 330 + no)
theorem oid_fB (n : Int) : fB nm no (oid no n) := by
  unfold oid fB; split <;> omega
theorem orw_fB (hno : no ≤ 6) (n : Int) {j : Nat} (hj : j < 2) : fB nm no (orw (oid no n) j) := by
  unfold oid orw fB
  split
  · rw [if_neg (by omega)]; rcases (show j = 0 ∨ j = 1 by omega) with e | e <;> subst e <;> omega
  · rw [if_pos rfl]; omega
theorem vA_mk (h : vA I nm no) (e : ∀ x, fB nm no x → J x = I x) (hN : NetI J) (h1 : StI J 28 29 30 31 12) (h2 : StI J 32 33 34 35 6) (hD : ∀ m, m < nm → MsgD (J 21 9) (J 24) (J 25) (J 43 5) (vX J m)) (hC : ∀ m, m < nm → CacI J (200 + m)) (hr : rNet J) (hl : J 100 26 = J 37 4 ∧ 0 ≤ J 37 4 ∧ J 37 4 ≤ 99) (e37 : J 37 3 = I 37 3) (e13 : J 100 13 = I 100 13) (e27 : J 100 27 = I 100 27) (e0 : J 100 0 = I 100 0) (e12 : J 100 12 = I 100 12) : vA J nm no := by
  obtain ⟨hP, hNr, hL, hM, hDD, h0, h12⟩ := h
  obtain ⟨p1, p2, p3, p4, p5, p6, p7, p8, p9, p10⟩ := hP
  have hno := p6.2.1
  have c43 : J 43 = I 43 := e 43 (by unfold fB; omega)
  have e115 : J 115 = I 115 := e 115 (by unfold fB; omega)
  have e116 : J 116 = I 116 := e 116 (by unfold fB; omega)
  have cm : ∀ m, m < nm → J (200 + m) = I (200 + m) := fun m hm => e _ (by unfold fB; omega)
  have co : ∀ n : Int, J (oid no n) = I (oid no n) := fun n => e _ (oid_fB n)
  have cr : ∀ (n : Int) (j : Nat), j < 2 → J (orw (oid no n) j) = I (orw (oid no n) j) := fun n j hj => e _ (orw_fB hno n hj)
  refine ⟨⟨by rw [c43]; exact p1, p2, hN, h1, h2, ⟨by rw [e37]; exact p6.1, hno, fun n => ?_⟩, fun m hm => ?_, hD, hC, by rw [c43]; exact p10⟩, hr, ?_, ?_, fun m hm => ?_, by rw [e0, c43]; exact h0, by rw [e12]; exact h12⟩
  · have z := p6.2.2 n
    unfold OrdI at *
    rw [co n, cr n 0 (by decide), cr n 1 (by decide)]; exact z
  · have z := p7 m hm
    unfold MsgS at *; rw [cm m hm]; exact z
  · obtain ⟨l1, l2, l3, l4⟩ := hL
    refine ⟨by unfold LnI at *; rw [e27, e115]; exact l1, hl, fun k hk o o0 o1 => by rw [e 117 (by unfold fB; omega), e (330 + k) (by unfold fB; omega)]; exact l3 k hk o o0 o1, fun q q0 q1 => ?_⟩
    have z := l4 q q0 q1
    unfold relO nightX at *
    rw [co q, cr q 0 (by decide), cr q 1 (by decide)]
    simp only [lsO_fr e115 e116, twO_fr e115 e116, ngO_fr e115 e116]
    exact z
  · refine ⟨by rw [e13]; exact hM.1, fun m hm => ?_⟩
    have z := hM.2 m hm
    rw [e 109 (by unfold fB; omega), cm m hm]; exact z
  · rw [vX_fr (cm m hm), ← hDD m hm]
    exact stM_fr (e 110 (by unfold fB; omega))
theorem msgD_same (h : vA I nm no) (e43 : J 43 = I 43) (e21 : J 21 9 = I 21 9) (e24 : J 24 = I 24) (e25 : J 25 = I 25) (em : ∀ m, m < nm → J (200 + m) = I (200 + m)) : ∀ m, m < nm → MsgD (J 21 9) (J 24) (J 25) (J 43 5) (vX J m) := fun m hm => by
  rw [e43, e21, e24, e25, vX_fr (em m hm)]; exact h.1.2.2.2.2.2.2.2.1 m hm
theorem cacI_same (h : vA I nm no) (e21 : J 21 9 = I 21 9) (e24 : J 24 = I 24) (e25 : J 25 = I 25) (e26 : J 26 = I 26) (em : ∀ m, m < nm → J (200 + m) = I (200 + m)) : ∀ m, m < nm → CacI J (200 + m) := fun m hm => by
  have z := h.1.2.2.2.2.2.2.2.2.1 m hm
  unfold CacI at *
  rw [e21, e24, e25, e26, em m hm]; exact z
end
