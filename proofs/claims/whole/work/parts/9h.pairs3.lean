/-! PAIRS: set, clear, lag -/
section
variable {I J K : II} {nm no : Nat}
theorem pr_set {k v r r2 : Int} (h : Inv nm no I)
    (q : ((k = 0 ∧ 1 ≤ v ∧ v ≤ 99) ∧ r = I 76 4 ∧ J = (upI (upI I 76 4 v) 76 2 0)) ∨ ((k = 1 ∧ 0 ≤ v ∧ v ≤ 9999) ∧ r = I 76 5 ∧ J = (upI (upI I 76 5 v) 76 2 0)) ∨ (¬ (k = 0 ∧ 1 ≤ v ∧ v ≤ 99) ∧ ¬ (k = 1 ∧ 0 ≤ v ∧ v ≤ 9999) ∧ r = -3 ∧ J = I))
    (q2 : ((k = 0 ∧ 1 ≤ v ∧ v ≤ 99) ∧ r2 = J 100 46 ∧ K = (upI J 100 46 v)) ∨ ((k = 1 ∧ 0 ≤ v ∧ v ≤ 9999) ∧ r2 = J 100 47 ∧ K = (upI J 100 47 v)) ∨ (¬ (k = 0 ∧ 1 ≤ v ∧ v ≤ 99) ∧ ¬ (k = 1 ∧ 0 ≤ v ∧ v ≤ 9999) ∧ r2 = -3 ∧ K = J)) : r = r2 ∧ Inv nm no K := by
  have hS := h.2.2.2.2.1
  obtain ⟨s1, s2, s3, s4, s5, s6, s7⟩ := hS
  rcases q with ⟨c, e, ej⟩ | ⟨c, e, ej⟩ | ⟨c, c1, e, ej⟩
  · rcases q2 with ⟨d, f, fk⟩ | ⟨d, f, fk⟩ | ⟨d, d1, f, fk⟩
    · have r0 : r = r2 := by rw [e, f, ej, upI_o (by decide), upI_o (by decide), s6]
      subst ej; subst fk
      refine ⟨r0, Inv_S h (fun x hx => by rw [upI_o (by omega), upI_o (by omega), upI_o (by omega)]) (fun j hj => by rw [upI_j (by omega), upI_o (by decide), upI_o (by decide)]) ?_⟩
      have m77 : upI (upI (upI I 76 4 v) 76 2 0) 100 46 v 77 = I 77 := by rw [upI_o (by decide), upI_o (by decide), upI_o (by decide)]
      have m129 : upI (upI (upI I 76 4 v) 76 2 0) 100 46 v 129 = I 129 := by rw [upI_o (by decide), upI_o (by decide), upI_o (by decide)]
      have m4 : upI (upI (upI I 76 4 v) 76 2 0) 100 46 v 76 4 = v := by rw [upI_o (by decide), upI_j (by decide), upI_s]
      have m5 : upI (upI (upI I 76 4 v) 76 2 0) 100 46 v 76 5 = I 76 5 := by rw [upI_o (by decide), upI_j (by decide), upI_j (by decide)]
      have m2 : upI (upI (upI I 76 4 v) 76 2 0) 100 46 v 76 2 = 0 := by rw [upI_o (by decide), upI_s]
      have m46 : upI (upI (upI I 76 4 v) 76 2 0) 100 46 v 100 46 = v := upI_s
      have m47 : upI (upI (upI I 76 4 v) 76 2 0) 100 46 v 100 47 = I 100 47 := by rw [upI_j (by decide), upI_o (by decide), upI_o (by decide)]
      unfold vS ShI ShM
      rw [m77, m129, m4, m5, m2, m46, m47]
      exact ⟨⟨s1.1, c.2, s1.2.2⟩, ⟨s2.1, c.2, s2.2.2⟩, Or.inl rfl, fun z => by omega, s5, rfl, s7⟩
    · omega
    · exact absurd c d
  · rcases q2 with ⟨d, f, fk⟩ | ⟨d, f, fk⟩ | ⟨d, d1, f, fk⟩
    · omega
    · have r0 : r = r2 := by rw [e, f, ej, upI_o (by decide), upI_o (by decide), s7]
      subst ej; subst fk
      refine ⟨r0, Inv_S h (fun x hx => by rw [upI_o (by omega), upI_o (by omega), upI_o (by omega)]) (fun j hj => by rw [upI_j (by omega), upI_o (by decide), upI_o (by decide)]) ?_⟩
      have m77 : upI (upI (upI I 76 5 v) 76 2 0) 100 47 v 77 = I 77 := by rw [upI_o (by decide), upI_o (by decide), upI_o (by decide)]
      have m129 : upI (upI (upI I 76 5 v) 76 2 0) 100 47 v 129 = I 129 := by rw [upI_o (by decide), upI_o (by decide), upI_o (by decide)]
      have m5 : upI (upI (upI I 76 5 v) 76 2 0) 100 47 v 76 5 = v := by rw [upI_o (by decide), upI_j (by decide), upI_s]
      have m4 : upI (upI (upI I 76 5 v) 76 2 0) 100 47 v 76 4 = I 76 4 := by rw [upI_o (by decide), upI_j (by decide), upI_j (by decide)]
      have m2 : upI (upI (upI I 76 5 v) 76 2 0) 100 47 v 76 2 = 0 := by rw [upI_o (by decide), upI_s]
      have m47 : upI (upI (upI I 76 5 v) 76 2 0) 100 47 v 100 47 = v := upI_s
      have m46 : upI (upI (upI I 76 5 v) 76 2 0) 100 47 v 100 46 = I 100 46 := by rw [upI_j (by decide), upI_o (by decide), upI_o (by decide)]
      unfold vS ShI ShM
      rw [m77, m129, m4, m5, m2, m46, m47]
      exact ⟨⟨s1.1, s1.2.1, c.2⟩, ⟨s2.1, s2.2.1, c.2⟩, Or.inl rfl, fun z => by omega, s5, s6, rfl⟩
    · exact absurd c d1
  · rcases q2 with ⟨d, f, fk⟩ | ⟨d, f, fk⟩ | ⟨d, d1, f, fk⟩
    · exact absurd d c
    · exact absurd d c1
    · rw [fk, ej]; exact ⟨by omega, h⟩
theorem pr_clear (h : Inv nm no I) : I 79 5 = upI (upI I 79 5 0) 79 6 0 100 48 ∧ Inv nm no (upI (upI (upI I 79 5 0) 79 6 0) 100 48 0) := by
  obtain ⟨n, b1, b2, b3, b4, b5, b6, b7⟩ := h.2.2.2.2.2
  refine ⟨by rw [upI_o (by decide), upI_o (by decide), b1.1, b2.1], Inv_D h (fun x hx => by rw [upI_o (by omega), upI_o (by omega), upI_o (by omega)]) (fun j hj => by rw [upI_j (by omega), upI_o (by decide), upI_o (by decide)]) ⟨0, ⟨?_, by decide, fun j hj => by omega, fun j hj => by omega, fun j hj => by omega⟩, ⟨?_, by decide, fun j hj => by omega, fun j hj => by omega, fun j hj => by omega⟩, Or.inl ?_, fun z => ?_, ?_, ?_, ?_⟩⟩
  · rw [upI_o (by decide), upI_j (by decide), upI_s]; rfl
  · rw [upI_s]; rfl
  · rw [upI_o (by decide), upI_s]
  · rw [upI_o (by decide), upI_s] at z; omega
  · rw [upI_o (by decide), upI_o (by decide), upI_o (by decide), upI_o (by decide), upI_o (by decide), upI_o (by decide)]; exact b5
  · rw [upI_o (by decide), upI_o (by decide), upI_o (by decide), upI_o (by decide), upI_o (by decide), upI_o (by decide)]; exact b6
  · rw [upI_o (by decide), upI_o (by decide), upI_o (by decide), upI_o (by decide), upI_o (by decide), upI_o (by decide)]; exact b7
end
