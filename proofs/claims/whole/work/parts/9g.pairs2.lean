/-! PAIRS: load, set -/
section
variable {I J K : II} {nm no : Nat}
theorem pr_load {a b v r r2 : Int} (h : Inv nm no I)
    (q : (¬ (0 ≤ a ∧ a ≤ 2) ∧ r = -2 ∧ J = I) ∨ ((0 ≤ a ∧ a ≤ 2) ∧ ¬ ((0 ≤ b ∧ b ≤ 23) ∧ (0 ≤ v ∧ v ≤ 999)) ∧ r = -3 ∧ J = I) ∨ ((0 ≤ a ∧ a ≤ 2) ∧ (0 ≤ b ∧ b ≤ 23) ∧ (0 ≤ v ∧ v ≤ 999) ∧ r = I 77 (a * 24 + b) ∧ J = (upI (upI I 77 (a * 24 + b) v) 76 2 0)))
    (q2 : (¬ (0 ≤ a ∧ a ≤ 2) ∧ r2 = -2 ∧ K = J) ∨ ((0 ≤ a ∧ a ≤ 2) ∧ ¬ ((0 ≤ b ∧ b ≤ 23) ∧ (0 ≤ v ∧ v ≤ 999)) ∧ r2 = -3 ∧ K = J) ∨ ((0 ≤ a ∧ a ≤ 2) ∧ (0 ≤ b ∧ b ≤ 23) ∧ (0 ≤ v ∧ v ≤ 999) ∧ r2 = J 129 (24 * a + b) ∧ K = (upI J 129 (24 * a + b) v))) : r = r2 ∧ Inv nm no K := by
  rcases q with ⟨c, e, ej⟩ | ⟨c, c1, e, ej⟩ | ⟨c, c1, c2, e, ej⟩
  · rcases q2 with ⟨d, f, fk⟩ | ⟨d, d1, f, fk⟩ | ⟨d, d1, d2, f, fk⟩
    · rw [fk, ej]; exact ⟨by omega, h⟩
    · exact absurd d c
    · exact absurd d c
  · rcases q2 with ⟨d, f, fk⟩ | ⟨d, d1, f, fk⟩ | ⟨d, d1, d2, f, fk⟩
    · exact absurd c d
    · rw [fk, ej]; exact ⟨by omega, h⟩
    · exact absurd ⟨d1, d2⟩ c1
  · rcases q2 with ⟨d, f, fk⟩ | ⟨d, d1, f, fk⟩ | ⟨d, d1, d2, f, fk⟩
    · exact absurd c d
    · exact absurd ⟨c1, c2⟩ d1
    · have hS := h.2.2.2.2.1
      obtain ⟨s1, s2, s3, s4, s5, s6, s7⟩ := hS
      have ei : a * 24 + b = 24 * a + b := by omega
      have r0 : r = r2 := by rw [e, f, ej, upI_o (by decide), upI_o (by decide), s5, ei]
      subst ej; subst fk
      have k77 : ∀ j : Int, upI (upI (upI I 77 (a * 24 + b) v) 76 2 0) 129 (24 * a + b) v 77 j = if j = a * 24 + b then v else I 77 j := fun j => by
        rw [upI_o (by decide), upI_o (by decide)]
        by_cases z : j = a * 24 + b
        · rw [z, upI_s, if_pos rfl]
        · rw [upI_j z, if_neg z]
      have k129 : ∀ j : Int, upI (upI (upI I 77 (a * 24 + b) v) 76 2 0) 129 (24 * a + b) v 129 j = if j = a * 24 + b then v else I 77 j := fun j => by
        by_cases z : j = a * 24 + b
        · rw [z, ei, upI_s, if_pos rfl]
        · rw [upI_j (by omega), upI_o (by decide), upI_o (by decide), if_neg z, s5]
      have k76 : ∀ j : Int, j ≠ 2 → upI (upI (upI I 77 (a * 24 + b) v) 76 2 0) 129 (24 * a + b) v 76 j = I 76 j := fun j z => by rw [upI_o (by decide), upI_j z, upI_o (by decide)]
      have k2 : upI (upI (upI I 77 (a * 24 + b) v) 76 2 0) 129 (24 * a + b) v 76 2 = 0 := by rw [upI_o (by decide), upI_s]
      have k100 : upI (upI (upI I 77 (a * 24 + b) v) 76 2 0) 129 (24 * a + b) v 100 = I 100 := by rw [upI_o (by decide), upI_o (by decide), upI_o (by decide)]
      refine ⟨r0, Inv_S h (fun x hx => ?_) (fun j _ => by rw [k100]) ⟨⟨fun j j0 j1 => ?_, ?_, ?_⟩, ⟨fun j j0 j1 => ?_, ?_, ?_⟩, Or.inl k2, fun z => by rw [k2] at z; omega, ?_, ?_, ?_⟩⟩
      · rw [upI_o (by omega), upI_o (by omega), upI_o (by omega)]
      · rw [k77]; split
        · exact c2
        · exact s1.1 j j0 j1
      · rw [k76 4 (by decide)]; exact s1.2.1
      · rw [k76 5 (by decide)]; exact s1.2.2
      · rw [k129]; split
        · exact c2
        · exact s1.1 j j0 j1
      · rw [k100]; exact s2.2.1
      · rw [k100]; exact s2.2.2
      · funext j; rw [k129, k77]
      · rw [k100, k76 4 (by decide)]; exact s6
      · rw [k100, k76 5 (by decide)]; exact s7
end
