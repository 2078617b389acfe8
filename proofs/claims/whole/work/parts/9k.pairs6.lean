/-! PAIRS: at -/
section
variable {I : II} {nm no : Nat}
theorem pr_at {m k : Int} (h : Inv nm no I) : aAt m nm k (vX I m.toNat 0) (vX I m.toNat 1) (vX I m.toNat 2) (vX I m.toNat 4) (vX I m.toNat 5) (I (200 + m.toNat) 3) (I (200 + m.toNat) 4) = aAt m (I 100 13) k (I 110 (6 * m)) (I 110 (6 * m + 1)) (I 110 (6 * m + 2)) (I 110 (6 * m + 4)) (I 110 (6 * m + 5)) (I 109 (6 * m + 5)) (I 109 (6 * m + 4)) := by
  have hM := h.1.2.2.2.1
  have hD := h.1.2.2.2.2.1
  rw [hM.1]
  by_cases hm : 0 ≤ m ∧ m ≤ nm - 1
  · obtain ⟨i, rfl⟩ : ∃ i : Nat, m = i := ⟨m.toNat, by omega⟩
    rw [Int.toNat_natCast]
    obtain ⟨e0, e1, e2, e3, e4, e5⟩ := stM_at (hD i (by omega))
    have z := hM.2 i (by omega)
    rw [e0, e1, e2, e4, e5, z.2.2.2.1, z.2.2.2.2]
  · unfold aAt; rw [if_neg hm, if_neg hm]
end
