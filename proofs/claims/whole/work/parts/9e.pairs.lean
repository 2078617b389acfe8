/-! PAIRS: the class's answer is the reference's, and Inv is kept -/
section
variable {I : II} {nm no : Nat}
theorem fA_100 {x : Nat} (h : fA nm no x) (hm : nm ≤ 24) : x ≠ 100 ∧ (x < 44 ∨ 101 ≤ x) ∧ (x < 111 ∨ 115 ≤ x) ∧ (x < 118 ∨ 200 ≤ x) := by unfold fA at h; omega
theorem pr_erase (h : Inv nm no I) : I 46 1 = upI I 46 1 0 100 18 ∧ Inv nm no (upI (upI I 46 1 0) 100 18 0) := by
  obtain ⟨hA, hT, hB, hP, hS, hD⟩ := h
  have hm := hA.1.2.1
  have o : ∀ x, x ≠ 46 → x ≠ 100 → upI (upI I 46 1 0) 100 18 0 x = I x := fun x a b => by rw [upI_o b, upI_o a]
  have q : ∀ j : Int, j ≠ 18 → upI (upI I 46 1 0) 100 18 0 100 j = I 100 j := fun j a => by rw [upI_j a, upI_o (by decide)]
  refine ⟨?_, vA_fr hA (fun x hx => ?_) (q 0 (by decide)) (q 3 (by decide)) (q 8 (by decide)) (q 10 (by decide)) (q 12 (by decide)) (q 13 (by decide)) (q 26 (by decide)) (q 27 (by decide)), ?_, vB_fr hB (o 49 (by decide) (by decide)) (o 50 (by decide) (by decide)) (o 118 (by decide) (by decide)) (o 119 (by decide) (by decide)) (o 125 (by decide) (by decide)), vP_fr hP (by rw [o 55 (by decide) (by decide)]) (o 56 (by decide) (by decide)) (fun r _ => o _ (by omega) (by omega)) (fun r _ => o _ (by omega) (by omega)) (q 41 (by decide)) (o 126 (by decide) (by decide)) (o 127 (by decide) (by decide)) (o 128 (by decide) (by decide)), vS_fr hS (o 76 (by decide) (by decide)) (o 77 (by decide) (by decide)) (o 78 (by decide) (by decide)) (o 129 (by decide) (by decide)) (q 46 (by decide)) (q 47 (by decide)), vD_fr hD (o 79 (by decide) (by decide)) (o 80 (by decide) (by decide)) (o 81 (by decide) (by decide)) (o 82 (by decide) (by decide)) (o 84 (by decide) (by decide)) (q 48 (by decide)) (o 130 (by decide) (by decide)) (o 131 (by decide) (by decide)) (o 132 (by decide) (by decide))⟩
  · rw [upI_o (by decide)]; exact hT.2.1.symm
  · have z := fA_100 hx hm; exact o x (by omega) z.1
  · obtain ⟨t1, t2, t3⟩ := hT
    refine ⟨⟨?_, ?_⟩, ?_, ?_⟩
    · rw [upI_o (by decide), upI_s]; decide
    · rw [o 47 (by decide) (by decide)]; exact t1.2
    · rw [upI_s, upI_o (by decide), upI_s]
    · rw [o 113 (by decide) (by decide), o 47 (by decide) (by decide)]; exact t3
end
