/-! PAIRS: door, lag -/
section
variable {I J K : II} {nm no : Nat}
theorem pr_door {x y u r r2 : Int} (h : Inv nm no I)
    (q : (¬ ((0 ≤ x ∧ x ≤ 20) ∧ (0 ≤ y ∧ y ≤ 20) ∧ (0 ≤ u ∧ u ≤ 200)) ∧ r = -3 ∧ J = I) ∨ (((0 ≤ x ∧ x ≤ 20) ∧ (0 ≤ y ∧ y ≤ 20) ∧ (0 ≤ u ∧ u ≤ 200)) ∧ I 79 5 = 6 ∧ r = -5 ∧ J = I) ∨ (((0 ≤ x ∧ x ≤ 20) ∧ (0 ≤ y ∧ y ≤ 20) ∧ (0 ≤ u ∧ u ≤ 200)) ∧ I 79 5 < 6 ∧ r = I 79 5 ∧ J = (upI (upI (upI (upI (upI I 80 (I 79 5) x) 81 (I 79 5) y) 82 (I 79 5) u) 79 5 (I 79 5 + 1)) 79 6 0)))
    (q2 : (¬ ((0 ≤ x ∧ x ≤ 20) ∧ (0 ≤ y ∧ y ≤ 20) ∧ (0 ≤ u ∧ u ≤ 200)) ∧ r2 = -3 ∧ K = J) ∨ (((0 ≤ x ∧ x ≤ 20) ∧ (0 ≤ y ∧ y ≤ 20) ∧ (0 ≤ u ∧ u ≤ 200)) ∧ J 100 48 = 6 ∧ r2 = -5 ∧ K = J) ∨ (((0 ≤ x ∧ x ≤ 20) ∧ (0 ≤ y ∧ y ≤ 20) ∧ (0 ≤ u ∧ u ≤ 200)) ∧ J 100 48 < 6 ∧ r2 = J 100 48 ∧ K = (upI (upI (upI (upI J 130 (J 100 48) x) 131 (J 100 48) y) 132 (J 100 48) u) 100 48 (J 100 48 + 1)))) : r = r2 ∧ Inv nm no K := by
  obtain ⟨n, b1, b2, b3, b4, b5, b6, b7⟩ := h.2.2.2.2.2
  have e1 := b1.1
  have e2 := b2.1
  rcases q with ⟨c, e, ej⟩ | ⟨c, c1, e, ej⟩ | ⟨c, c1, e, ej⟩
  · subst ej
    rcases q2 with ⟨d, f, fk⟩ | ⟨d, d1, f, fk⟩ | ⟨d, d1, f, fk⟩
    · rw [fk]; exact ⟨by omega, h⟩
    · exact absurd d c
    · exact absurd d c
  · subst ej
    rcases q2 with ⟨d, f, fk⟩ | ⟨d, d1, f, fk⟩ | ⟨d, d1, f, fk⟩
    · exact absurd c d
    · rw [fk]; exact ⟨by omega, h⟩
    · omega
  · have j48 : J 100 48 = n := by rw [ej, upI_o (by decide), upI_o (by decide), upI_o (by decide), upI_o (by decide), upI_o (by decide)]; exact e2
    rw [j48] at q2
    rw [e1] at ej c1 e
    rcases q2 with ⟨d, f, fk⟩ | ⟨d, d1, f, fk⟩ | ⟨d, d1, f, fk⟩
    · exact absurd c d
    · omega
    · have jo : ∀ z : Nat, (z < 79 ∨ 82 < z) → J z = I z := fun z hz => by rw [ej, upI_o (by omega), upI_o (by omega), upI_o (by omega), upI_o (by omega), upI_o (by omega)]
      have j80 : J 80 = upF (I 80) n x := by
        rw [ej, upI_o (by decide), upI_o (by decide), upI_o (by decide), upI_o (by decide)]
        funext j; unfold upI upF; by_cases z : j = (n : Int)
        · rw [if_pos ⟨rfl, z⟩, if_pos z]
        · rw [if_neg (fun w => z w.2), if_neg z]
      have j81 : J 81 = upF (I 81) n y := by
        rw [ej, upI_o (by decide), upI_o (by decide), upI_o (by decide)]
        funext j; unfold upI upF; by_cases z : j = (n : Int)
        · rw [if_pos ⟨rfl, z⟩, if_pos z]
        · rw [if_neg (fun w => z w.2), if_neg z]; rfl
      have j82 : J 82 = upF (I 82) n u := by
        rw [ej, upI_o (by decide), upI_o (by decide)]
        funext j; unfold upI upF; by_cases z : j = (n : Int)
        · rw [if_pos ⟨rfl, z⟩, if_pos z]
        · rw [if_neg (fun w => z w.2), if_neg z]; rfl
      have j5 : J 79 5 = (n : Int) + 1 := by rw [ej, upI_j (by decide), upI_s]
      have j6 : J 79 6 = 0 := by rw [ej, upI_s]
      have ko : ∀ z : Nat, z ≠ 100 → z ≠ 130 → z ≠ 131 → z ≠ 132 → K z = J z := fun z a1 a2 a3 a4 => by rw [fk, upI_o a1, upI_o a4, upI_o a3, upI_o a2]
      have k130 : K 130 = upF (I 80) n x := by
        rw [fk, upI_o (by decide), upI_o (by decide), upI_o (by decide), ← b5, ← jo 130 (by decide)]
        funext j; unfold upI upF; by_cases z : j = (n : Int)
        · rw [if_pos ⟨rfl, z⟩, if_pos z]
        · rw [if_neg (fun w => z w.2), if_neg z]
      have k131 : K 131 = upF (I 81) n y := by
        rw [fk, upI_o (by decide), upI_o (by decide), ← b6, ← jo 131 (by decide)]
        funext j; unfold upI upF; by_cases z : j = (n : Int)
        · rw [if_pos ⟨rfl, z⟩, if_pos z]
        · rw [if_neg (fun w => z w.2), if_neg z]; rfl
      have k132 : K 132 = upF (I 82) n u := by
        rw [fk, upI_o (by decide), ← b7, ← jo 132 (by decide)]
        funext j; unfold upI upF; by_cases z : j = (n : Int)
        · rw [if_pos ⟨rfl, z⟩, if_pos z]
        · rw [if_neg (fun w => z w.2), if_neg z]; rfl
      have k48 : K 100 48 = (n : Int) + 1 := by rw [fk, upI_s]
      have rg : ∀ (f : Int → Int) (v M : Int), (0 ≤ v ∧ v ≤ M) → (∀ j : Nat, j < n → 0 ≤ f j ∧ f j ≤ M) → ∀ j : Nat, j < n + 1 → 0 ≤ upF f n v j ∧ upF f n v j ≤ M := fun f v M hv hf j hj => by
        rcases (show j < n ∨ j = n by omega) with z | z
        · rw [upF_n (by omega)]; exact hf j z
        · rw [z, upF_s]; exact hv
      refine ⟨by omega, Inv_D h (fun z hz => by rw [ko z (by omega) (by omega) (by omega) (by omega)]; exact jo z (by omega)) (fun j hj => by rw [fk, upI_j (by omega), upI_o (by decide), upI_o (by decide), upI_o (by decide)]; exact congrFun (jo 100 (by decide)) j) ⟨n + 1, ⟨?_, by omega, ?_, ?_, ?_⟩, ⟨?_, by omega, ?_, ?_, ?_⟩, Or.inl ?_, fun z => ?_, ?_, ?_, ?_⟩⟩
      · rw [ko 79 (by decide) (by decide) (by decide) (by decide), j5]; rfl
      · rw [ko 80 (by decide) (by decide) (by decide) (by decide), j80]; exact rg _ _ _ c.1 b1.2.2.1
      · rw [ko 81 (by decide) (by decide) (by decide) (by decide), j81]; exact rg _ _ _ c.2.1 b1.2.2.2.1
      · rw [ko 82 (by decide) (by decide) (by decide) (by decide), j82]; exact rg _ _ _ c.2.2 b1.2.2.2.2
      · rw [k48]; rfl
      · rw [k130]; exact rg _ _ _ c.1 b1.2.2.1
      · rw [k131]; exact rg _ _ _ c.2.1 b1.2.2.2.1
      · rw [k132]; exact rg _ _ _ c.2.2 b1.2.2.2.2
      · rw [ko 79 (by decide) (by decide) (by decide) (by decide), j6]
      · rw [ko 79 (by decide) (by decide) (by decide) (by decide), j6] at z; omega
      · rw [k130, ko 80 (by decide) (by decide) (by decide) (by decide), j80]
      · rw [k131, ko 81 (by decide) (by decide) (by decide) (by decide), j81]
      · rw [k132, ko 82 (by decide) (by decide) (by decide) (by decide), j82]
end
