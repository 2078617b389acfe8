/-! PAIRS: Inv, where only one group has changed -/
section
variable {I J : II} {nm no nm2 no2 : Nat}
theorem Inv_S (h : Inv nm no I) (o : ∀ x : Nat, ((x < 76 ∨ 78 < x) ∧ x ≠ 100 ∧ x ≠ 129) → J x = I x) (q : ∀ j : Int, (j ≠ 46 ∧ j ≠ 47) → J 100 j = I 100 j) (hn : vS J) : Inv nm no J := by
  obtain ⟨hA, hT, hB, hP, hS, hD⟩ := h
  have hno := hA.1.2.2.2.2.2.1.2.1
  have hm := hA.1.2.1
  exact ⟨vA_fr hA (fun x hx => o x (by have z := fA_100 hx hA.1.2.1; have y := hx; unfold fA at y; omega)) (q 0 (by decide)) (q 3 (by decide)) (q 8 (by decide)) (q 10 (by decide)) (q 12 (by decide)) (q 13 (by decide)) (q 26 (by decide)) (q 27 (by decide)), vT_fr hT (by rw [o 46 (by omega)]) (o 47 (by omega)) (q 18 (by decide)) (o 113 (by omega)), vB_fr hB (o 49 (by omega)) (o 50 (by omega)) (o 118 (by omega)) (o 119 (by omega)) (o 125 (by omega)), vP_fr hP (by rw [o 55 (by omega)]) (o 56 (by omega)) (fun r _ => o _ (by omega)) (fun r _ => o _ (by omega)) (q 41 (by decide)) (o 126 (by omega)) (o 127 (by omega)) (o 128 (by omega)), hn, vD_fr hD (o 79 (by omega)) (o 80 (by omega)) (o 81 (by omega)) (o 82 (by omega)) (o 84 (by omega)) (q 48 (by decide)) (o 130 (by omega)) (o 131 (by omega)) (o 132 (by omega))⟩
theorem Inv_D (h : Inv nm no I) (o : ∀ x : Nat, ((x < 79 ∨ 84 < x) ∧ x ≠ 100 ∧ (x < 130 ∨ 134 < x)) → J x = I x) (q : ∀ j : Int, (j < 48) → J 100 j = I 100 j) (hn : vD J) : Inv nm no J := by
  obtain ⟨hA, hT, hB, hP, hS, hD⟩ := h
  have hno := hA.1.2.2.2.2.2.1.2.1
  have hm := hA.1.2.1
  exact ⟨vA_fr hA (fun x hx => o x (by have z := fA_100 hx hA.1.2.1; have y := hx; unfold fA at y; omega)) (q 0 (by decide)) (q 3 (by decide)) (q 8 (by decide)) (q 10 (by decide)) (q 12 (by decide)) (q 13 (by decide)) (q 26 (by decide)) (q 27 (by decide)), vT_fr hT (by rw [o 46 (by omega)]) (o 47 (by omega)) (q 18 (by decide)) (o 113 (by omega)), vB_fr hB (o 49 (by omega)) (o 50 (by omega)) (o 118 (by omega)) (o 119 (by omega)) (o 125 (by omega)), vP_fr hP (by rw [o 55 (by omega)]) (o 56 (by omega)) (fun r _ => o _ (by omega)) (fun r _ => o _ (by omega)) (q 41 (by decide)) (o 126 (by omega)) (o 127 (by omega)) (o 128 (by omega)), vS_fr hS (o 76 (by omega)) (o 77 (by omega)) (o 78 (by omega)) (o 129 (by omega)) (q 46 (by decide)) (q 47 (by decide)), hn⟩
theorem Inv_P (h : Inv nm no I) (o : ∀ x : Nat, ((x < 55 ∨ 75 < x) ∧ x ≠ 100 ∧ (x < 126 ∨ 128 < x)) → J x = I x) (q : ∀ j : Int, (j ≠ 41) → J 100 j = I 100 j) (hn : vP J) : Inv nm no J := by
  obtain ⟨hA, hT, hB, hP, hS, hD⟩ := h
  have hno := hA.1.2.2.2.2.2.1.2.1
  have hm := hA.1.2.1
  exact ⟨vA_fr hA (fun x hx => o x (by have z := fA_100 hx hA.1.2.1; have y := hx; unfold fA at y; omega)) (q 0 (by decide)) (q 3 (by decide)) (q 8 (by decide)) (q 10 (by decide)) (q 12 (by decide)) (q 13 (by decide)) (q 26 (by decide)) (q 27 (by decide)), vT_fr hT (by rw [o 46 (by omega)]) (o 47 (by omega)) (q 18 (by decide)) (o 113 (by omega)), vB_fr hB (o 49 (by omega)) (o 50 (by omega)) (o 118 (by omega)) (o 119 (by omega)) (o 125 (by omega)), hn, vS_fr hS (o 76 (by omega)) (o 77 (by omega)) (o 78 (by omega)) (o 129 (by omega)) (q 46 (by decide)) (q 47 (by decide)), vD_fr hD (o 79 (by omega)) (o 80 (by omega)) (o 81 (by omega)) (o 82 (by omega)) (o 84 (by omega)) (q 48 (by decide)) (o 130 (by omega)) (o 131 (by omega)) (o 132 (by omega))⟩
theorem Inv_B (h : Inv nm no I) (o : ∀ x : Nat, ((x < 48 ∨ 54 < x) ∧ x ≠ 100 ∧ (x < 118 ∨ 125 < x)) → J x = I x) (q : ∀ j : Int, (True) → J 100 j = I 100 j) (hn : vB J) : Inv nm no J := by
  obtain ⟨hA, hT, hB, hP, hS, hD⟩ := h
  have hno := hA.1.2.2.2.2.2.1.2.1
  have hm := hA.1.2.1
  exact ⟨vA_fr hA (fun x hx => o x (by have z := fA_100 hx hA.1.2.1; have y := hx; unfold fA at y; omega)) (q 0 (by decide)) (q 3 (by decide)) (q 8 (by decide)) (q 10 (by decide)) (q 12 (by decide)) (q 13 (by decide)) (q 26 (by decide)) (q 27 (by decide)), vT_fr hT (by rw [o 46 (by omega)]) (o 47 (by omega)) (q 18 (by decide)) (o 113 (by omega)), hn, vP_fr hP (by rw [o 55 (by omega)]) (o 56 (by omega)) (fun r _ => o _ (by omega)) (fun r _ => o _ (by omega)) (q 41 (by decide)) (o 126 (by omega)) (o 127 (by omega)) (o 128 (by omega)), vS_fr hS (o 76 (by omega)) (o 77 (by omega)) (o 78 (by omega)) (o 129 (by omega)) (q 46 (by decide)) (q 47 (by decide)), vD_fr hD (o 79 (by omega)) (o 80 (by omega)) (o 81 (by omega)) (o 82 (by omega)) (o 84 (by omega)) (q 48 (by decide)) (o 130 (by omega)) (o 131 (by omega)) (o 132 (by omega))⟩
theorem Inv_T (h : Inv nm no I) (o : ∀ x : Nat, (x ≠ 46 ∧ x ≠ 47 ∧ x ≠ 100 ∧ x ≠ 113 ∧ x ≠ 114 ∧ x ≠ 300 + no ∧ x ≠ 310 + no ∧ x ≠ 320 + no ∧ x ≠ 330 + no) → J x = I x) (q : ∀ j : Int, (j < 18 ∨ j = 26 ∨ j = 27 ∨ 28 < j) → J 100 j = I 100 j) (hn : vT J) : Inv nm no J := by
  obtain ⟨hA, hT, hB, hP, hS, hD⟩ := h
  have hno := hA.1.2.2.2.2.2.1.2.1
  have hm := hA.1.2.1
  exact ⟨vA_fr hA (fun x hx => o x (by have z := fA_100 hx hA.1.2.1; have y := hx; unfold fA at y; omega)) (q 0 (by decide)) (q 3 (by decide)) (q 8 (by decide)) (q 10 (by decide)) (q 12 (by decide)) (q 13 (by decide)) (q 26 (by decide)) (q 27 (by decide)), hn, vB_fr hB (o 49 (by omega)) (o 50 (by omega)) (o 118 (by omega)) (o 119 (by omega)) (o 125 (by omega)), vP_fr hP (by rw [o 55 (by omega)]) (o 56 (by omega)) (fun r _ => o _ (by omega)) (fun r _ => o _ (by omega)) (q 41 (by decide)) (o 126 (by omega)) (o 127 (by omega)) (o 128 (by omega)), vS_fr hS (o 76 (by omega)) (o 77 (by omega)) (o 78 (by omega)) (o 129 (by omega)) (q 46 (by decide)) (q 47 (by decide)), vD_fr hD (o 79 (by omega)) (o 80 (by omega)) (o 81 (by omega)) (o 82 (by omega)) (o 84 (by omega)) (q 48 (by decide)) (o 130 (by omega)) (o 131 (by omega)) (o 132 (by omega))⟩
theorem Inv_A (h : Inv nm no I) (o : ∀ x : Nat, ((46 ≤ x ∧ x ≤ 84) ∨ x = 113 ∨ (118 ≤ x ∧ x ≤ 134)) → J x = I x) (q : ∀ j : Int, (j = 18 ∨ 28 < j) → J 100 j = I 100 j) (hn : vA J nm2 no2) : Inv nm2 no2 J := by
  obtain ⟨hA, hT, hB, hP, hS, hD⟩ := h
  have hno := hA.1.2.2.2.2.2.1.2.1
  have hm := hA.1.2.1
  exact ⟨hn, vT_fr hT (by rw [o 46 (by omega)]) (o 47 (by omega)) (q 18 (by decide)) (o 113 (by omega)), vB_fr hB (o 49 (by omega)) (o 50 (by omega)) (o 118 (by omega)) (o 119 (by omega)) (o 125 (by omega)), vP_fr hP (by rw [o 55 (by omega)]) (o 56 (by omega)) (fun r _ => o _ (by omega)) (fun r _ => o _ (by omega)) (q 41 (by decide)) (o 126 (by omega)) (o 127 (by omega)) (o 128 (by omega)), vS_fr hS (o 76 (by omega)) (o 77 (by omega)) (o 78 (by omega)) (o 129 (by omega)) (q 46 (by decide)) (q 47 (by decide)), vD_fr hD (o 79 (by omega)) (o 80 (by omega)) (o 81 (by omega)) (o 82 (by omega)) (o 84 (by omega)) (q 48 (by decide)) (o 130 (by omega)) (o 131 (by omega)) (o 132 (by omega))⟩
end
