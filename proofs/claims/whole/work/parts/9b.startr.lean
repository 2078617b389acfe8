/-! THE START: references -/
theorem RS_a : ∀ j : Fin 56, RS 100 ((j.val : Nat) : Int) = RX 0 0 100 ((j.val : Nat) : Int) := by decide +kernel
theorem RS_b0 : ∀ x : Fin 45, ∀ j : Fin 16, RS x.val ((j.val : Nat) : Int) = RX 0 0 x.val ((j.val : Nat) : Int) := by decide +kernel
theorem RS_b1 : ∀ x : Fin 45, ∀ j : Fin 16, RS (45 + x.val) ((j.val : Nat) : Int) = RX 0 0 (45 + x.val) ((j.val : Nat) : Int) := by decide +kernel
theorem RS_b2 : ∀ x : Fin 45, x.val ≠ 10 → ∀ j : Fin 16, RS (90 + x.val) ((j.val : Nat) : Int) = RX 0 0 (90 + x.val) ((j.val : Nat) : Int) := by decide +kernel
theorem RS_c : ∀ j : Fin 16, RS 300 ((j.val : Nat) : Int) = RX 0 0 300 ((j.val : Nat) : Int) := by decide +kernel
section
variable {x : Nat} {j : Int} {R : RR}
theorem nN_ {o : Nat} (h : R x j = none) : nwR R o x j = none := by unfold nwR; split; rfl; exact h
theorem nU_ {o : Nat} {k : Int} {v : Option Nat} (hk : x ≠ o ∨ j ≠ k) (h : R x j = none) : upR R o k v x j = none := by
  unfold upR; rw [if_neg (fun z => by omega)]; exact h
theorem nG_ {o : Nat} (hk : x < o ∨ o + 8 < x ∨ j < 0 ∨ 8 ≤ j) (h : R x j = none) : grR R o x j = none := by
  unfold grR
  split
  · rw [if_neg (by omega)]
  · exact h
end
theorem RS_none {x : Nat} {j : Int} (h : j < 0 ∨ 56 ≤ j ∨ (135 ≤ x ∧ x ≠ 300) ∨ (x ≠ 100 ∧ 16 ≤ j)) : RS x j = none := by
  unfold RS r12 r11 r1 r7 r9 r0 r10 r6 r2 r4 r5a r5b r8a r8b nOr
  repeat (first | exact (show RE x j = none from rfl) | refine nN_ ?_ | refine nU_ (by omega) ?_ | refine nG_ (by omega) ?_)
theorem RX_none {x : Nat} {j : Int} (h : j < 0 ∨ 56 ≤ j ∨ (135 ≤ x ∧ x ≠ 300) ∨ (x ≠ 100 ∧ 16 ≤ j)) : RX 0 0 x j = none := by
  unfold RX
  by_cases jn : j < 0
  · rw [if_pos jn]
  · rw [if_neg jn]
    by_cases h1 : x = 44
    · rw [if_pos h1, if_neg (by omega)]
    rw [if_neg h1]
    by_cases h2 : x = 45
    · rw [if_pos h2, if_neg (by omega)]
    rw [if_neg h2]
    by_cases h3 : x = 42
    · rw [if_pos h3, if_neg (by omega)]
    rw [if_neg h3, if_neg (by omega)]
    by_cases h4 : 300 ≤ x ∧ x ≤ 300 + 0
    · rw [if_pos h4, if_neg (by omega)]
    rw [if_neg h4]
    by_cases h5 : x < 135
    · rw [if_pos h5]
      have key : ∀ e ∈ rT, e.2.1 < 56 ∧ (e.1 ≠ 100 → e.2.1 < 16) := by decide +kernel
      unfold rS
      have : rT.find? (fun e => e.1 == x && e.2.1 == j.toNat) = none := by
        rw [List.find?_eq_none]
        intro e he
        have := key e he
        simp only [Bool.and_eq_true, beq_iff_eq, not_and]
        intro y z
        omega
      rw [this]; rfl
    · rw [if_neg h5]
theorem RS_eq : RS = RX 0 0 := by
  funext x j
  by_cases h : j < 0 ∨ 56 ≤ j ∨ (135 ≤ x ∧ x ≠ 300) ∨ (x ≠ 100 ∧ 16 ≤ j)
  · rw [RS_none h, RX_none h]
  · have e : ((j.toNat : Nat) : Int) = j := by omega
    by_cases h1 : x = 100
    · have z := RS_a ⟨j.toNat, by omega⟩
      rw [show ((⟨j.toNat, by omega⟩ : Fin 56).val : Int) = j from e] at z
      rw [h1]; exact z
    by_cases h2 : x = 300
    · have z := RS_c ⟨j.toNat, by omega⟩
      rw [show ((⟨j.toNat, by omega⟩ : Fin 16).val : Int) = j from e] at z
      rw [h2]; exact z
    by_cases h3 : x < 45
    · have z := RS_b0 ⟨x, h3⟩ ⟨j.toNat, by omega⟩
      rw [show ((⟨j.toNat, by omega⟩ : Fin 16).val : Int) = j from e] at z
      exact z
    by_cases h4 : x < 90
    · have z := RS_b1 ⟨x - 45, by omega⟩ ⟨j.toNat, by omega⟩
      rw [show ((⟨j.toNat, by omega⟩ : Fin 16).val : Int) = j from e] at z
      have ex : 45 + (x - 45) = x := by omega
      rw [show 45 + (⟨x - 45, by omega⟩ : Fin 45).val = x from ex] at z
      exact z
    · have z := RS_b2 ⟨x - 90, by omega⟩ (show x - 90 ≠ 10 by omega) ⟨j.toNat, by omega⟩
      rw [show ((⟨j.toNat, by omega⟩ : Fin 16).val : Int) = j from e] at z
      have ex : 90 + (x - 90) = x := by omega
      rw [show 90 + (⟨x - 90, by omega⟩ : Fin 45).val = x from ex] at z
      exact z
