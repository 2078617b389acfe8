/-! THE START: what the two constructors make out of nothing -/
def shE : SH := fun k => if k < 16 then shT.getD k (0, 0) else if 1000 ≤ k ∧ k < 1013 then (33, 0) else (0, 0)
def RE : RR := fun _ _ => none
def IE : II := fun _ _ => 0
abbrev shS : SH := s12 (nwS (s11 (nwS shE 20 (11 + 1) 0)) 100 (12 + 1) 0)
abbrev RS : RR := r12 (nwR (r11 (nwR RE 20)) 100)
abbrev IS (g : GH) : II := i12 (nwI (i11 g (nwI IE 20)) 100)
theorem shS_lo : ∀ k : Fin 1013, shS k.val = shX 0 0 k.val := by decide +kernel
theorem shS_hi : ∀ k : Nat, 1013 ≤ k → shS k = shX 0 0 k := by
  intro k hk
  have e : ∀ (sh : SH) (o t n : Nat), o < 1013 → nwS sh o t n k = sh k := fun sh o t n ho => if_neg (by omega)
  have eg : ∀ (sh : SH) (o : Nat), o + 8 < 1013 → grS sh o k = sh k := fun sh o ho => if_neg (by omega)
  have x1 : shX 0 0 k = (0, 0) := by
    unfold shX
    rw [if_neg (by omega), if_neg (by omega), if_neg (by omega), if_neg (by omega), if_neg (by omega), if_neg (by omega), if_neg (by omega), if_neg (by omega)]
  rw [x1]
  simp (discharger := decide) only [shS, s12, s11, s1, s7, s9, s0, s10, s6, s2, s4, s5a, s5b, s8a, s8b, nOs, e, eg]
  unfold shE
  rw [if_neg (by omega), if_neg (by omega)]
theorem shS_eq : shS = shX 0 0 := by
  funext k
  by_cases h : k < 1013
  · exact shS_lo ⟨k, h⟩
  · exact shS_hi k (by omega)
