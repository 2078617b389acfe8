/-! BOTH SIDES: what holds between the class's memory and the reference's -/
def vT (I : II) : Prop := TxI I ∧ I 100 18 = I 46 1 ∧ I 113 = I 47
def vB (I : II) : Prop := BkI I ∧ BkM I ∧ (∀ i : Int, 0 ≤ i → i < 16 → I 118 i = I 50 i) ∧ ∀ i : Int, 0 ≤ i → i < 16 → ∀ k : Nat, (k : Int) < I 50 i → I 119 (8 * i + k) = byF (I 49 i) k
def vP (I : II) : Prop := TapI I ∧ TpM I ∧ I 100 41 = I 55 4 ∧ (∀ r : Nat, r < 8 → I 126 r = I 56 r) ∧ (∀ r : Nat, r < 8 → ∀ k : Int, 0 ≤ k → k < 7 → ((r : Int) < I 55 4 → I 127 (7 * r + k) = I (58 + r) k) ∧ I 128 (7 * r + k) = I (67 + r) k) ∧ ∀ r : Nat, r < 8 → I 55 4 ≤ r → ∀ k : Int, 0 ≤ k → k < 7 → I (67 + r) k = 0
def vS (I : II) : Prop := ShI I ∧ ShM I ∧ (I 76 2 = 0 ∨ I 76 2 = 1) ∧ (I 76 2 = 1 → PlnI I) ∧ I 129 = I 77 ∧ I 100 46 = I 76 4 ∧ I 100 47 = I 76 5
def vD (I : II) : Prop := ∃ n : Nat, BoyI I n ∧ BoyM I n ∧ (I 79 6 = 0 ∨ I 79 6 = 1) ∧ (I 79 6 = 1 → RndI I n) ∧ I 130 = I 80 ∧ I 131 = I 81 ∧ I 132 = I 82
def vA (I : II) (nm no : Nat) : Prop := PoI I nm no ∧ rNet I ∧ rLaw I no ∧ rMsg I nm ∧ StD I nm (vX I) ∧ I 100 0 = I 43 5 ∧ I 100 12 = -9
def Inv (nm no : Nat) (I : II) : Prop := vA I nm no ∧ vT I ∧ vB I ∧ vP I ∧ vS I ∧ vD I
section
variable {I J : II}
theorem vT_fr (h : vT I) (e1 : J 46 1 = I 46 1) (e2 : J 47 = I 47) (e3 : J 100 18 = I 100 18) (e4 : J 113 = I 113) : vT J := by
  unfold vT TxI at *; rw [e1, e2, e3, e4]; exact h
theorem vB_fr (h : vB I) (e1 : J 49 = I 49) (e2 : J 50 = I 50) (e3 : J 118 = I 118) (e4 : J 119 = I 119) (e5 : J 125 = I 125) : vB J := by
  unfold vB BkI BkM at *; rw [e1, e2, e3, e4, e5]; exact h
theorem vP_fr (h : vP I) (e1 : J 55 4 = I 55 4) (e2 : J 56 = I 56) (e3 : ∀ r : Nat, r < 8 → J (58 + r) = I (58 + r)) (e4 : ∀ r : Nat, r < 8 → J (67 + r) = I (67 + r)) (e5 : J 100 41 = I 100 41) (e6 : J 126 = I 126) (e7 : J 127 = I 127) (e8 : J 128 = I 128) : vP J := by
  obtain ⟨⟨a1, a2⟩, b, c, d, f, i⟩ := h
  have hb := a1
  refine ⟨⟨by rw [e1]; exact a1, fun r hr => ?_⟩, by unfold TpM at *; rw [e5, e6, e8]; exact b, by rw [e5, e1]; exact c, fun r hr => by rw [e6, e2]; exact d r hr, fun r hr k k0 k1 => ?_, fun r hr h4 k k0 k1 => ?_⟩
  · rw [e1] at hr
    rw [e2, e3 r (by omega), e4 r (by omega)]; exact a2 r hr
  · rw [e1, e7, e8, e3 r hr, e4 r hr]; exact f r hr k k0 k1
  · rw [e1] at h4
    rw [e4 r hr]; exact i r hr h4 k k0 k1
end
