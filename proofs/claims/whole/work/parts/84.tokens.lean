/-! TOKENS AND LINES, as mathematics: f the bytes, n how many -/
def isLe (c : Int) : Prop := 97 ≤ c ∧ c ≤ 122
def isDg (c : Int) : Prop := 48 ≤ c ∧ c ≤ 57
def isSp (f : Int → Int) (n p s : Int) : Prop := (p ≤ s ∧ s ≤ n) ∧ (∀ i, p ≤ i → i < s → f i = 32) ∧ (s < n → f s ≠ 32)
def isTe (f : Int → Int) (n s e : Int) : Prop := (s = n ∧ e = n) ∨ (s < n ∧ (s < e ∧ e ≤ n) ∧ ((isLe (f s) ∧ (∀ i, s ≤ i → i < e → isLe (f i)) ∧ (e < n → ¬ isLe (f e))) ∨ (isDg (f s) ∧ (∀ i, s ≤ i → i < e → isDg (f i)) ∧ (e < n → ¬ isDg (f e))) ∨ (¬ isLe (f s) ∧ ¬ isDg (f s) ∧ e = s + 1)))
section
variable {f : Int → Int} {n : Int}
theorem sp_uniq {p s s' : Int} (h : isSp f n p s) (h' : isSp f n p s') : s = s' := by
  rcases (show s < s' ∨ s = s' ∨ s' < s by omega) with z | z | z
  · exact absurd (h'.2.1 s h.1.1 z) (h.2.2 (by have := h'.1; omega))
  · exact z
  · exact absurd (h.2.1 s' h'.1.1 z) (h'.2.2 (by have := h.1; omega))
theorem sp_ex : ∀ (k : Nat) (p : Int), (n - p).toNat < k → p ≤ n → ∃ s, isSp f n p s
  | 0, p, h, _ => by omega
  | k + 1, p, h, hp => by
    by_cases e : p < n ∧ f p = 32
    · obtain ⟨s, h1, h2, h3⟩ := sp_ex k (p + 1) (by omega) (by omega)
      refine ⟨s, by omega, fun i i0 i1 => ?_, h3⟩
      rcases (show i = p ∨ p + 1 ≤ i by omega) with z | z
      · rw [z]; exact e.2
      · exact h2 i z i1
    · exact ⟨p, by omega, fun i i0 i1 => by omega, fun z y => e ⟨z, y⟩⟩
theorem run_ex (P : Int → Prop) : ∀ (k : Nat) (s : Int), (n - s).toNat < k → s ≤ n → ∃ e, (s ≤ e ∧ e ≤ n) ∧ (∀ i, s ≤ i → i < e → P (f i)) ∧ (e < n → ¬ P (f e))
  | 0, s, h, _ => by omega
  | k + 1, s, h, hs => by
    by_cases z : s < n ∧ P (f s)
    · obtain ⟨e, h1, h2, h3⟩ := run_ex P k (s + 1) (by omega) (by omega)
      refine ⟨e, by omega, fun i i0 i1 => ?_, h3⟩
      rcases (show i = s ∨ s + 1 ≤ i by omega) with y | y
      · rw [y]; exact z.2
      · exact h2 i y i1
    · exact ⟨s, by omega, fun i i0 i1 => by omega, fun y x => z ⟨y, x⟩⟩
theorem te_ex {s : Int} (h : s ≤ n) : ∃ e, isTe f n s e := by
  by_cases hs : s = n
  · exact ⟨n, Or.inl ⟨hs, rfl⟩⟩
  · by_cases h1 : isLe (f s)
    · obtain ⟨e, a, b, c⟩ := run_ex (f := f) (n := n) isLe _ s (Nat.lt_succ_self _) h
      refine ⟨e, Or.inr ⟨by omega, ⟨?_, a.2⟩, Or.inl ⟨h1, b, c⟩⟩⟩
      rcases (show s < e ∨ s = e by omega) with z | z
      · exact z
      · exact absurd (z ▸ h1) (c (by omega))
    · by_cases h2 : isDg (f s)
      · obtain ⟨e, a, b, c⟩ := run_ex (f := f) (n := n) isDg _ s (Nat.lt_succ_self _) h
        refine ⟨e, Or.inr ⟨by omega, ⟨?_, a.2⟩, Or.inr (Or.inl ⟨h2, b, c⟩)⟩⟩
        rcases (show s < e ∨ s = e by omega) with z | z
        · exact z
        · exact absurd (z ▸ h2) (c (by omega))
      · exact ⟨s + 1, Or.inr ⟨by omega, by omega, Or.inr (Or.inr ⟨h1, h2, rfl⟩)⟩⟩
theorem le_dg {c : Int} (h : isLe c) (h' : isDg c) : False := by unfold isLe isDg at *; omega
theorem run_uniq {P : Int → Prop} {s e e' : Int} (h1 : s < e ∧ e ≤ n) (h2 : ∀ i, s ≤ i → i < e → P (f i)) (h3 : e < n → ¬ P (f e)) (k1 : s < e' ∧ e' ≤ n) (k2 : ∀ i, s ≤ i → i < e' → P (f i)) (k3 : e' < n → ¬ P (f e')) : e = e' := by
  rcases (show e < e' ∨ e = e' ∨ e' < e by omega) with z | z | z
  · exact absurd (k2 e (by omega) z) (h3 (by omega))
  · exact z
  · exact absurd (h2 e' (by omega) z) (k3 (by omega))
theorem te_uniq {s e e' : Int} (h : isTe f n s e) (h' : isTe f n s e') : e = e' := by
  rcases h with ⟨a, b⟩ | ⟨a, b, c⟩
  · rcases h' with ⟨a', b'⟩ | ⟨a', _⟩
    · omega
    · omega
  · rcases h' with ⟨a', b'⟩ | ⟨a', b', c'⟩
    · omega
    · rcases c with ⟨c1, c2, c3⟩ | ⟨c1, c2, c3⟩ | ⟨c1, c2, c3⟩
      · rcases c' with ⟨d1, d2, d3⟩ | ⟨d1, d2, d3⟩ | ⟨d1, d2, d3⟩
        · exact run_uniq b c2 c3 b' d2 d3
        · exact (le_dg c1 d1).elim
        · exact absurd c1 d1
      · rcases c' with ⟨d1, d2, d3⟩ | ⟨d1, d2, d3⟩ | ⟨d1, d2, d3⟩
        · exact (le_dg d1 c1).elim
        · exact run_uniq b c2 c3 b' d2 d3
        · exact absurd c1 d2
      · rcases c' with ⟨d1, d2, d3⟩ | ⟨d1, d2, d3⟩ | ⟨d1, d2, d3⟩
        · exact absurd d1 c1
        · exact absurd d1 c2
        · omega
end
/-- where the token behind place p begins, and ends -/
noncomputable def tS (f : Int → Int) (n p : Int) : Int := Classical.epsilon (isSp f n p)
noncomputable def tE (f : Int → Int) (n p : Int) : Int := Classical.epsilon (isTe f n (tS f n p))
section
variable {f : Int → Int} {n : Int}
theorem tS_sp {p : Int} (h : p ≤ n) : isSp f n p (tS f n p) := Classical.epsilon_spec (sp_ex _ p (Nat.lt_succ_self _) h)
theorem tE_sp {p : Int} (h : p ≤ n) : isTe f n (tS f n p) (tE f n p) := Classical.epsilon_spec (te_ex (tS_sp h).1.2)
theorem tS_eq {p s : Int} (h : isSp f n p s) : tS f n p = s := sp_uniq (tS_sp (by have := h.1; omega)) h
theorem tE_eq {p e : Int} (hp : p ≤ n) (h : isTe f n (tS f n p) e) : tE f n p = e := te_uniq (tE_sp hp) h
theorem t_bd {p : Int} (h : p ≤ n) : p ≤ tS f n p ∧ tS f n p ≤ tE f n p ∧ tE f n p ≤ n ∧ (tS f n p < n → tS f n p < tE f n p) := by
  have h1 := (tS_sp (f := f) h).1
  rcases tE_sp (f := f) h with ⟨a, b⟩ | ⟨a, b, _⟩ <;> omega
end
/-- the token behind p is literal i -/
def wdP (f : Int → Int) (n p : Int) (i : Nat) : Prop := tE f n p - tS f n p = (litL.getD i 0 : Nat) ∧ ∀ k : Nat, k < litL.getD i 0 → f (tS f n p + k) = litC i k
def nvL (f : Int → Int) (s : Int) : Nat → Int
  | 0 => 0
  | k + 1 => 10 * nvL f s k + f (s + k) - 48
noncomputable def nvF (f : Int → Int) (n p : Int) : Int := nvL f (tS f n p) (tE f n p - tS f n p).toNat
def nuP (f : Int → Int) (n p most : Int) : Prop := (tS f n p < n ∧ isDg (f (tS f n p)) ∧ tE f n p - tS f n p ≤ 2) ∧ nvF f n p ≤ most
def seP (f : Int → Int) (n p : Int) : Prop := tS f n p < n ∧ f (tS f n p) = 59
noncomputable def kdT (f : Int → Int) (n p : Int) : Int := cif (wdP f n p 1) 0 (cif (wdP f n p 2) 1 (cif (wdP f n p 3) 2 (cif (wdP f n p 4) 3 (cif (wdP f n p 5) 4 (-1)))))
noncomputable def soT (f : Int → Int) (n p : Int) : Int := cif (wdP f n p 0) 0 (cif (wdP f n p 6) 1 (cif (wdP f n p 7) 3 (cif (wdP f n p 9) 4 (cif (wdP f n p 10) 2 (cif (wdP f n p 11) 5 (-1))))))
section
variable (f : Int → Int) (n : Int)
noncomputable def lnR (p : Int) : Int :=
  if soT f n p = 0 then (if kdT f n (tE f n p) = -1 then tS f n (tE f n p) else cif (nuP f n (tE f n (tE f n p)) 9) (-1) (tS f n (tE f n (tE f n p))))
  else if soT f n p = 1 then (if kdT f n (tE f n p) = -1 then tS f n (tE f n p) else cif (nuP f n (tE f n (tE f n p)) 99) (-1) (tS f n (tE f n (tE f n p))))
  else if soT f n p = 3 then cif (nuP f n (tE f n p) 23) (cif (wdP f n (tE f n (tE f n p)) 8) (cif (nuP f n (tE f n (tE f n (tE f n p))) 23) (-1) (tS f n (tE f n (tE f n (tE f n p))))) (tS f n (tE f n (tE f n p)))) (tS f n (tE f n p))
  else if soT f n p = 4 then (if kdT f n (tE f n p) = -1 then tS f n (tE f n p) else -1)
  else if soT f n p = 2 then cif (nuP f n (tE f n p) 99) (-1) (tS f n (tE f n p))
  else if soT f n p = 5 then cif (nuP f n (tE f n p) 99) (-1) (tS f n (tE f n p))
  else tS f n p
noncomputable def lnA (p : Int) : Int := if soT f n p = 0 then kdT f n (tE f n p) else if soT f n p = 1 then kdT f n (tE f n p) else if soT f n p = 3 then nvF f n (tE f n p) else if soT f n p = 4 then kdT f n (tE f n p) else 0
noncomputable def lnB (p : Int) : Int := if soT f n p = 0 then nvF f n (tE f n (tE f n p)) else if soT f n p = 1 then nvF f n (tE f n (tE f n p)) else if soT f n p = 3 then nvF f n (tE f n (tE f n (tE f n p))) else if soT f n p = 4 then 0 else nvF f n (tE f n p)
noncomputable def lnN (p : Int) : Int := if soT f n p = 0 then tE f n (tE f n (tE f n p)) else if soT f n p = 1 then tE f n (tE f n (tE f n p)) else if soT f n p = 3 then tE f n (tE f n (tE f n (tE f n p))) else tE f n (tE f n p)
/-- where line k begins -/
noncomputable def poF : Nat → Int
  | 0 => 0
  | k + 1 => tE f n (lnN f n (poF k))
noncomputable def lvF (x : Int) : Int := if x % 3 = 0 then soT f n (poF f n (x / 3).toNat) else if x % 3 = 1 then lnA f n (poF f n (x / 3).toNat) else lnB f n (poF f n (x / 3).toNat)
/-- the reading ends with line k: r the fault's place, -1 none -/
def rdO (k : Nat) (r : Int) : Prop := k ≤ 9 ∧ (∀ j, j < k → lnR f n (poF f n j) = -1 ∧ seP f n (lnN f n (poF f n j))) ∧ ((lnR f n (poF f n k) ≠ -1 ∧ r = lnR f n (poF f n k)) ∨ (lnR f n (poF f n k) = -1 ∧ tS f n (lnN f n (poF f n k)) = n ∧ r = -1) ∨ (lnR f n (poF f n k) = -1 ∧ tS f n (lnN f n (poF f n k)) ≠ n ∧ (¬ seP f n (lnN f n (poF f n k)) ∨ k = 9) ∧ r = tS f n (lnN f n (poF f n k))))
end
section
variable {f : Int → Int} {n : Int}
theorem rd_stop {k : Nat} {r : Int} (h : rdO f n k r) (hk : k < 9 ∨ True) : ¬ (lnR f n (poF f n k) = -1 ∧ seP f n (lnN f n (poF f n k)) ∧ k < 9) := by
  rintro ⟨a, b, c⟩
  rcases h.2.2 with z | z | z
  · exact z.1 a
  · have := b.1; omega
  · rcases z.2.2.1 with y | y
    · exact y b
    · omega
theorem rd_uniq {k k' : Nat} {r r' : Int} (h : rdO f n k r) (h' : rdO f n k' r') : k = k' ∧ r = r' := by
  have e : k = k' := by
    rcases (show k < k' ∨ k = k' ∨ k' < k by omega) with z | z | z
    · have q := h'.2.1 k z
      exact absurd ⟨q.1, q.2, by have := h'.1; omega⟩ (rd_stop h (Or.inr trivial))
    · exact z
    · have q := h.2.1 k' z
      exact absurd ⟨q.1, q.2, by have := h.1; omega⟩ (rd_stop h' (Or.inr trivial))
  subst e
  refine ⟨rfl, ?_⟩
  rcases h.2.2 with z | z | z
  · rcases h'.2.2 with y | y | y
    · omega
    · exact absurd y.1 z.1
    · exact absurd y.1 z.1
  · rcases h'.2.2 with y | y | y
    · exact absurd z.1 y.1
    · omega
    · exact absurd z.2.1 y.2.1
  · rcases h'.2.2 with y | y | y
    · exact absurd z.1 y.1
    · exact absurd y.2.1 z.2.1
    · omega
theorem lvF_0 (k : Nat) : lvF f n (3 * k) = soT f n (poF f n k) := by
  unfold lvF
  rw [if_pos (by omega), show ((3 * (k : Int)) / 3).toNat = k by omega]
theorem lvF_1 (k : Nat) : lvF f n (3 * k + 1) = lnA f n (poF f n k) := by
  unfold lvF
  rw [if_neg (by omega), if_pos (by omega), show ((3 * (k : Int) + 1) / 3).toNat = k by omega]
theorem lvF_2 (k : Nat) : lvF f n (3 * k + 2) = lnB f n (poF f n k) := by
  unfold lvF
  rw [if_neg (by omega), if_neg (by omega), show ((3 * (k : Int) + 2) / 3).toNat = k by omega]
/-- no token is two literals -/
theorem wd_one {p : Int} {i j : Nat} (hi : i < 12) (hj : j < 12) (h : wdP f n p i) (h' : wdP f n p j) : i = j := by
  have key : ∀ i j : Fin 12, litL.getD i.val 0 = litL.getD j.val 0 → (∀ k : Fin 6, k.val < litL.getD i.val 0 → litC i.val k.val = litC j.val k.val) → i = j := by decide +kernel
  have e1 : litL.getD i 0 = litL.getD j 0 := by have a := h.1; have b := h'.1; omega
  have hl : litL.getD i 0 ≤ 6 := (lit_ok ⟨i, hi⟩).1.2
  have := key ⟨i, hi⟩ ⟨j, hj⟩ e1 (fun k hk => by
    have hk2 : k.val < litL.getD i 0 := hk
    rw [← h.2 k.val hk2, ← h'.2 k.val (by omega)])
  exact congrArg Fin.val this
theorem nvL_bd {s : Int} : ∀ k : Nat, k ≤ 2 → (∀ i : Nat, i < k → isDg (f (s + i))) → 0 ≤ nvL f s k ∧ nvL f s k ≤ 99 ∧ (k ≤ 1 → nvL f s k ≤ 9)
  | 0, _, _ => by unfold nvL; omega
  | k + 1, hk, h => by
    have ih := nvL_bd k (by omega) (fun i hi => h i (by omega))
    have hd := h k (by omega)
    unfold isDg at hd
    have e : nvL f s (k + 1) = 10 * nvL f s k + f (s + k) - 48 := rfl
    rw [e]
    rcases (show k = 0 ∨ k = 1 by omega) with z | z
    · subst z
      have e0 : nvL f s 0 = 0 := rfl
      rw [e0]; omega
    · subst z; omega
end
