/-! ROUNDS OF DOORS, as mathematics: sequences of doors as numbers to the base n, their cost, the first best of those ahead of a number -/
theorem inj_surj : ∀ (n : Nat) (q : Nat → Nat), (∀ i, i < n → q i < n) → (∀ i j, i < j → j < n → q i ≠ q j) → ∀ j, j < n → ∃ i, i < n ∧ q i = j
  | 0, _, _, _, j, h => by omega
  | n + 1, q, hb, hi, j, hj => by
    by_cases ha : q n = j
    · exact ⟨n, by omega, ha⟩
    have ih := inj_surj n (fun i => if q i = n then q n else q i) (fun i h => by
      have h1 := hb i (by omega)
      have h2 := hb n (by omega)
      have h3 := hi i n h (by omega)
      show (if q i = n then q n else q i) < n
      split <;> omega) (fun i k h1 h2 => by
      have h3 := hi i k h1 (by omega)
      have h4 := hi i n (by omega) (by omega)
      have h5 := hi k n h2 (by omega)
      show (if q i = n then q n else q i) ≠ (if q k = n then q n else q k)
      split <;> split <;> omega)
    by_cases hn : j = n
    · obtain ⟨i, h1, h2⟩ := ih (q n) (by have := hb n (by omega); omega)
      have h4 := hi i n h1 (by omega)
      have h2' : (if q i = n then q n else q i) = q n := h2
      split at h2'
      · exact ⟨i, by omega, by omega⟩
      · exact absurd h2' h4
    · obtain ⟨i, h1, h2⟩ := ih j (by omega)
      have h2' : (if q i = n then q n else q i) = j := h2
      split at h2'
      · exact absurd h2' ha
      · exact ⟨i, by omega, h2'⟩
theorem surj_inj (n : Nat) (q : Nat → Nat) (hb : ∀ i, i < n → q i < n) (hs : ∀ j, j < n → ∃ i, i < n ∧ q i = j) : ∀ i j, i < j → j < n → q i ≠ q j := by
  have hc : ∃ s : Nat → Nat, ∀ j, j < n → s j < n ∧ q (s j) = j :=
    ⟨fun j => Classical.epsilon (fun i => i < n ∧ q i = j), fun j hj => Classical.epsilon_spec (hs j hj)⟩
  obtain ⟨s, hs2⟩ := hc
  have ss := inj_surj n s (fun i h => (hs2 i h).1) (fun i j h1 h2 e => by
    have a := (hs2 i (by omega)).2
    have b := (hs2 j h2).2
    rw [e] at a; omega)
  intro i j h1 h2 e
  obtain ⟨a, a1, a2⟩ := ss i (by omega)
  obtain ⟨b, b1, b2⟩ := ss j h2
  have x := (hs2 a a1).2
  have y := (hs2 b b1).2
  rw [a2] at x
  rw [b2] at y
  have : a = b := by rw [← x, ← y, e]
  rw [this] at a2
  omega
def rN (n : Nat) (q : Nat → Nat) : Nat → Nat
  | 0 => 0
  | k + 1 => rN n q k * n + q k
def rG (n : Nat) (q : Nat → Nat) : Prop := (∀ j, j < n → q j < n) ∧ ∀ i j, i < j → j < n → q i ≠ q j
def rX (X : Int → Int) (q : Nat → Nat) (k : Nat) : Int := if k = 0 then 0 else X (q (k - 1))
def rTm (X Y : Int → Int) (q : Nat → Nat) : Nat → Int
  | 0 => 0
  | k + 1 => rTm X Y q k + max (X (q k) - rX X q k) (-(X (q k) - rX X q k)) + max (Y (q k) - rX Y q k) (-(Y (q k) - rX Y q k))
def rL (X Y D : Int → Int) (q : Nat → Nat) : Nat → Int
  | 0 => 0
  | k + 1 => if D (q k) < rTm X Y q (k + 1) then rL X Y D q k + 1 else rL X Y D q k
def rLe (a b c e : Int) : Prop := a < c ∨ (a = c ∧ b ≤ e)
def rLt (a b c e : Int) : Prop := a < c ∨ (a = c ∧ b < e)
section
variable {n : Nat} {X Y D : Int → Int} {p q : Nat → Nat}
theorem mn_lt {a b v : Nat} (hb : b < n) : a * n + b < v * n ↔ a < v := by
  constructor
  · intro h
    rcases Nat.lt_or_ge a v with z | z
    · exact z
    · have := Nat.mul_le_mul_right n z; omega
  · intro h
    have := Nat.mul_le_mul_right n (show a + 1 ≤ v by omega)
    rw [Nat.add_mul, Nat.one_mul] at this
    omega
theorem mn_eq {a b c e : Nat} (hb : b < n) (he : e < n) (h : a * n + b = c * n + e) : a = c ∧ b = e := by
  have h1 : ¬ a < c := fun z => by have := (mn_lt (n := n) (a := a) (b := b) (v := c) hb).mpr z; omega
  have h2 : ¬ c < a := fun z => by have := (mn_lt (n := n) (a := c) (b := e) (v := a) he).mpr z; omega
  have h3 : a = c := by omega
  subst h3
  exact ⟨rfl, by omega⟩
theorem rN_inj : ∀ k : Nat, (∀ j, j < k → p j < n ∧ q j < n) → rN n p k = rN n q k → ∀ j, j < k → p j = q j
  | 0, _, _, j, h => by omega
  | k + 1, hb, he, j, hj => by
    have hk := hb k (by omega)
    have e := mn_eq hk.1 hk.2 he
    rcases (show j < k ∨ j = k by omega) with z | z
    · exact rN_inj k (fun j h => hb j (by omega)) e.1 j z
    · subst z; exact e.2
theorem rN_congr : ∀ k : Nat, (∀ j, j < k → p j = q j) → rN n p k = rN n q k
  | 0, _ => rfl
  | k + 1, h => by unfold rN; rw [rN_congr k (fun j hj => h j (by omega)), h k (by omega)]
theorem rN_lt : ∀ k : Nat, (∀ j, j < k → q j < n) → rN n q k < n ^ k
  | 0, _ => by show 0 < n ^ 0; rw [Nat.pow_zero]; omega
  | k + 1, h => by
    have ih := rN_lt k (fun j hj => h j (by omega))
    unfold rN
    rw [Nat.pow_succ]
    exact (mn_lt (h k (by omega))).mpr ih
theorem rX_congr {k : Nat} (h : ∀ j, j < k → p j = q j) : rX X p k = rX X q k := by
  unfold rX
  split
  · rfl
  · rw [h (k - 1) (by omega)]
theorem rT_congr : ∀ k : Nat, (∀ j, j < k → p j = q j) → rTm X Y p k = rTm X Y q k
  | 0, _ => rfl
  | k + 1, h => by
    unfold rTm
    rw [rT_congr k (fun j hj => h j (by omega)), h k (by omega), rX_congr (X := X) (fun j hj => h j (by omega)), rX_congr (X := Y) (fun j hj => h j (by omega))]
theorem rL_congr : ∀ k : Nat, (∀ j, j < k → p j = q j) → rL X Y D p k = rL X Y D q k
  | 0, _ => rfl
  | k + 1, h => by
    unfold rL
    rw [rL_congr k (fun j hj => h j (by omega)), h k (by omega), rT_congr (k + 1) h]
theorem rT_mono (k : Nat) : ∀ m : Nat, rTm X Y q k ≤ rTm X Y q (k + m)
  | 0 => Int.le_refl _
  | m + 1 => by
    have ih := rT_mono k m
    have e : rTm X Y q (k + (m + 1)) = rTm X Y q (k + m) + max (X (q (k + m)) - rX X q (k + m)) (-(X (q (k + m)) - rX X q (k + m))) + max (Y (q (k + m)) - rX Y q (k + m)) (-(Y (q (k + m)) - rX Y q (k + m))) := rfl
    rw [e]
    omega
theorem rL_mono (k : Nat) : ∀ m : Nat, rL X Y D q k ≤ rL X Y D q (k + m)
  | 0 => Int.le_refl _
  | m + 1 => by
    have ih := rL_mono k m
    have e : rL X Y D q (k + (m + 1)) = if D (q (k + m)) < rTm X Y q (k + m + 1) then rL X Y D q (k + m) + 1 else rL X Y D q (k + m) := rfl
    rw [e]
    split <;> omega
theorem rL_bd : ∀ k : Nat, 0 ≤ rL X Y D q k ∧ rL X Y D q k ≤ k
  | 0 => by unfold rL; omega
  | k + 1 => by have := rL_bd k; unfold rL; split <;> omega
theorem rT_bd (hX : ∀ j : Nat, j < n → 0 ≤ X j ∧ X j ≤ 20) (hY : ∀ j : Nat, j < n → 0 ≤ Y j ∧ Y j ≤ 20) : ∀ k : Nat, (∀ j, j < k → q j < n) → 0 ≤ rTm X Y q k ∧ rTm X Y q k ≤ 40 * k
  | 0, _ => by unfold rTm; omega
  | k + 1, h => by
    have ih := rT_bd hX hY k (fun j hj => h j (by omega))
    have h1 := hX (q k) (h k (by omega))
    have h2 := hY (q k) (h k (by omega))
    have h3 : 0 ≤ rX X q k ∧ rX X q k ≤ 20 := by
      unfold rX; split
      · omega
      · exact hX _ (h (k - 1) (by omega))
    have h4 : 0 ≤ rX Y q k ∧ rX Y q k ≤ 20 := by
      unfold rX; split
      · omega
      · exact hY _ (h (k - 1) (by omega))
    unfold rTm
    omega
/-- the first best of the rounds whose first k doors, as a number, are ahead of v; N: what stands where there is none -/
def BsI (N : Prop) (n : Nat) (X Y D : Int → Int) (k v : Nat) (bl be : Int) (best : Int → Int) : Prop :=
  (∀ q, rG n q → rN n q k < v → rLe bl be (rL X Y D q n) (rTm X Y q n)) ∧
  ((N ∧ ∀ q, rG n q → ¬ rN n q k < v) ∨ ∃ q0, rG n q0 ∧ rN n q0 k < v ∧ rL X Y D q0 n = bl ∧ rTm X Y q0 n = be ∧ (∀ j : Nat, j < n → best j = q0 j) ∧ ∀ q, rG n q → rN n q n < rN n q0 n → rLt bl be (rL X Y D q n) (rTm X Y q n))
variable {N : Prop} {k v : Nat} {bl be : Int} {best : Int → Int}
theorem bs_cov {k' v' : Nat} (h : BsI N n X Y D k v bl be best) (e : ∀ q, rG n q → (rN n q k < v ↔ rN n q k' < v')) : BsI N n X Y D k' v' bl be best := by
  refine ⟨fun q hq hv => h.1 q hq ((e q hq).mpr hv), ?_⟩
  rcases h.2 with h2 | ⟨q0, a, b, c⟩
  · exact Or.inl ⟨h2.1, fun q hq hv => h2.2 q hq ((e q hq).mpr hv)⟩
  · exact Or.inr ⟨q0, a, (e q0 a).mp b, c⟩
theorem bs_down (hk : k < n) (h : BsI N n X Y D k v bl be best) : BsI N n X Y D (k + 1) (v * n) bl be best :=
  bs_cov h (fun q hq => (mn_lt (hq.1 k hk)).symm)
theorem bs_up (hk : k < n) (h : BsI N n X Y D (k + 1) (v * n) bl be best) : BsI N n X Y D k v bl be best :=
  bs_cov h (fun q hq => mn_lt (hq.1 k hk))
theorem bs_skip (h : BsI N n X Y D k v bl be best) (hs : ∀ q, rG n q → rN n q k = v → rLe bl be (rL X Y D q n) (rTm X Y q n) ∧ ¬ N) : BsI N n X Y D k (v + 1) bl be best := by
  refine ⟨fun q hq hv => ?_, ?_⟩
  · rcases (show rN n q k < v ∨ rN n q k = v by omega) with z | z
    · exact h.1 q hq z
    · exact (hs q hq z).1
  · rcases h.2 with h2 | ⟨q0, a, b, c⟩
    · refine Or.inl ⟨h2.1, fun q hq hv => ?_⟩
      rcases (show rN n q k < v ∨ rN n q k = v by omega) with z | z
      · exact h2.2 q hq z
      · exact (hs q hq z).2 h2.1
    · exact Or.inr ⟨q0, a, by omega, c⟩
theorem bs_take {best' : Int → Int} (h : BsI N n X Y D n v bl be best) (hp : rG n p) (hv : rN n p n = v) (hlt : N ∨ rLt (rL X Y D p n) (rTm X Y p n) bl be) (hN : N → ∀ q, rG n q → ¬ rN n q n < v) (hb : ∀ j : Nat, j < n → best' j = p j) : BsI N n X Y D n (v + 1) (rL X Y D p n) (rTm X Y p n) best' := by
  have key : ∀ q, rG n q → rN n q n < v → rLt (rL X Y D p n) (rTm X Y p n) (rL X Y D q n) (rTm X Y q n) := fun q hq hqv => by
    rcases hlt with z | z
    · exact absurd hqv (hN z q hq)
    · have := h.1 q hq hqv
      unfold rLt at z ⊢
      unfold rLe at this
      omega
  refine ⟨fun q hq hqv => ?_, Or.inr ⟨p, hp, by omega, rfl, rfl, hb, fun q hq hqv => key q hq (by omega)⟩⟩
  rcases (show rN n q n < v ∨ rN n q n = v by omega) with z | z
  · have := key q hq z
    unfold rLt at this
    unfold rLe
    omega
  · have e := rN_inj n (fun j hj => ⟨hq.1 j hj, hp.1 j hj⟩) (z.trans hv.symm)
    rw [rL_congr n e, rT_congr n e]
    exact Or.inr ⟨rfl, Int.le_refl _⟩
theorem rG_id : rG n (fun j => j) := ⟨fun _ h => h, fun i j h _ e => by have e' : i = j := e; omega⟩
theorem bs_uniq {N' : Prop} {k' v' : Nat} {bl' be' : Int} {best' : Int → Int} (h : BsI N n X Y D k v bl be best) (h' : BsI N' n X Y D k' v' bl' be' best') (hc : ∀ q, rG n q → rN n q k < v) (hc' : ∀ q, rG n q → rN n q k' < v') : bl = bl' ∧ be = be' ∧ ∀ j : Nat, j < n → best j = best' j := by
  rcases h.2 with z | ⟨q, a1, a2, a3, a4, a5, a6⟩
  · exact absurd (hc _ rG_id) (z.2 _ rG_id)
  rcases h'.2 with z | ⟨q', b1, b2, b3, b4, b5, b6⟩
  · exact absurd (hc' _ rG_id) (z.2 _ rG_id)
  have x1 := h.1 q' b1 (hc q' b1)
  have x2 := h'.1 q a1 (hc' q a1)
  rw [b3, b4] at x1
  rw [a3, a4] at x2
  unfold rLe at x1 x2
  have e1 : bl = bl' := by omega
  have e2 : be = be' := by omega
  subst e1; subst e2
  have n1 : ¬ rN n q n < rN n q' n := fun z => by
    have := b6 q a1 z
    rw [a3, a4] at this
    unfold rLt at this
    omega
  have n2 : ¬ rN n q' n < rN n q n := fun z => by
    have := a6 q' b1 z
    rw [b3, b4] at this
    unfold rLt at this
    omega
  have e := rN_inj n (fun j hj => ⟨a1.1 j hj, b1.1 j hj⟩) (show rN n q n = rN n q' n by omega)
  exact ⟨rfl, rfl, fun j hj => by rw [a5 j hj, b5 j hj, e j hj]⟩
end
