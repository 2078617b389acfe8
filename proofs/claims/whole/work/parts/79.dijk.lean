/-! SOONEST, as mathematics: office by office, the soonest first -/
section
variable {I : II} {q : Nat} {pr : Prop}
theorem fs_ex (v K m l : Int) : ∃ r, fsT I q pr v K m l r := by
  by_cases h : ∃ t, m ≤ t ∧ t ≤ l ∧ sokT I q pr v K t
  · have key : ∀ n : Nat, ∀ t : Int, (t - m).toNat < n → m ≤ t → t ≤ l → sokT I q pr v K t → ∃ r, fsT I q pr v K m l r := by
      intro n
      induction n with
      | zero => intro t h; omega
      | succ n ih =>
        intro t h1 h2 h3 h4
        by_cases hx : ∃ x, m ≤ x ∧ x < t ∧ sokT I q pr v K x
        · obtain ⟨x, x0, x1, x2⟩ := hx
          exact ih x (by omega) x0 (by omega) x2
        · exact ⟨t, Or.inr ⟨⟨h2, h3⟩, h4, fun x x0 x1 x2 => hx ⟨x, x0, x1, x2⟩⟩⟩
    obtain ⟨t, t0, t1, t2⟩ := h
    exact key _ t (Nat.lt_succ_self _) t0 t1 t2
  · exact ⟨-1, Or.inl ⟨rfl, fun t t0 t1 z => h ⟨t, t0, t1, z⟩⟩⟩
noncomputable def fsF (I : II) (q : Nat) (pr : Prop) (v K m l : Int) : Int := Classical.epsilon (fsT I q pr v K m l)
theorem fsF_sp (v K m l : Int) : fsT I q pr v K m l (fsF I q pr v K m l) := Classical.epsilon_spec (fs_ex v K m l)
theorem fsF_eq {v K m l r : Int} (hm : 0 ≤ m) (h : fsT I q pr v K m l r) : fsF I q pr v K m l = r := fs_uniq hm (fsF_sp v K m l) h
/-- when what begins in m is there over wire v; 1000000: not within the time -/
noncomputable def arF (I : II) (q : Nat) (pr : Prop) (n last v m : Int) : Int := if fsF I q pr v (Kt I n v) m (last - Kt I n v) = -1 then 1000000 else fsF I q pr v (Kt I n v) m (last - Kt I n v) + Kt I n v
theorem arF_bd {n last v m : Int} (hm : 0 ≤ m) : arF I q pr n last v m = 1000000 ∨ (m + Kt I n v ≤ arF I q pr n last v m ∧ arF I q pr n last v m ≤ last) := by
  unfold arF
  split
  · exact Or.inl rfl
  · next h =>
    rcases fsF_sp (I := I) (q := q) (pr := pr) v (Kt I n v) m (last - Kt I n v) with z | z
    · exact absurd z.1 h
    · right
      have := z.1
      omega
end
def eq8 (f r : Int → Int) : Prop := ∀ j, 0 ≤ j → j < 8 → f j = r j
/-- the soonest of those that aren't settled, the first of equals -/
noncomputable def dbF (r : Int → Int) (S : Int → Prop) : Nat → Int
  | 0 => -1
  | k + 1 => cif (¬ S k ∧ (dbF r S k = -1 ∨ r k < r (dbF r S k))) (k : Int) (dbF r S k)
theorem db_bd (r : Int → Int) (S : Int → Prop) : ∀ k : Nat, -1 ≤ dbF r S k ∧ dbF r S k < k
  | 0 => by unfold dbF; omega
  | k + 1 => by
    have ih := db_bd r S k
    unfold dbF
    by_cases z : ¬ S k ∧ (dbF r S k = -1 ∨ r k < r (dbF r S k))
    · rw [cif_t z]; omega
    · rw [cif_f z]; omega
theorem db_none (r : Int → Int) (S : Int → Prop) : ∀ k : Nat, dbF r S k = -1 → ∀ j : Int, 0 ≤ j → j < k → S j
  | 0, _, j, h0, h1 => by omega
  | k + 1, h, j, h0, h1 => by
    have hb := db_bd r S k
    unfold dbF at h
    by_cases z : ¬ S k ∧ (dbF r S k = -1 ∨ r k < r (dbF r S k))
    · rw [cif_t z] at h; omega
    · rw [cif_f z] at h
      rcases (show j < k ∨ j = k by omega) with y | y
      · exact db_none r S k h j h0 y
      · subst y
        exact Classical.byContradiction (fun x => z ⟨x, Or.inl h⟩)
theorem db_min (r : Int → Int) (S : Int → Prop) : ∀ k : Nat, dbF r S k ≠ -1 → ¬ S (dbF r S k) ∧ ∀ j : Int, 0 ≤ j → j < k → ¬ S j → r (dbF r S k) ≤ r j
  | 0, h => absurd rfl h
  | k + 1, h => by
    have hb := db_bd r S k
    have e : dbF r S (k + 1) = cif (¬ S k ∧ (dbF r S k = -1 ∨ r k < r (dbF r S k))) (k : Int) (dbF r S k) := rfl
    by_cases z : ¬ S k ∧ (dbF r S k = -1 ∨ r k < r (dbF r S k))
    · rw [cif_t z] at e
      rw [e]
      refine ⟨z.1, fun j j0 j1 hj => ?_⟩
      rcases (show j < k ∨ j = k by omega) with y | y
      · rcases z.2 with x | x
        · exact absurd (db_none r S k x j j0 y) hj
        · have := (db_min r S k (fun q => by rw [q] at x; exact absurd (db_none r S k q j j0 y) hj)).2 j j0 y hj
          omega
      · rw [y]; exact Int.le_refl _
    · rw [cif_f z] at e
      rw [e] at h ⊢
      have ih := db_min r S k h
      refine ⟨ih.1, fun j j0 j1 hj => ?_⟩
      rcases (show j < k ∨ j = k by omega) with y | y
      · exact ih.2 j j0 y hj
      · subst y
        have : ¬ (r k < r (dbF r S k)) := fun x => z ⟨hj, Or.inr x⟩
        omega
theorem db_congr {f r : Int → Int} {S S' : Int → Prop} (h : eq8 f r) (hS : ∀ j, 0 ≤ j → j < 8 → (S j ↔ S' j)) : ∀ k : Nat, k ≤ 8 → dbF f S k = dbF r S' k
  | 0, _ => rfl
  | k + 1, hk => by
    have ih := db_congr h hS k (by omega)
    have hb := db_bd r S' k
    unfold dbF
    rw [ih]
    by_cases z : dbF r S' k = -1
    · rw [z]
      by_cases y : ¬ S k
      · rw [cif_t ⟨y, Or.inl rfl⟩, cif_t ⟨fun x => y ((hS k (by omega) (by omega)).mpr x), Or.inl rfl⟩]
      · rw [cif_f (fun x => y x.1), cif_f (fun x => y (fun q => x.1 ((hS k (by omega) (by omega)).mp q)))]
    · rw [h k (by omega) (by omega), h (dbF r S' k) (by omega) (by omega), propext (hS k (by omega) (by omega))]
/-- what goes on from office o -/
noncomputable def rlF (A B : Int → Int) (ar : Int → Int → Int) (o : Int) (S : Int → Prop) (r : Int → Int) : Nat → Int → Int
  | 0 => r
  | v + 1 => cif ((A v = o ∨ B v = o) ∧ ¬ S (othF A B v o)) (upF (rlF A B ar o S r v) (othF A B v o) (min (rlF A B ar o S r v (othF A B v o)) (ar v (r o)))) (rlF A B ar o S r v)
section
variable {A B : Int → Int} {ar : Int → Int → Int} {o : Int} {S : Int → Prop} {r : Int → Int}
theorem rl_S : ∀ (v : Nat) (x : Int), S x → rlF A B ar o S r v x = r x
  | 0, x, _ => rfl
  | v + 1, x, h => by
    unfold rlF
    by_cases z : (A v = o ∨ B v = o) ∧ ¬ S (othF A B v o)
    · rw [cif_t z, upF_n (fun e => z.2 (by rw [← e]; exact h))]; exact rl_S v x h
    · rw [cif_f z]; exact rl_S v x h
/-- bounds: m0 the beginning, last the end -/
def bdI (m0 last : Int) (r : Int → Int) : Prop := (∀ j, 0 ≤ j → j < 8 → m0 ≤ r j ∧ (r j = 1000000 ∨ r j ≤ last)) ∧ r (-1) = 1000000
theorem rl_bd {m0 last : Int} {W : Nat} (hW : ∀ v : Nat, v < W → (0 ≤ A v ∧ A v < 8) ∧ (0 ≤ B v ∧ B v < 8)) (hl : m0 ≤ last ∧ last < 1000000) (hr : bdI m0 last r) (ho : m0 ≤ r o) (ha : ∀ v : Nat, v < W → ar v (r o) = 1000000 ∨ (r o + 1 ≤ ar v (r o) ∧ ar v (r o) ≤ last)) : ∀ v : Nat, v ≤ W → bdI m0 last (rlF A B ar o S r v) ∧ ∀ j, 0 ≤ j → j < 8 → r o ≤ r j → r o ≤ 1000000 → r o ≤ rlF A B ar o S r v j
  | 0, _ => ⟨hr, fun j _ _ h _ => h⟩
  | v + 1, hv => by
    have ih := rl_bd hW hl hr ho ha v (by omega)
    have hav := ha v (by omega)
    have hwv := hW v (by omega)
    unfold rlF
    by_cases z : (A v = o ∨ B v = o) ∧ ¬ S (othF A B v o)
    · rw [cif_t z]
      have hx : 0 ≤ othF A B v o ∧ othF A B v o < 8 := by unfold othF; split <;> omega
      refine ⟨⟨fun j j0 j1 => ?_, ?_⟩, fun j j0 j1 h1 h2 => ?_⟩
      · by_cases e : j = othF A B v o
        · subst e
          rw [upF_s]
          have := ih.1.1 (othF A B v o) hx.1 hx.2
          omega
        · rw [upF_n e]; exact ih.1.1 j j0 j1
      · rw [upF_n (by omega)]; exact ih.1.2
      · have i2 := ih.2 j j0 j1 h1 h2
        by_cases e : j = othF A B v o
        · rw [← e, upF_s]; omega
        · rw [upF_n e]; exact i2
    · rw [cif_f z]; exact ih
end
noncomputable def djF (A B : Int → Int) (ar : Int → Int → Int) (r0 : Int → Int) (W : Nat) : Nat → (Int → Int) × (Int → Prop)
  | 0 => (r0, fun _ => False)
  | k + 1 => (cif ((djF A B ar r0 W k).1 (dbF (djF A B ar r0 W k).1 (djF A B ar r0 W k).2 8) < 1000000) (rlF A B ar (dbF (djF A B ar r0 W k).1 (djF A B ar r0 W k).2 8) (fun x => (djF A B ar r0 W k).2 x ∨ x = dbF (djF A B ar r0 W k).1 (djF A B ar r0 W k).2 8) (djF A B ar r0 W k).1 W) (djF A B ar r0 W k).1, fun x => (djF A B ar r0 W k).2 x ∨ x = dbF (djF A B ar r0 W k).1 (djF A B ar r0 W k).2 8)
theorem dj_1 {A B : Int → Int} {ar : Int → Int → Int} {r0 : Int → Int} {W k : Nat} : (djF A B ar r0 W (k + 1)).1 = cif ((djF A B ar r0 W k).1 (dbF (djF A B ar r0 W k).1 (djF A B ar r0 W k).2 8) < 1000000) (rlF A B ar (dbF (djF A B ar r0 W k).1 (djF A B ar r0 W k).2 8) (fun x => (djF A B ar r0 W k).2 x ∨ x = dbF (djF A B ar r0 W k).1 (djF A B ar r0 W k).2 8) (djF A B ar r0 W k).1 W) (djF A B ar r0 W k).1 := rfl
theorem dj_2 {A B : Int → Int} {ar : Int → Int → Int} {r0 : Int → Int} {W k : Nat} {x : Int} : (djF A B ar r0 W (k + 1)).2 x ↔ ((djF A B ar r0 W k).2 x ∨ x = dbF (djF A B ar r0 W k).1 (djF A B ar r0 W k).2 8) := Iff.rfl
/-- how many are settled -/
noncomputable def ctF (S : Int → Prop) : Nat → Nat
  | 0 => 0
  | n + 1 => ctF S n + cif (S n) 1 0
theorem ct_le (S : Int → Prop) : ∀ n : Nat, ctF S n ≤ n
  | 0 => Nat.le_refl _
  | n + 1 => by
    have := ct_le S n
    unfold ctF
    by_cases z : S n
    · rw [cif_t z]; omega
    · rw [cif_f z]; omega
theorem ct_lt (S : Int → Prop) : ∀ n : Nat, (∃ j : Nat, j < n ∧ ¬ S j) → ctF S n < n
  | 0, ⟨j, h, _⟩ => by omega
  | n + 1, ⟨j, h, hj⟩ => by
    have h1 := ct_le S n
    unfold ctF
    by_cases z : S n
    · have := ct_lt S n ⟨j, by
        rcases (show j < n ∨ j = n by omega) with y | y
        · exact y
        · subst y; exact absurd z hj, hj⟩
      rw [cif_t z]; omega
    · rw [cif_f z]; omega
theorem ct_full (S : Int → Prop) : ∀ n : Nat, (∀ j : Nat, j < n → S j) → ctF S n = n
  | 0, _ => rfl
  | n + 1, h => by unfold ctF; rw [ct_full S n (fun j hj => h j (by omega)), cif_t (h n (by omega))]
theorem ct_add (S : Int → Prop) (b : Nat) : ∀ n : Nat, ¬ S b → ctF (fun x => S x ∨ x = (b : Int)) n = ctF S n + (if b < n then 1 else 0)
  | 0, _ => rfl
  | n + 1, hb => by
    have ih := ct_add S b n hb
    unfold ctF
    rw [ih]
    by_cases e : n = b
    · subst e
      rw [cif_t (Or.inr rfl), cif_f hb, if_neg (by omega), if_pos (by omega)]
    · by_cases z : S n
      · rw [cif_t (Or.inl z), cif_t z]
        by_cases y : b < n
        · rw [if_pos y, if_pos (by omega)]
        · rw [if_neg y, if_neg (by omega)]
      · rw [cif_f (fun x => x.elim z (fun x => e (by omega))), cif_f z]
        by_cases y : b < n
        · rw [if_pos y, if_pos (by omega)]
        · rw [if_neg y, if_neg (by omega)]
section
variable {A B : Int → Int} {ar : Int → Int → Int} {r0 : Int → Int} {W : Nat} {m0 last : Int}
/-- what the step's parts are -/
def djOK (A B : Int → Int) (ar : Int → Int → Int) (W : Nat) (m0 last : Int) : Prop := (∀ v : Nat, v < W → (0 ≤ A v ∧ A v < 8) ∧ (0 ≤ B v ∧ B v < 8)) ∧ (0 ≤ m0 ∧ m0 ≤ last ∧ last < 1000000) ∧ ∀ (v : Nat) (m : Int), v < W → 0 ≤ m → ar v m = 1000000 ∨ (m + 1 ≤ ar v m ∧ ar v m ≤ last)
theorem dj_bd (h : djOK A B ar W m0 last) (h0 : bdI m0 last r0) : ∀ k : Nat, bdI m0 last (djF A B ar r0 W k).1 ∧ ∀ s u : Int, (djF A B ar r0 W k).2 s → 0 ≤ s → s < 8 → 0 ≤ u → u < 8 → ¬ (djF A B ar r0 W k).2 u → (djF A B ar r0 W k).1 s ≤ (djF A B ar r0 W k).1 u
  | 0 => ⟨h0, fun s u z => z.elim⟩
  | k + 1 => by
    have ih := dj_bd h h0 k
    generalize hp : djF A B ar r0 W k = p at ih
    have e : djF A B ar r0 W (k + 1) = (cif (p.1 (dbF p.1 p.2 8) < 1000000) (rlF A B ar (dbF p.1 p.2 8) (fun x => p.2 x ∨ x = dbF p.1 p.2 8) p.1 W) p.1, fun x => p.2 x ∨ x = dbF p.1 p.2 8) := by rw [← hp]; rfl
    rw [e]
    have hb := db_bd p.1 p.2 8
    generalize hB : dbF p.1 p.2 8 = b at hb
    have hmin := db_min p.1 p.2 8
    rw [hB] at hmin
    by_cases z : p.1 b < 1000000
    · have hb0 : 0 ≤ b := by
        rcases (show b = -1 ∨ 0 ≤ b by omega) with y | y
        · rw [y, ih.1.2] at z; omega
        · exact y
      have hbb := ih.1.1 b hb0 (by omega)
      have hr := rl_bd (S := fun x => p.2 x ∨ x = b) h.1 ⟨h.2.1.2.1, h.2.1.2.2⟩ ih.1 hbb.1 (fun v hv => h.2.2 v (p.1 b) hv (by have := h.2.1.1; omega)) W (Nat.le_refl _)
      refine ⟨?_, fun s u hs s0 s1 u0 u1 hu => ?_⟩
      · show bdI m0 last (cif _ _ _)
        rw [cif_t z]; exact hr.1
      · show (cif (α := Int → Int) _ _ _) s ≤ (cif (α := Int → Int) _ _ _) u
        rw [cif_t z, rl_S W s hs]
        have hub : p.1 b ≤ p.1 u := (hmin (by omega)).2 u u0 (by omega) (fun y => hu (Or.inl y))
        have := hr.2 u u0 u1 hub (by omega)
        rcases hs with y | y
        · have y2 : p.1 s ≤ p.1 b := ih.2 s b y s0 s1 hb0 (by omega) (hmin (by omega)).1
          omega
        · rw [y]; exact this
    · refine ⟨?_, fun s u hs s0 s1 u0 u1 hu => ?_⟩
      · show bdI m0 last (cif _ _ _)
        rw [cif_f z]; exact ih.1
      · show (cif (α := Int → Int) _ _ _) s ≤ (cif (α := Int → Int) _ _ _) u
        rw [cif_f z]
        rcases hs with y | y
        · exact ih.2 s u y s0 s1 u0 u1 (fun q => hu (Or.inl q))
        · rw [y]
          exact (hmin (by omega)).2 u u0 (by omega) (fun q => hu (Or.inl q))
theorem dj_S {k : Nat} {x : Int} (h : (djF A B ar r0 W k).2 x) : ∀ m : Nat, (djF A B ar r0 W (k + m)).2 x ∧ (djF A B ar r0 W (k + m)).1 x = (djF A B ar r0 W k).1 x
  | 0 => ⟨h, rfl⟩
  | m + 1 => by
    have ih := dj_S h m
    refine ⟨Or.inl ih.1, ?_⟩
    rw [← ih.2, show k + (m + 1) = (k + m) + 1 from rfl, dj_1]
    by_cases z : (djF A B ar r0 W (k + m)).1 (dbF (djF A B ar r0 W (k + m)).1 (djF A B ar r0 W (k + m)).2 8) < 1000000
    · rw [cif_t z]; exact rl_S W x (Or.inl ih.1)
    · rw [cif_f z]
/-- nothing more is reached -/
theorem dj_end (h : djOK A B ar W m0 last) (h0 : bdI m0 last r0) {k : Nat} (hk : ∀ u, 0 ≤ u → u < 8 → ¬ (djF A B ar r0 W k).2 u → (djF A B ar r0 W k).1 u = 1000000) : ∀ m : Nat, (djF A B ar r0 W (k + m)).1 = (djF A B ar r0 W k).1 ∧ ∀ u, 0 ≤ u → u < 8 → ¬ (djF A B ar r0 W (k + m)).2 u → (djF A B ar r0 W (k + m)).1 u = 1000000
  | 0 => ⟨rfl, hk⟩
  | m + 1 => by
    have ih := dj_end h h0 hk m
    have hb := db_bd (djF A B ar r0 W (k + m)).1 (djF A B ar r0 W (k + m)).2 8
    have z : ¬ (djF A B ar r0 W (k + m)).1 (dbF (djF A B ar r0 W (k + m)).1 (djF A B ar r0 W (k + m)).2 8) < 1000000 := fun z => by
      rcases (show dbF (djF A B ar r0 W (k + m)).1 (djF A B ar r0 W (k + m)).2 8 = -1 ∨ 0 ≤ dbF (djF A B ar r0 W (k + m)).1 (djF A B ar r0 W (k + m)).2 8 by omega) with y | y
      · rw [y, (dj_bd h h0 (k + m)).1.2] at z; omega
      · have := ih.2 _ y (by omega) (db_min _ _ 8 (by omega)).1
        omega
    have e1 : (djF A B ar r0 W (k + (m + 1))).1 = (djF A B ar r0 W (k + m)).1 := by
      rw [show k + (m + 1) = (k + m) + 1 from rfl, dj_1, cif_f z]
    refine ⟨e1.trans ih.1, fun u u0 u1 hu => ?_⟩
    rw [e1]
    exact ih.2 u u0 u1 (fun y => hu (Or.inl y))
end
