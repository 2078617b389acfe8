/-! ROWS OF ROWS: o a cell of 8 rows, o + 1 .. o + 8 rows of 7 numbers -/
def grS (sh : SH) (o : Nat) : SH := fun x => if o ≤ x ∧ x ≤ o + 8 then (if x = o then (27, 8) else (20, 7)) else sh x
def grR (R : RR) (o : Nat) : RR := fun x j => if o ≤ x ∧ x ≤ o + 8 then (if x = o ∧ 0 ≤ j ∧ j < 8 then some (o + 1 + j.toNat) else none) else R x j
def grI (I : II) (o : Nat) : II := fun x j => if o ≤ x ∧ x ≤ o + 8 then 0 else I x j
def grA (ad : Nat → Nat) (o h : Nat) : Nat → Nat := fun x => if o ≤ x ∧ x ≤ o + 8 then h + (x - o) else ad x
theorem va_P_mem {D : va_G} {cl : List vw_C} {ws : va_W} {H : Heap} (h : ∀ q ∈ ws, va_at D cl q H) : va_P D cl ws H := fun _ q hk => h q (List.mem_of_getElem? hk)
theorem va_P.mem {D : va_G} {cl : List vw_C} {ws : va_W} {H : Heap} (h : va_P D cl ws H) {q : Nat × va_E} (hq : q ∈ ws) : va_at D cl q H := by
  obtain ⟨k, hk⟩ := List.getElem?_of_mem hq
  exact h k q hk
theorem ext_grid {ad : Nat → Nat} {sh : SH} {o h : Nat} (fr : ∀ j, j ≤ 8 → (sh (o + j)).1 = 0) : Ext ad sh (grA ad o h) (grS sh o) := by
  intro k hk
  have hn : ¬ (o ≤ k ∧ k ≤ o + 8) := fun z => hk (by have := fr (k - o) (by omega); rw [show o + (k - o) = k by omega] at this; exact this)
  exact ⟨if_neg hn, by unfold grS; rw [if_neg hn]; exact hk⟩
theorem Rep.grid {g : GH} {ad : Nat → Nat} {sh : SH} {R : RR} {I : II} {H H1 : Heap} {o : Nat} (h : Rep g ad sh R I H) (fr : ∀ j, j ≤ 8 → (sh (o + j)).1 = 0) (h16 : 16 ≤ o ∧ o + 8 < 1000) (hA : gB g ≤ H.size) (ho : ∀ q, q < H.size → H1[q]? = H[q]?)
    (e0 : H1[H.size]? = some (vp_cell (gC g 7) (8, .inr (.inr (.inr (.inr (fun j => some (H.size + 1 + j)))))))) (e1 : ∀ j, j < 8 → H1[H.size + 1 + j]? = some (vp_cell (gC g 0) (7, .inl (fun _ => 0)))) (hc : ∀ f f' : Nat → Option Nat, (∀ j, j < 8 → f j = f' j) → vp_cell (gC g 7) (8, .inr (.inr (.inr (.inr f)))) = vp_cell (gC g 7) (8, .inr (.inr (.inr (.inr f'))))) :
    Rep g (grA ad o H.size) (grS sh o) (grR R o) (grI I o) H1 := by
  obtain ⟨⟨dom, d1, d2, hP, hD⟩, h2, h3, h4⟩ := h
  have hin : ∀ k, k ∈ dom → ¬ (o ≤ k ∧ k ≤ o + 8) := fun k hk z => by
    have := fr (k - o) (by omega)
    rw [show o + (k - o) = k by omega] at this
    have := (d2 k).mp hk
    omega
  have hnz : ∀ k, (sh k).1 ≠ 0 → ¬ (o ≤ k ∧ k ≤ o + 8) := fun k hk z => hk (by
    have := fr (k - o) (by omega)
    rw [show o + (k - o) = k by omega] at this; exact this)
  have hf : ∀ k, k ∈ dom → (grA ad o H.size k, cel (gC g) (grA ad o H.size) (grS sh o k).1 (grS sh o k).2 (grR R o k) (grI I o k)) = (ad k, cel (gC g) ad (sh k).1 (sh k).2 (R k) (I k)) := fun k hk => by
    have z := hin k hk
    have a1 : grA ad o H.size k = ad k := if_neg z
    have a2 : grS sh o k = sh k := if_neg z
    have a3 : grR R o k = R k := funext fun j => if_neg z
    have a4 : grI I o k = I k := funext fun j => if_neg z
    rw [a1, a2, a3, a4, cel_ext (ad := ad) (ad' := grA ad o H.size) (fun j x hx => if_neg (hnz x (h4 k j x ((d2 k).mp hk).1 hx)))]
  have hlt : ∀ k, k ∈ dom → ad k < H.size := fun k hk => (hP.mem (List.mem_map.mpr ⟨k, hk, rfl⟩)).lt
  have hinj : ∀ k k', k ∈ dom → k' ∈ dom → ad k = ad k' → k = k' := fun k k' hk hk' e => by
    obtain ⟨i, i1, i2⟩ := dom_get (f := fun k => (ad k, cel (gC g) ad (sh k).1 (sh k).2 (R k) (I k))) hk
    obtain ⟨j, j1, j2⟩ := dom_get (f := fun k => (ad k, cel (gC g) ad (sh k).1 (sh k).2 (R k) (I k))) hk'
    have := hD.1 i j _ _ i2 j2 e
    subst this
    exact Option.some.inj (i1.symm.trans j1)
  let new : List Nat := (List.range 9).map (fun j => o + j)
  have hnew : ∀ k, k ∈ new ↔ (o ≤ k ∧ k ≤ o + 8) := fun k => by
    show k ∈ (List.range 9).map (fun j => o + j) ↔ _
    rw [List.mem_map]
    constructor
    · rintro ⟨j, hj, e⟩; rw [List.mem_range] at hj; omega
    · intro z; exact ⟨k - o, List.mem_range.mpr (by omega), by omega⟩
  have hnd : new.Nodup := by
    show ((List.range 9).map (fun j => o + j)).Nodup
    rw [List.Nodup, List.pairwise_map]
    exact (List.nodup_range (n := 9)).imp (fun hab e => hab (by omega))
  have hmem : ∀ k, k ∈ dom ++ new ↔ (0 < (grS sh o k).1 ∧ (grS sh o k).1 < 30) := fun k => by
    rw [List.mem_append, hnew]
    unfold grS
    by_cases z : o ≤ k ∧ k ≤ o + 8
    · rw [if_pos z]
      constructor
      · intro _; split <;> decide
      · intro _; exact Or.inr z
    · rw [if_neg z, ← d2]
      constructor
      · rintro (y | y)
        · exact y
        · exact absurd y z
      · exact Or.inl
  have hadn : ∀ k, k ∈ new → grA ad o H.size k = H.size + (k - o) := fun k hk => if_pos ((hnew k).mp hk)
  have hado : ∀ k, k ∈ dom → grA ad o H.size k = ad k := fun k hk => if_neg (hin k hk)
  have hi2 : ∀ k k', k ∈ dom ++ new → k' ∈ dom ++ new → grA ad o H.size k = grA ad o H.size k' → k = k' := fun k k' hk hk' e => by
    rcases List.mem_append.mp hk with a | a
    · rcases List.mem_append.mp hk' with b | b
      · rw [hado k a, hado k' b] at e; exact hinj k k' a b e
      · rw [hado k a, hadn k' b] at e; have := hlt k a; omega
    · rcases List.mem_append.mp hk' with b | b
      · rw [hadn k a, hado k' b] at e; have := hlt k' b; omega
      · rw [hadn k a, hadn k' b] at e
        have a1 := (hnew k).mp a
        have b1 := (hnew k').mp b
        omega
  have hdn : (dom ++ new).Nodup := List.nodup_append.mpr ⟨d1, hnd, fun k hk k' hk' e => hin k hk (by rw [e]; exact (hnew k').mp hk')⟩
  refine ⟨⟨dom ++ new, hdn, hmem, va_P_mem (fun q hq => ?_), ⟨fun i j p q hi hj e => ?_, fun k q hk => ?_⟩⟩, fun k hk => ?_, fun k i => ?_, fun k i q hk hq => ?_⟩
  · obtain ⟨k, hk, rfl⟩ := List.mem_map.mp hq
    rcases List.mem_append.mp hk with a | a
    · rw [hf k a]
      have z := hP.mem (List.mem_map.mpr ⟨k, a, rfl⟩)
      exact z.kept (ho _ (hlt k a))
    · have z := (hnew k).mp a
      rw [hadn k a]
      by_cases e : k = o
      · subst e
        have s1 : grS sh k k = (27, 8) := by unfold grS; rw [if_pos z, if_pos rfl]
        rw [s1, cel_aq (by decide)]
        show H1[H.size + (k - k)]? = some (vp_cell (gC g (27 - 20)) (8, _))
        rw [Nat.sub_self, Nat.add_zero, e0]
        refine congrArg some (hc _ _ (fun j hj => ?_))
        show some (H.size + 1 + j) = (grR R k k j).map (grA ad k H.size)
        have r1 : grR R k k (j : Int) = some (k + 1 + j) := by
          unfold grR; rw [if_pos z, if_pos ⟨rfl, by omega, by omega⟩, Int.toNat_natCast]
        rw [r1]
        show some _ = some (grA ad k H.size (k + 1 + j))
        rw [show grA ad k H.size (k + 1 + j) = H.size + (k + 1 + j - k) from if_pos (by omega)]
        congr 1
        omega
      · have s1 : grS sh o k = (20, 7) := by unfold grS; rw [if_pos z, if_neg e]
        rw [s1, cel_ai (by decide) (by decide)]
        show H1[H.size + (k - o)]? = some (vp_cell (gC g (20 - 20)) (7, .inl (fun j => Int32.ofInt (grI I o k j))))
        have e2 := e1 (k - o - 1) (by omega)
        rw [show H.size + 1 + (k - o - 1) = H.size + (k - o) by omega] at e2
        rw [e2]
        have i1 : (fun j : Nat => Int32.ofInt (grI I o k j)) = fun _ => 0 := funext fun j => by
          rw [show grI I o k (j : Int) = 0 from if_pos z]; rfl
        rw [i1]
  · rw [List.getElem?_map] at hi hj
    obtain ⟨k, k1, k2⟩ := Option.map_eq_some_iff.mp hi
    obtain ⟨k', k1', k2'⟩ := Option.map_eq_some_iff.mp hj
    subst k2; subst k2'
    have := hi2 k k' (List.mem_of_getElem? k1) (List.mem_of_getElem? k1') e
    subst this
    exact dom_inj hdn k1 k1'
  · rw [List.getElem?_map] at hk
    obtain ⟨k', k1, k2⟩ := Option.map_eq_some_iff.mp hk
    subst k2
    show gB g ≤ grA ad o H.size k'
    rcases List.mem_append.mp (List.mem_of_getElem? k1) with a | a
    · rw [hado k' a]
      obtain ⟨i, i1, i2⟩ := dom_get (f := fun k => (ad k, cel (gC g) ad (sh k).1 (sh k).2 (R k) (I k))) a
      exact hD.2 i _ i2
    · rw [hadn k' a]; omega
  · have z : ¬ (o ≤ k ∧ k ≤ o + 8) := by unfold gid at hk; omega
    unfold grA grS
    rw [if_neg z, if_neg z]; exact h2 k hk
  · unfold grS grI
    by_cases z : o ≤ k ∧ k ≤ o + 8
    · rw [if_pos z, if_pos z]; exact ⟨fun _ => by decide, fun _ => by decide⟩
    · rw [if_neg z, if_neg z]; exact h3 k i
  · unfold grS at hk ⊢
    unfold grR at hq
    by_cases z : o ≤ k ∧ k ≤ o + 8
    · rw [if_pos z] at hq
      split at hq
      · cases hq
        rw [if_pos (by omega), if_neg (by omega)]; decide
      · cases hq
    · rw [if_neg z] at hq hk
      have := h4 k i q hk hq
      rw [if_neg (hnz q this)]; exact this
