/-! THE START: the numbers -/
section
variable {g : GH}
theorem is_z {x : Nat} (hx : x ∈ [21, 22, 24, 25, 26, 27, 28, 29, 30, 31, 32, 33, 34, 35, 43, 46, 47, 49, 50, 55, 56, 58, 59, 60, 61, 62, 63, 64, 65, 67, 68, 69, 70, 71, 72, 73, 74, 77, 79, 80, 81, 82, 84, 101, 103, 104, 105, 106, 107, 108, 109, 110, 113, 115, 116, 117, 118, 119, 126, 127, 128, 129, 130, 131, 132]) : IS g x = fun _ => 0 := by
  simp only [List.mem_cons, List.not_mem_nil, or_false] at hx
  rcases hx with e | e | e | e | e | e | e | e | e | e | e | e | e | e | e | e | e | e | e | e | e | e | e | e | e | e | e | e | e | e | e | e | e | e | e | e | e | e | e | e | e | e | e | e | e | e | e | e | e | e | e | e | e | e | e | e | e | e | e | e | e | e | e | e | e <;> subst e <;> rfl
theorem is_100 {j : Int} (hj : j ∈ [0, 3, 8, 10, 13, 18, 27, 41, 47, 48]) : IS g 100 j = 0 := by
  simp only [List.mem_cons, List.not_mem_nil, or_false] at hj
  rcases hj with e | e | e | e | e | e | e | e | e | e <;> subst e <;> rfl
theorem is_c : IS g 100 12 = -9 ∧ IS g 100 26 = 5 ∧ IS g 100 46 = 10 ∧ IS g 37 3 = 0 ∧ IS g 37 4 = 5 ∧ IS g 38 3 = 0 ∧ IS g 38 4 = 0 ∧ IS g 38 5 = 0 ∧ IS g 38 6 = 0 ∧ IS g 38 7 = 23 ∧ IS g 76 2 = 0 ∧ IS g 76 4 = 10 ∧ IS g 76 5 = 0 := ⟨rfl, rfl, rfl, rfl, rfl, rfl, rfl, rfl, rfl, rfl, rfl, rfl, rfl⟩
theorem is_39 {k : Int} (k0 : 0 ≤ k) (k1 : k < 5) : IS g 39 k = (gX g 2).2 k.toNat ∧ IS g 40 k = 1 := by
  rcases (show k = 0 ∨ k = 1 ∨ k = 2 ∨ k = 3 ∨ k = 4 by omega) with e | e | e | e | e <;> subst e <;> exact ⟨rfl, rfl⟩
theorem is_125 : ∀ j : Fin 26, IS g 125 (j.val : Int) = sgnT j.val := by
  intro j
  match j with
  | ⟨0, _⟩ => rfl | ⟨1, _⟩ => rfl | ⟨2, _⟩ => rfl | ⟨3, _⟩ => rfl | ⟨4, _⟩ => rfl | ⟨5, _⟩ => rfl | ⟨6, _⟩ => rfl | ⟨7, _⟩ => rfl | ⟨8, _⟩ => rfl | ⟨9, _⟩ => rfl | ⟨10, _⟩ => rfl | ⟨11, _⟩ => rfl | ⟨12, _⟩ => rfl | ⟨13, _⟩ => rfl | ⟨14, _⟩ => rfl | ⟨15, _⟩ => rfl | ⟨16, _⟩ => rfl | ⟨17, _⟩ => rfl | ⟨18, _⟩ => rfl | ⟨19, _⟩ => rfl | ⟨20, _⟩ => rfl | ⟨21, _⟩ => rfl | ⟨22, _⟩ => rfl | ⟨23, _⟩ => rfl | ⟨24, _⟩ => rfl | ⟨25, _⟩ => rfl
  | ⟨n + 26, h⟩ => exact absurd h (by omega)
theorem is_23 : IS g 23 = fun j => if 0 ≤ j ∧ j < 8 then 1439 else 0 := by
  have e : IS g 23 = i4 (nwI (nwI IE 20) 21) 23 := rfl
  rw [e]
  funext j
  show cpI _ 23 (fun _ => 1439) (8 : Int) 23 j = _
  by_cases h : 0 ≤ j ∧ j < 8
  · rw [cpI_in h.1 h.2, if_pos h]
  · rw [cpI_out h, if_neg h]; rfl
theorem is_102 : IS g 102 = fun j => if 0 ≤ j ∧ j < 8 then 1439 else 0 := by
  funext j
  show cpI _ 102 (fun _ => 1439) 8 102 j = _
  by_cases h : 0 ≤ j ∧ j < 8
  · rw [cpI_in h.1 h.2, if_pos h]
  · rw [cpI_out h, if_neg h]; rfl
theorem Inv_start (hG : GvI g) : Inv 0 0 (IS g) := by
  obtain ⟨k12, k26, k46, k373, k374, k383, k384, k385, k386, k387, k762, k764, k765⟩ := is_c (g := g)
  have z : ∀ x : Nat, x ∈ [21, 22, 24, 25, 26, 27, 28, 29, 30, 31, 32, 33, 34, 35, 43, 46, 47, 49, 50, 55, 56, 58, 59, 60, 61, 62, 63, 64, 65, 67, 68, 69, 70, 71, 72, 73, 74, 77, 79, 80, 81, 82, 84, 101, 103, 104, 105, 106, 107, 108, 109, 110, 113, 115, 116, 117, 118, 119, 126, 127, 128, 129, 130, 131, 132] → IS g x = fun _ => 0 := fun x hx => is_z hx
  have o : ∀ j : Int, j ∈ [0, 3, 8, 10, 13, 18, 27, 41, 47, 48] → IS g 100 j = 0 := fun j hj => is_100 hj
  have hr : ∀ k : Int, 0 ≤ k → k < 5 → IS g 39 k = rkD k ∧ 0 ≤ IS g 39 k ∧ IS g 39 k ≤ 9 ∧ IS g 40 k = 1 := fun k k0 k1 => by
    have e := is_39 (g := g) k0 k1
    have y := hG.2.1 k.toNat (by omega)
    have w := rnk_D ⟨k.toNat, by omega⟩
    have v : rkD k = rnkL.getD k.toNat 0 := by
      rw [w]
      show rkD k = rkD ((k.toNat : Nat) : Int)
      rw [show ((k.toNat : Nat) : Int) = k by omega]
    have b : 0 ≤ rkD k ∧ rkD k ≤ 9 := by unfold rkD; (repeat' split) <;> omega
    rw [e.1, y, ← v]
    exact ⟨rfl, b.1, b.2, e.2⟩
  have o38 : ∀ q : Int, oid 0 q = 38 := fun q => by unfold oid; rw [if_neg (by omega)]
  have w39 : orw 38 0 = 39 := rfl
  have w40 : orw 38 1 = 40 := rfl
  have c67 : ∀ r : Nat, r < 8 → IS g (67 + r) = fun _ => 0 := fun r hr => by
    rcases (show r = 0 ∨ r = 1 ∨ r = 2 ∨ r = 3 ∨ r = 4 ∨ r = 5 ∨ r = 6 ∨ r = 7 by omega) with e | e | e | e | e | e | e | e <;> subst e <;> exact z _ (by decide)
  refine ⟨⟨⟨?_, by decide, ⟨?_, fun v v0 v1 => ?_, fun x x0 x1 => ?_⟩, ⟨?_, ?_, fun k k0 k1 => ?_⟩, ⟨?_, ?_, fun k k0 k1 => ?_⟩, ⟨k373, by decide, fun n => ?_⟩, fun m hm => absurd hm (Nat.not_lt_zero m), fun m hm => absurd hm (Nat.not_lt_zero m), fun m hm => absurd hm (Nat.not_lt_zero m), ?_⟩, ⟨⟨?_, ?_, ?_, ?_, ?_, ?_⟩, ⟨?_, ?_, ?_⟩, fun k => ?_, fun k => ?_⟩, ⟨⟨?_, by decide, fun q q0 q1 => ?_⟩, ?_, fun k hk => absurd hk (Nat.not_lt_zero k), fun q q0 q1 => ?_⟩, ⟨?_, fun m hm => absurd hm (Nat.not_lt_zero m)⟩, fun m hm => absurd hm (Nat.not_lt_zero m), ?_, k12⟩, ⟨⟨?_, fun j j0 j1 => ?_⟩, ?_, ?_⟩, ⟨fun i i0 i1 => ?_, ⟨fun i i0 i1 => ?_, fun j hj => ?_⟩, fun i i0 i1 => ?_, fun i i0 i1 k hk => ?_⟩, ⟨⟨?_, fun r hr => ?_⟩, ⟨?_, fun r r0 r1 => ?_, fun j j0 j1 => ?_⟩, ?_, fun r hr => ?_, fun r hr k k0 k1 => ⟨fun hlt => ?_, ?_⟩, fun r hr hle k k0 k1 => ?_⟩, ⟨⟨fun j j0 j1 => ?_, ?_, ?_⟩, ⟨fun j j0 j1 => ?_, ?_, ?_⟩, Or.inl k762, fun y => ?_, ?_, ?_, ?_⟩, ⟨0, ⟨?_, by decide, fun j hj => absurd hj (Nat.not_lt_zero j), fun j hj => absurd hj (Nat.not_lt_zero j), fun j hj => absurd hj (Nat.not_lt_zero j)⟩, ⟨?_, by decide, fun j hj => absurd hj (Nat.not_lt_zero j), fun j hj => absurd hj (Nat.not_lt_zero j), fun j hj => absurd hj (Nat.not_lt_zero j)⟩, Or.inl ?_, fun y => ?_, ?_, ?_, ?_⟩⟩
  · rw [z 43 (by decide)]; rfl
  · rw [z 21 (by decide)]; decide
  · rw [z 21 (by decide)] at v1; exact absurd v1 (by show ¬ v < 0; omega)
  · rw [z 22 (by decide), is_23]
    show 0 ≤ (0 : Int) ∧ (0 : Int) ≤ (if 0 ≤ x ∧ x < 8 then 1439 else 0) ∧ (if 0 ≤ x ∧ x < 8 then 1439 else 0) ≤ (1439 : Int)
    rw [if_pos ⟨x0, x1⟩]; decide
  · rw [z 28 (by decide)]; decide
  · rw [z 28 (by decide)]; decide
  · rw [z 28 (by decide)] at k1; exact absurd k1 (by show ¬ k < 0; omega)
  · rw [z 32 (by decide)]; decide
  · rw [z 32 (by decide)]; decide
  · rw [z 32 (by decide)] at k1; exact absurd k1 (by show ¬ k < 0; omega)
  · rw [o38]
    unfold OrdI
    rw [w39, w40, k383, k384, k385, k386, k387]
    exact ⟨by decide, by decide, by decide, by decide, by decide, fun k k0 k1 => ⟨(hr k k0 k1).2.1 |> fun a => ⟨a, (hr k k0 k1).2.2.1⟩, by rw [(hr k k0 k1).2.2.2]; decide⟩⟩
  · rw [z 43 (by decide)]; decide
  · rw [z 101 (by decide), z 22 (by decide)]
  · rw [is_102, is_23]
  · rw [z 103 (by decide), z 24 (by decide)]
  · rw [z 104 (by decide), z 25 (by decide)]
  · rw [z 105 (by decide), z 26 (by decide)]
  · rw [z 106 (by decide), z 27 (by decide)]
  · rw [o 3 (by decide), z 21 (by decide)]
  · rw [o 8 (by decide), z 28 (by decide)]
  · rw [o 10 (by decide), z 32 (by decide)]
  · rw [z 107 (by decide), z 29 (by decide), z 30 (by decide), z 31 (by decide)]; exact ⟨rfl, rfl, rfl⟩
  · rw [z 108 (by decide), z 33 (by decide), z 34 (by decide), z 35 (by decide)]; exact ⟨rfl, rfl, rfl⟩
  · rw [o 27 (by decide)]; rfl
  · exact absurd q1 (by show ¬ q < 0; omega)
  · rw [k26, k374]; decide
  · have eq : q = -1 := by have : q < 0 := q1; omega
    subst eq
    unfold relO lsO twO ngO nightX
    rw [o38, w39, w40, k383, k384, k385, k386, k387]
    refine ⟨fun k k0 k1 => (hr k k0 k1).1, fun k k0 k1 => (hr k k0 k1).2.2.2, rfl, rfl, fun a a0 a1 => ?_, fun k k0 k1 => ⟨fun y => ?_, fun y => Or.inl y⟩⟩
    · rw [if_neg (by decide)]
      exact ⟨fun _ => trivial, fun _ => ⟨a0, by omega⟩⟩
    · rcases y with y | y
      · exact y
      · exact absurd y (bt_0 k)
  · rw [o 13 (by decide)]; rfl
  · rw [o 0 (by decide), z 43 (by decide)]
  · rw [z 46 (by decide)]; decide
  · rw [z 47 (by decide)]; show 0 ≤ (0 : Int) ∧ (0 : Int) ≤ 255; decide
  · rw [o 18 (by decide), z 46 (by decide)]
  · rw [z 113 (by decide), z 47 (by decide)]
  · rw [z 50 (by decide)]; exact Or.inl rfl
  · rw [z 118 (by decide)]; exact Or.inl rfl
  · exact is_125 ⟨j, hj⟩
  · rw [z 118 (by decide), z 50 (by decide)]
  · rw [z 50 (by decide)] at hk; exact absurd hk (by show ¬ (k : Int) < 0; omega)
  · rw [z 55 (by decide)]; decide
  · rw [z 55 (by decide)] at hr; exact absurd hr (by show ¬ (r : Int) < 0; omega)
  · rw [o 41 (by decide)]; decide
  · rw [o 41 (by decide)] at r1; omega
  · rw [z 128 (by decide)]; show 0 ≤ (0 : Int) ∧ (0 : Int) < 8; decide
  · rw [o 41 (by decide), z 55 (by decide)]
  · rw [z 126 (by decide), z 56 (by decide)]
  · rw [z 55 (by decide)] at hlt; exact absurd hlt (by show ¬ (r : Int) < 0; omega)
  · rw [z 128 (by decide), c67 r hr]
  · rw [c67 r hr]
  · rw [z 77 (by decide)]; show 0 ≤ (0 : Int) ∧ (0 : Int) ≤ 999; decide
  · rw [k764]; decide
  · rw [k765]; decide
  · rw [z 129 (by decide)]; show 0 ≤ (0 : Int) ∧ (0 : Int) ≤ 999; decide
  · rw [k46]; decide
  · rw [o 47 (by decide)]; decide
  · rw [k762] at y; exact absurd y (by decide)
  · rw [z 129 (by decide), z 77 (by decide)]
  · rw [k46, k764]
  · rw [o 47 (by decide), k765]
  · rw [z 79 (by decide)]; rfl
  · rw [o 48 (by decide)]; rfl
  · rw [z 79 (by decide)]
  · rw [z 79 (by decide)] at y; exact absurd y (by decide)
  · rw [z 130 (by decide), z 80 (by decide)]
  · rw [z 131 (by decide), z 81 (by decide)]
  · rw [z 132 (by decide), z 82 (by decide)]
end
