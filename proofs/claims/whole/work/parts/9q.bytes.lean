/-! PAIRS: write, word, far, likely -/
section
variable {g : GH} {d nm no : Nat} {I J K : II}
theorem wsI_F {o : Nat} {b n : Int} {f : Int → Int} : wsI I o b n f o = fun j => if b ≤ j ∧ j < b + n then f (j - b) else I o j := by
  funext j
  by_cases z : b ≤ j ∧ j < b + n
  · rw [wsI_in z, if_pos z]
  · rw [wsI_out z, if_neg z]
theorem pr_write {a n r r2 : Int} (h : Inv nm no I) (q : r = aWrite n (I 46 1) ∧ ((0 ≤ r ∧ J = upI (wsI I 47 (I 46 1) n (byF a)) 46 1 (I 46 1 + n)) ∨ (r < 0 ∧ J = I))) (q2 : r2 = aWrite n (J 100 18) ∧ ((0 ≤ r2 ∧ K = upI (wsI J 113 (J 100 18) n (byF a)) 100 18 (J 100 18 + n)) ∨ (r2 < 0 ∧ K = J))) : r = r2 ∧ Inv nm no K := by
  obtain ⟨e, q⟩ := q
  obtain ⟨e2, q2⟩ := q2
  obtain ⟨t1, t2, t3⟩ := h.2.1
  have jo : ∀ x, x ≠ 46 → x ≠ 47 → J x = I x := fun x a b => by
    rcases q with ⟨-, ej⟩ | ⟨-, ej⟩
    · rw [ej, upI_o a, wsI_o b]
    · rw [ej]
  have rr : r = r2 := by rw [e, e2, jo 100 (by decide) (by decide), t2]
  refine ⟨rr, ?_⟩
  rcases q with ⟨c, ej⟩ | ⟨c, ej⟩
  · rcases q2 with ⟨c2, ek⟩ | ⟨c2, ek⟩
    · have hn : (1 ≤ n ∧ n ≤ 8) ∧ I 46 1 + n ≤ 160 := by
        unfold aWrite at e
        split at e
        · split at e <;> omega
        · omega
      rw [jo 100 (by decide) (by decide), t2] at ek
      have k46 : K 46 1 = I 46 1 + n := by rw [ek, upI_o (by decide), wsI_o (by decide), ej, upI_s]
      have k47 : K 47 = fun j => if I 46 1 ≤ j ∧ j < I 46 1 + n then byF a (j - I 46 1) else I 47 j := by rw [ek, upI_o (by decide), wsI_o (by decide), ej, upI_o (by decide), wsI_F]
      have k113 : K 113 = fun j => if I 46 1 ≤ j ∧ j < I 46 1 + n then byF a (j - I 46 1) else I 47 j := by rw [ek, upI_o (by decide), wsI_F, jo 113 (by decide) (by decide), t3]
      have k18 : K 100 18 = I 46 1 + n := by rw [ek, upI_s]
      refine Inv_T h (fun x hx => ?_) (fun j hj => ?_) ⟨⟨by rw [k46]; have := t1.1; omega, fun j j0 j1 => ?_⟩, by rw [k18, k46], by rw [k113, k47]⟩
      · rw [ek, upI_o (by omega), wsI_o (by omega)]; exact jo x (by omega) (by omega)
      · rw [ek, upI_j (by omega), wsI_o (by decide), jo 100 (by decide) (by decide)]
      · rw [k47]
        show 0 ≤ (if I 46 1 ≤ j ∧ j < I 46 1 + n then byF a (j - I 46 1) else I 47 j) ∧ (if I 46 1 ≤ j ∧ j < I 46 1 + n then byF a (j - I 46 1) else I 47 j) ≤ 255
        split
        · exact by_bd _ _
        · exact t1.2 j j0 j1
    · omega
  · rcases q2 with ⟨c2, ek⟩ | ⟨c2, ek⟩
    · omega
    · rw [ek, ej]; exact h
theorem pp_write {a n : Int} (hd : 2 ≤ d) : PR g d nm no mX11_write mX12_write [vl a, vi n] := fun I h => by
  obtain ⟨t1, t2, t3⟩ := h.2.1
  refine SI_mono (px_write hd t1.1) (fun r J q => SI_mono (py_write (by omega) ?_) (fun r2 K q2 => pr_write h q q2))
  have e : J 100 = I 100 := by
    rcases q.2 with ⟨-, ej⟩ | ⟨-, ej⟩
    · rw [ej, upI_o (by decide), wsI_o (by decide)]
    · rw [ej]
  rw [e, t2]; exact t1.1
theorem pr_word {i a n r r2 : Int} (h : Inv nm no I) (q : r = aWord i (isw a n) ∧ (((0 ≤ i ∧ i ≤ 15) ∧ isw a n ∧ J = upI (upI I 49 i a) 50 i n) ∨ (¬ ((0 ≤ i ∧ i ≤ 15) ∧ isw a n) ∧ J = I))) (q2 : r2 = aWord i (isw a n) ∧ (((0 ≤ i ∧ i ≤ 15) ∧ isw a n ∧ ∃ L : II, (∀ x, x ≠ 120 → L x = J x) ∧ (∀ k, 0 ≤ k → k < n → L 120 k = byF a k) ∧ K = wsI (upI L 118 i n) 119 (8 * i) n (L 120)) ∨ (¬ ((0 ≤ i ∧ i ≤ 15) ∧ isw a n) ∧ ∀ x, x ≠ 120 → K x = J x))) : r = r2 ∧ Inv nm no K := by
  obtain ⟨e, q⟩ := q
  obtain ⟨e2, q2⟩ := q2
  refine ⟨by rw [e, e2], ?_⟩
  obtain ⟨b1, b2, b3, b4⟩ := h.2.2.1
  rcases q with ⟨c, cw, ej⟩ | ⟨c, ej⟩
  · rcases q2 with ⟨c2, cw2, L, l1, l2, ek⟩ | ⟨c2, ek⟩
    · have kk : ∀ x, x ≠ 49 → x ≠ 50 → x ≠ 118 → x ≠ 119 → x ≠ 120 → K x = I x := fun x a1 a2 a3 a4 a5 => by rw [ek, wsI_o a4, upI_o a3, l1 x a5, ej, upI_o a2, upI_o a1]
      have k49 : K 49 = upF (I 49) i a := by rw [ek, wsI_o (by decide), upI_o (by decide), l1 49 (by decide), ej, upI_o (by decide), upI_F]
      have k50 : K 50 = upF (I 50) i n := by rw [ek, wsI_o (by decide), upI_o (by decide), l1 50 (by decide), ej, upI_F, upI_o (by decide)]
      have k118 : K 118 = upF (I 118) i n := by rw [ek, wsI_o (by decide), upI_F, l1 118 (by decide), ej, upI_o (by decide), upI_o (by decide)]
      have k119 : K 119 = fun j => if 8 * i ≤ j ∧ j < 8 * i + n then L 120 (j - 8 * i) else I 119 j := by rw [ek, wsI_F, upI_o (by decide), l1 119 (by decide), ej, upI_o (by decide), upI_o (by decide)]
      have k119a : ∀ k : Nat, (k : Int) < n → K 119 (8 * i + k) = byF a k := fun k hk => by
        rw [k119]
        show (if 8 * i ≤ 8 * i + (k : Int) ∧ 8 * i + (k : Int) < 8 * i + n then L 120 (8 * i + (k : Int) - 8 * i) else _) = _
        rw [if_pos ⟨by omega, by omega⟩, show 8 * i + (k : Int) - 8 * i = k by omega]
        exact l2 k (by omega) hk
      have k119b : ∀ (i' : Int) (k : Nat), i' ≠ i → (k : Int) < 8 → K 119 (8 * i' + k) = I 119 (8 * i' + k) := fun i' k hi hk => by
        have := cw.1
        rw [k119]
        show (if 8 * i ≤ 8 * i' + (k : Int) ∧ 8 * i' + (k : Int) < 8 * i + n then L 120 (8 * i' + (k : Int) - 8 * i) else _) = _
        rw [if_neg (by omega)]
      refine Inv_B h (fun x hx => kk x (by omega) (by omega) (by omega) (by omega) (by omega)) (fun j _ => by rw [kk 100 (by omega) (by omega) (by omega) (by omega) (by omega)]) ⟨fun x x0 x1 => ?_, ⟨fun x x0 x1 => ?_, by rw [kk 125 (by omega) (by omega) (by omega) (by omega) (by omega)]; exact b2.2⟩, fun x x0 x1 => ?_, fun x x0 x1 k hk => ?_⟩
      · rw [k49, k50]
        by_cases z : x = i
        · rw [z, upF_s, upF_s]; exact Or.inr cw
        · rw [upF_n z, upF_n z]; exact b1 x x0 x1
      · by_cases z : x = i
        · rw [z, k118, upF_s]
          refine Or.inr ⟨cw.1, fun k hk => ?_⟩
          rw [k119a k hk]; exact cw.2 k (by omega) hk
        · rw [k118, upF_n z]
          rcases b2.1 x x0 x1 with y | y
          · exact Or.inl y
          · refine Or.inr ⟨y.1, fun k hk => ?_⟩
            rw [k119b x k z (by omega)]; exact y.2 k hk
      · rw [k118, k50]
        by_cases z : x = i
        · rw [z, upF_s, upF_s]
        · rw [upF_n z, upF_n z]; exact b3 x x0 x1
      · rw [k50] at hk
        by_cases z : x = i
        · rw [z, upF_s] at hk
          rw [z, k119a k hk, k49, upF_s]
        · rw [upF_n z] at hk
          have y := b1 x x0 x1
          rw [k119b x k z (by rcases y with y | y; omega; have := y.1; omega), k49, upF_n z]; exact b4 x x0 x1 k hk
    · exact absurd ⟨c, cw⟩ c2
  · rcases q2 with ⟨c2, cw2, -⟩ | ⟨c2, ek⟩
    · exact absurd ⟨c2, cw2⟩ c
    · rw [ej] at ek
      exact Inv_B h (fun x hx => ek x (by omega)) (fun j _ => by rw [ek 100 (by decide)]) (vB_fr h.2.2.1 (ek 49 (by decide)) (ek 50 (by decide)) (ek 118 (by decide)) (ek 119 (by decide)) (ek 125 (by decide)))
theorem pp_word {i a n : Int} (hd : 2 ≤ d) : PR g d nm no mX11_word mX12_word [vi i, vl a, vi n] := fun I h => SI_mono (px_word hd) (fun r J q => SI_mono (py_word hd) (fun r2 K q2 => pr_word h q q2))
theorem dm_dc (h : vB I) {la : List Int} {i : Nat} (hi : i < 16) : dmF I la i = dcF I la i := by
  obtain ⟨b1, b2, b3, b4⟩ := h
  have e := b3 i (by omega) (by omega)
  unfold dmF dcF
  rw [dsF_sym la, e, wlF_congr (f' := ltF (I 49 i)) _ (fun k hk => ?_)]
  show (I 119 (8 * (i : Int) + k) - 97).toNat = (byF (I 49 i) k - 97).toNat
  rw [b4 i (by omega) (by omega) k (by omega)]
theorem dmF_fr {la : List Int} {i : Nat} (e1 : J 118 = I 118) (e2 : J 119 = I 119) : dmF J la i = dmF I la i := by unfold dmF; rw [e1, e2]
theorem lkF_s {D : Nat → Int} {s s' : Int → Int} {i : Nat} : ∀ n : Nat, (∀ j : Nat, j < n → s j = s' j) → lkF D s i n = lkF D s' i n
  | 0, _ => rfl
  | n + 1, h => by
    unfold lkF
    rw [lkF_s n (fun j hj => h j (by omega)), h n (by omega)]
theorem liF_s {D : Nat → Int} {s s' : Int → Int} {k : Int} (h : ∀ j : Nat, j < 16 → s j = s' j) : liF D s k = liF D s' k := by
  refine fwF_congr 16 (fun i hi => ?_)
  show bI (s i ≠ 0 ∧ lkF D s (i : Int).toNat 16 = k) = bI (s' i ≠ 0 ∧ lkF D s' (i : Int).toNat 16 = k)
  rw [lkF_s 16 h, h i hi]
theorem szF_s {s s' : Int → Int} : ∀ n : Nat, (∀ j : Nat, j < n → s j = s' j) → szF s n = szF s' n
  | 0, _ => rfl
  | n + 1, h => by
    unfold szF
    rw [szF_s n (fun j hj => h j (by omega)), h n (by omega)]
theorem Inv_Bs (h : Inv nm no I) (e : ∀ x, ¬ (x = 48 ∨ (51 ≤ x ∧ x ≤ 54) ∨ (120 ≤ x ∧ x ≤ 124)) → J x = I x) : Inv nm no J :=
  Inv_B h (fun x hx => e x (by omega)) (fun j _ => by rw [e 100 (by omega)]) (vB_fr h.2.2.1 (e 49 (by omega)) (e 50 (by omega)) (e 118 (by omega)) (e 119 (by omega)) (e 125 (by omega)))
theorem pp_far {i a n : Int} (hd : 3 ≤ d) (hG : GvI g) : PR g d nm no mX11_far mX12_far [vi i, vl a, vi n] := fun I h => by
  have hB := h.2.2.1
  refine SI_mono (px_far hd hG hB.1) (fun r J q => ?_)
  obtain ⟨e, q1, q2⟩ := q
  have hB2 : BkM J := by
    have z := hB.2.1
    unfold BkM at *
    rw [q1 118 (by decide) (by decide) (by decide) (by decide), q1 119 (by decide) (by decide) (by decide) (by decide), q1 125 (by decide) (by decide) (by decide) (by decide)]; exact z
  refine SI_mono (py_far (by omega) hB2) (fun r2 K p => ?_)
  obtain ⟨e2, p1⟩ := p
  refine ⟨?_, Inv_Bs h (fun x hx => by rw [p1 x (by omega) (by omega) (by omega) (by omega) (by omega)]; exact q1 x (by omega) (by omega) (by omega) (by omega))⟩
  rw [e, e2, q1 118 (by decide) (by decide) (by decide) (by decide), dmF_fr (q1 118 (by decide) (by decide) (by decide) (by decide)) (q1 119 (by decide) (by decide) (by decide) (by decide))]
  unfold aFar
  by_cases c : 0 ≤ i ∧ i ≤ 15
  · rw [hB.2.2.1 i c.1 (by omega), dm_dc hB (show i.toNat < 16 by omega)]
  · rw [if_neg (fun z => c z.1), if_neg (fun z => c z.1)]
theorem pp_likely {a n k : Int} (hd : 4 ≤ d) (hG : GvI g) : PR g d nm no mX11_likely mX12_likely [vl a, vi n, vi k] := fun I h => by
  have hB := h.2.2.1
  refine SI_mono (px_likely hd hG hB.1) (fun r J q => ?_)
  obtain ⟨e, q1, q2⟩ := q
  have hB2 : BkM J := by
    have z := hB.2.1
    unfold BkM at *
    rw [q1 118 (by decide) (by decide) (by decide) (by decide) (by decide), q1 119 (by decide) (by decide) (by decide) (by decide) (by decide), q1 125 (by decide) (by decide) (by decide) (by decide) (by decide)]; exact z
  refine SI_mono (py_likely (by omega) hB2) (fun r2 K p => ?_)
  obtain ⟨e2, p1⟩ := p
  refine ⟨?_, Inv_Bs h (fun x hx => by rw [p1 x (by omega) (by omega) (by omega) (by omega) (by omega)]; exact q1 x (by omega) (by omega) (by omega) (by omega) (by omega))⟩
  have e3 : liF (dmF J (wlF (ltF a) n.toNat)) (J 118) k = liF (dcF I (wlF (ltF a) n.toNat)) (I 50) k := by
    rw [q1 118 (by decide) (by decide) (by decide) (by decide) (by decide), liF_s (s' := I 50) (fun j hj => hB.2.2.1 j (by omega) (by omega))]
    refine liF_congr (fun j hj _ => ?_)
    rw [dmF_fr (q1 118 (by decide) (by decide) (by decide) (by decide) (by decide)) (q1 119 (by decide) (by decide) (by decide) (by decide) (by decide)), dm_dc hB hj]
  rw [e, e2, e3]
end
