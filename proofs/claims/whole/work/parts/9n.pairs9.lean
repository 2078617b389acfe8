/-! PAIRS: open, lag -/
section
variable {g : GH} {d nm no : Nat} {I J K : II}
theorem pr_open {o f t r r2 : Int} (h : Inv nm no I) (q : r = aOpen o f t ∧ ((r = 1 ∧ J = upI (upI I 22 o f) 23 o t) ∨ (r ≠ 1 ∧ J = I))) (q2 : r2 = aOpen o f t ∧ ((r2 = 1 ∧ K = upI (upI J 101 o f) 102 o t) ∨ (r2 ≠ 1 ∧ K = J))) : r = r2 ∧ Inv nm no K := by
  obtain ⟨e, q⟩ := q
  obtain ⟨e2, q2⟩ := q2
  have rr : r = r2 := by omega
  refine ⟨rr, ?_⟩
  rcases q with ⟨c, ej⟩ | ⟨c, ej⟩
  · rcases q2 with ⟨c2, ek⟩ | ⟨c2, ek⟩
    · have hb : (0 ≤ o ∧ o ≤ 7) ∧ (0 ≤ f ∧ f ≤ t ∧ t ≤ 1439) := by
        rw [c] at e
        unfold aOpen at e
        split at e
        · split at e
          · omega
          · omega
        · omega
      have ko : ∀ x, x ≠ 22 → x ≠ 23 → x ≠ 101 → x ≠ 102 → K x = I x := fun x a b c d => by rw [ek, upI_o d, upI_o c, ej, upI_o b, upI_o a]
      have k22 : K 22 = upF (I 22) o f := by rw [ek, upI_o (by decide), upI_o (by decide), ej, upI_o (by decide), upI_F]
      have k23 : K 23 = upF (I 23) o t := by rw [ek, upI_o (by decide), upI_o (by decide), ej, upI_F, upI_o (by decide)]
      have k101 : K 101 = upF (I 101) o f := by rw [ek, upI_o (by decide), upI_F, ej, upI_o (by decide), upI_o (by decide)]
      have k102 : K 102 = upF (I 102) o t := by rw [ek, upI_F, upI_o (by decide), ej, upI_o (by decide), upI_o (by decide)]
      have hA := h.1
      have kk : ∀ x, (23 < x ∧ x < 101) ∨ 102 < x ∨ x < 22 → K x = I x := fun x hx => ko x (by omega) (by omega) (by omega) (by omega)
      obtain ⟨p1, p2, p3, p4, p5, p6, p7, p8, p9, p10⟩ := hA.1
      refine Inv_A h (fun x hx => kk x (by omega)) (fun j _ => by rw [kk 100 (by omega)]) (vA_mk hA (fun x hx => kk x (by unfold fB at hx; omega)) ?_ ?_ ?_ (msgD_same hA (kk 43 (by omega)) (by rw [kk 21 (by omega)]) (kk 24 (by omega)) (kk 25 (by omega)) (fun m hm => kk _ (by omega))) (cacI_same hA (by rw [kk 21 (by omega)]) (kk 24 (by omega)) (kk 25 (by omega)) (kk 26 (by omega)) (fun m hm => kk _ (by omega))) ?_ (by rw [kk 37 (by omega), kk 100 (by omega)]; exact hA.2.2.1.2.1) (by rw [kk 37 (by omega)]) (by rw [kk 100 (by omega)]) (by rw [kk 100 (by omega)]) (by rw [kk 100 (by omega)]) (by rw [kk 100 (by omega)]))
      · unfold NetI
        rw [kk 21 (by omega), k22, k23, kk 24 (by omega), kk 25 (by omega), kk 26 (by omega), kk 27 (by omega)]
        refine ⟨p3.1, p3.2.1, fun x x0 x1 => ?_⟩
        have z := p3.2.2 x x0 x1
        unfold upF
        split
        · omega
        · exact z
      · unfold StI at *
        rw [kk 28 (by omega), kk 29 (by omega), kk 30 (by omega), kk 31 (by omega)]; exact p4
      · unfold StI at *
        rw [kk 32 (by omega), kk 33 (by omega), kk 34 (by omega), kk 35 (by omega)]; exact p5
      · have z := hA.2.1
        unfold rNet at *
        rw [k101, k102, k22, k23, kk 103 (by omega), kk 104 (by omega), kk 105 (by omega), kk 106 (by omega), kk 107 (by omega), kk 108 (by omega), kk 100 (by omega), kk 21 (by omega), kk 24 (by omega), kk 25 (by omega), kk 26 (by omega), kk 27 (by omega), kk 28 (by omega), kk 29 (by omega), kk 30 (by omega), kk 31 (by omega), kk 32 (by omega), kk 33 (by omega), kk 34 (by omega), kk 35 (by omega), z.1.1, z.1.2.1]
        exact ⟨⟨rfl, rfl, z.1.2.2⟩, z.2⟩
    · omega
  · rcases q2 with ⟨c2, ek⟩ | ⟨c2, ek⟩
    · omega
    · rw [ek, ej]; exact h
theorem pp_open {o f t : Int} (hd : 2 ≤ d) : PR g d nm no mX11_open mX12_open [vi o, vi f, vi t] := fun I h => SI_mono (px_open hd) (fun r J q => SI_mono (py_open hd) (fun r2 K q2 => pr_open h q q2))
theorem pr_lag {v r r2 : Int} (h : Inv nm no I) (q : r = aLag v (I 37 4) ∧ (((0 ≤ v ∧ v ≤ 99) ∧ J = upI I 37 4 v) ∨ (¬ (0 ≤ v ∧ v ≤ 99) ∧ J = I))) (q2 : r2 = aLag v (J 100 26) ∧ (((0 ≤ v ∧ v ≤ 99) ∧ K = upI J 100 26 v) ∨ (¬ (0 ≤ v ∧ v ≤ 99) ∧ K = J))) : r = r2 ∧ Inv nm no K := by
  obtain ⟨e, q⟩ := q
  obtain ⟨e2, q2⟩ := q2
  have hA := h.1
  have l2 := hA.2.2.1.2.1
  rcases q with ⟨c, ej⟩ | ⟨c, ej⟩
  · rcases q2 with ⟨c2, ek⟩ | ⟨c2, ek⟩
    · have rr : r = r2 := by rw [e, e2, ej, upI_o (by decide), l2.1]
      refine ⟨rr, ?_⟩
      have kk : ∀ x, x ≠ 37 → x ≠ 100 → K x = I x := fun x a b => by rw [ek, upI_o b, ej, upI_o a]
      have k37 : ∀ j : Int, j ≠ 4 → K 37 j = I 37 j := fun j hj => by rw [ek, upI_o (by decide), ej, upI_j hj]
      have k100 : ∀ j : Int, j ≠ 26 → K 100 j = I 100 j := fun j hj => by rw [ek, upI_j hj, ej, upI_o (by decide)]
      have k374 : K 37 4 = v := by rw [ek, upI_o (by decide), ej, upI_s]
      have k26 : K 100 26 = v := by rw [ek, upI_s]
      obtain ⟨p1, p2, p3, p4, p5, p6, p7, p8, p9, p10⟩ := hA.1
      refine Inv_A h (fun x hx => kk x (by omega) (by omega)) (fun j hj => k100 j (by omega)) (vA_mk hA (fun x hx => kk x (by unfold fB at hx; omega) (by unfold fB at hx; omega)) ?_ ?_ ?_ (msgD_same hA (kk 43 (by omega) (by omega)) (by rw [kk 21 (by omega) (by omega)]) (kk 24 (by omega) (by omega)) (kk 25 (by omega) (by omega)) (fun m hm => kk _ (by omega) (by omega))) (cacI_same hA (by rw [kk 21 (by omega) (by omega)]) (kk 24 (by omega) (by omega)) (kk 25 (by omega) (by omega)) (kk 26 (by omega) (by omega)) (fun m hm => kk _ (by omega) (by omega))) ?_ (by rw [k374, k26]; exact ⟨rfl, c⟩) (k37 3 (by decide)) (k100 13 (by decide)) (k100 27 (by decide)) (k100 0 (by decide)) (k100 12 (by decide)))
      · unfold NetI at *
        rw [kk 21 (by omega) (by omega), kk 22 (by omega) (by omega), kk 23 (by omega) (by omega), kk 24 (by omega) (by omega), kk 25 (by omega) (by omega), kk 26 (by omega) (by omega), kk 27 (by omega) (by omega)]; exact p3
      · unfold StI at *
        rw [kk 28 (by omega) (by omega), kk 29 (by omega) (by omega), kk 30 (by omega) (by omega), kk 31 (by omega) (by omega)]; exact p4
      · unfold StI at *
        rw [kk 32 (by omega) (by omega), kk 33 (by omega) (by omega), kk 34 (by omega) (by omega), kk 35 (by omega) (by omega)]; exact p5
      · have z := hA.2.1
        unfold rNet at *
        rw [kk 101 (by omega) (by omega), kk 102 (by omega) (by omega), kk 103 (by omega) (by omega), kk 104 (by omega) (by omega), kk 105 (by omega) (by omega), kk 106 (by omega) (by omega), kk 107 (by omega) (by omega), kk 108 (by omega) (by omega), k100 3 (by omega), k100 8 (by omega), k100 10 (by omega), kk 21 (by omega) (by omega), kk 22 (by omega) (by omega), kk 23 (by omega) (by omega), kk 24 (by omega) (by omega), kk 25 (by omega) (by omega), kk 26 (by omega) (by omega), kk 27 (by omega) (by omega), kk 28 (by omega) (by omega), kk 29 (by omega) (by omega), kk 30 (by omega) (by omega), kk 31 (by omega) (by omega), kk 32 (by omega) (by omega), kk 33 (by omega) (by omega), kk 34 (by omega) (by omega), kk 35 (by omega) (by omega)]
        exact z
    · exact absurd c c2
  · rcases q2 with ⟨c2, ek⟩ | ⟨c2, ek⟩
    · exact absurd c2 c
    · refine ⟨by rw [e, e2, ej, l2.1], ?_⟩
      rw [ek, ej]; exact h
theorem pp_lag {v : Int} (hd : 1 ≤ d) : PR g d nm no mX11_lag mX12_lag [vi v] := fun I h => SI_mono (px_lag hd) (fun r J q => SI_mono (py_lag hd) (fun r2 K q2 => pr_lag h q q2))
end
