/-! PAIRS: storm, let -/
section
variable {g : GH} {d nm no : Nat} {I J K : II}
theorem pr_storm {v f t r r2 : Int} (h : Inv nm no I)
    (q : r = aStop v f t (I 21 9) (I 43 5) (I 28 3) 12 ∧ ((0 ≤ r ∧ I 28 3 < 12 ∧ (0 ≤ v ∧ v < I 21 9) ∧ (I 43 5 ≤ f ∧ f ≤ t ∧ t ≤ 9000) ∧ J = (upI (upI (upI (upI I 29 (I 28 3) v) 30 (I 28 3) f) 31 (I 28 3) t) 28 3 (I 28 3 + 1))) ∨ (r < 0 ∧ J = I)))
    (q2 : r2 = aStop v f t (J 100 3) (J 100 0) (J 100 8) 12 ∧ ((0 ≤ r2 ∧ K = (upI (upI (upI (upI J 107 (3 * J 100 8) v) 107 (3 * J 100 8 + 1) f) 107 (3 * J 100 8 + 2) t) 100 8 (J 100 8 + 1))) ∨ (r2 < 0 ∧ K = J))) : r = r2 ∧ Inv nm no K := by
  obtain ⟨e, q⟩ := q
  obtain ⟨e2, q2⟩ := q2
  have hA := h.1
  have hR := hA.2.1
  have h0 := hA.2.2.2.2.2.1
  obtain ⟨⟨n1, n2, n3, n4, n5, n6⟩, ⟨w3, w8, w10⟩, c1, c2⟩ := hR
  have jo : ∀ x, (x < 28 ∨ 31 < x) → J x = I x := fun x hx => by
    rcases q with ⟨-, -, -, -, ej⟩ | ⟨-, ej⟩
    · rw [ej, upI_o (by omega), upI_o (by omega), upI_o (by omega), upI_o (by omega)]
    · rw [ej]
  have rr : r = r2 := by rw [e, e2, jo 100 (by omega), w3, h0, w8]
  refine ⟨rr, ?_⟩
  rcases q with ⟨cc, d12, dv, df, ej⟩ | ⟨cc, ej⟩
  · rcases q2 with ⟨d1, ek⟩ | ⟨d1, ek⟩
    · have ja : J 29 = upF (I 29) (I 28 3) v := by rw [ej, upI_o (by decide), upI_o (by decide), upI_o (by decide), upI_F]
      have jb : J 30 = upF (I 30) (I 28 3) f := by rw [ej, upI_o (by decide), upI_o (by decide), upI_F, upI_o (by decide)]
      have jc : J 31 = upF (I 31) (I 28 3) t := by rw [ej, upI_o (by decide), upI_F, upI_o (by decide), upI_o (by decide)]
      have j3 : J 28 3 = I 28 3 + 1 := by rw [ej, upI_s]
      clear ej
      rw [jo 100 (by omega), w8] at ek
      have kj : ∀ x, x ≠ 100 → x ≠ 107 → K x = J x := fun x a b => by rw [ek, upI_o a, upI_o b, upI_o b, upI_o b]
      have kk : ∀ x, (x < 28 ∨ (31 < x ∧ x < 100) ∨ (100 < x ∧ x < 107) ∨ 107 < x) → K x = I x := fun x hx => (kj x (by omega) (by omega)).trans (jo x (by omega))
      have ka : K 29 = upF (I 29) (I 28 3) v := by rw [kj 29 (by omega) (by omega), ja]
      have kb : K 30 = upF (I 30) (I 28 3) f := by rw [kj 30 (by omega) (by omega), jb]
      have kc : K 31 = upF (I 31) (I 28 3) t := by rw [kj 31 (by omega) (by omega), jc]
      have k3 : K 28 3 = I 28 3 + 1 := by rw [kj 28 (by omega) (by omega), j3]
      have kr : K 107 = upF (upF (upF (I 107) (3 * I 28 3) v) (3 * I 28 3 + 1) f) (3 * I 28 3 + 2) t := by rw [ek, upI_o (by decide), upI_F, upI_F, upI_F, jo 107 (by omega)]
      have kq : K 100 8 = I 28 3 + 1 := by rw [ek, upI_s]
      have k100 : ∀ j : Int, j ≠ 8 → K 100 j = I 100 j := fun j hj => by rw [ek, upI_j hj, upI_o (by decide), upI_o (by decide), upI_o (by decide), jo 100 (by omega)]
      clear ek
      obtain ⟨p1, p2, p3, p4, p5, p6, p7, p8, p9, p10⟩ := hA.1
      refine Inv_A h (fun x hx => kk x (by omega)) (fun j hj => k100 j (by omega)) (vA_mk hA (fun x hx => by unfold fB at hx; exact kk x (by omega)) ?_ ?_ ?_ (msgD_same hA (kk 43 (by omega)) (by rw [kk 21 (by omega)]) (kk 24 (by omega)) (kk 25 (by omega)) (fun m hm => kk _ (by omega))) (cacI_same hA (by rw [kk 21 (by omega)]) (kk 24 (by omega)) (kk 25 (by omega)) (kk 26 (by omega)) (fun m hm => kk _ (by omega))) ?_ (by rw [kk 37 (by omega), k100 26 (by decide)]; exact hA.2.2.1.2.1) (by rw [kk 37 (by omega)]) (k100 13 (by decide)) (k100 27 (by decide)) (k100 0 (by decide)) (k100 12 (by decide)))
      · unfold NetI at *
        rw [kk 21 (by omega), kk 22 (by omega), kk 23 (by omega), kk 24 (by omega), kk 25 (by omega), kk 26 (by omega), kk 27 (by omega)]; exact p3
      · have hW := p3.1
        have z := p4
        unfold StI at *
        rw [ka, kb, kc, k3]
        refine ⟨by omega, by omega, fun k k0 k1 => ?_⟩
        by_cases y : k = I 28 3
        · rw [y, upF_s, upF_s, upF_s]; exact ⟨by omega, by omega, by omega, by omega⟩
        · rw [upF_n y, upF_n y, upF_n y]; exact z.2.2 k k0 (by omega)
      · unfold StI at *
        rw [kk 32 (by omega), kk 33 (by omega), kk 34 (by omega), kk 35 (by omega)]; exact p5
      · have c1' : ∀ k : Int, K 107 (3 * k) = K 29 k ∧ K 107 (3 * k + 1) = K 30 k ∧ K 107 (3 * k + 2) = K 31 k := fun k => by
          rw [kr, ka, kb, kc]
          by_cases y : k = I 28 3
          · rw [y, upF_s, upF_s, upF_s, upF_n (by omega), upF_n (by omega), upF_s, upF_n (by omega), upF_s]
            exact ⟨rfl, rfl, upF_s.symm⟩
          · rw [upF_n y, upF_n y, upF_n y, upF_n (by omega), upF_n (by omega), upF_n (by omega), upF_n (by omega), upF_n (by omega), upF_n (by omega), upF_n (by omega), upF_n (by omega), upF_n (by omega)]
            exact c1 k
        have e1 : K 101 = K 22 ∧ K 102 = K 23 ∧ K 103 = K 24 ∧ K 104 = K 25 ∧ K 105 = K 26 ∧ K 106 = K 27 := by
          rw [kk 101 (by omega), kk 102 (by omega), kk 103 (by omega), kk 104 (by omega), kk 105 (by omega), kk 106 (by omega), kk 22 (by omega), kk 23 (by omega), kk 24 (by omega), kk 25 (by omega), kk 26 (by omega), kk 27 (by omega)]; exact ⟨n1, n2, n3, n4, n5, n6⟩
        have e3 : K 100 3 = K 21 9 := by rw [k100 3 (by decide), kk 21 (by omega)]; exact w3
        have eq : K 100 8 = K 28 3 := by rw [kq, k3]
        have eo : K 100 10 = K 32 3 := by rw [k100 10 (by decide), kk 32 (by omega)]; exact w10
        have c2' : ∀ k : Int, K 108 (3 * k) = K 33 k ∧ K 108 (3 * k + 1) = K 34 k ∧ K 108 (3 * k + 2) = K 35 k := fun k => by
          rw [kk 108 (by omega), kk 33 (by omega), kk 34 (by omega), kk 35 (by omega)]; exact c2 k
        exact ⟨e1, ⟨e3, eq, eo⟩, c1', c2'⟩
    · omega
  · rcases q2 with ⟨d1, ek⟩ | ⟨d1, ek⟩
    · omega
    · rw [ek, ej]; exact h
theorem pp_storm {v f t : Int} (hd : 4 ≤ d) : PR g d nm no mX11_storm mX12_storm [vi v, vi f, vi t] := fun I h => by
  have hA := h.1
  obtain ⟨p1, p2, p3, p4, p5, p6, p7, p8, p9, p10⟩ := hA.1
  have w := hA.2.1.2.1
  refine SI_mono (px_storm hd p3 ⟨p4.1, p4.2.1⟩) (fun r J q => ?_)
  have e : J 100 = I 100 := by
    rcases q.2 with ⟨-, -, -, -, ej⟩ | ⟨-, ej⟩
    · rw [ej, upI_o (by decide), upI_o (by decide), upI_o (by decide), upI_o (by decide)]
    · rw [ej]
  exact SI_mono (py_storm (by omega) (by rw [e, w.1]; exact p3.1) (by rw [e, w.2.1]; exact ⟨p4.1, p4.2.1⟩)) (fun r2 K q2 => pr_storm h q q2)
theorem pr_let {v f t r r2 : Int} (h : Inv nm no I)
    (q : r = aStop v f t (I 21 9) (I 43 5) (I 32 3) 6 ∧ ((0 ≤ r ∧ I 32 3 < 6 ∧ (0 ≤ v ∧ v < I 21 9) ∧ (I 43 5 ≤ f ∧ f ≤ t ∧ t ≤ 9000) ∧ J = (upI (upI (upI (upI I 33 (I 32 3) v) 34 (I 32 3) f) 35 (I 32 3) t) 32 3 (I 32 3 + 1))) ∨ (r < 0 ∧ J = I)))
    (q2 : r2 = aStop v f t (J 100 3) (J 100 0) (J 100 10) 6 ∧ ((0 ≤ r2 ∧ K = (upI (upI (upI (upI J 108 (3 * J 100 10) v) 108 (3 * J 100 10 + 1) f) 108 (3 * J 100 10 + 2) t) 100 10 (J 100 10 + 1))) ∨ (r2 < 0 ∧ K = J))) : r = r2 ∧ Inv nm no K := by
  obtain ⟨e, q⟩ := q
  obtain ⟨e2, q2⟩ := q2
  have hA := h.1
  have hR := hA.2.1
  have h0 := hA.2.2.2.2.2.1
  obtain ⟨⟨n1, n2, n3, n4, n5, n6⟩, ⟨w3, w8, w10⟩, c1, c2⟩ := hR
  have jo : ∀ x, (x < 32 ∨ 35 < x) → J x = I x := fun x hx => by
    rcases q with ⟨-, -, -, -, ej⟩ | ⟨-, ej⟩
    · rw [ej, upI_o (by omega), upI_o (by omega), upI_o (by omega), upI_o (by omega)]
    · rw [ej]
  have rr : r = r2 := by rw [e, e2, jo 100 (by omega), w3, h0, w10]
  refine ⟨rr, ?_⟩
  rcases q with ⟨cc, d12, dv, df, ej⟩ | ⟨cc, ej⟩
  · rcases q2 with ⟨d1, ek⟩ | ⟨d1, ek⟩
    · have ja : J 33 = upF (I 33) (I 32 3) v := by rw [ej, upI_o (by decide), upI_o (by decide), upI_o (by decide), upI_F]
      have jb : J 34 = upF (I 34) (I 32 3) f := by rw [ej, upI_o (by decide), upI_o (by decide), upI_F, upI_o (by decide)]
      have jc : J 35 = upF (I 35) (I 32 3) t := by rw [ej, upI_o (by decide), upI_F, upI_o (by decide), upI_o (by decide)]
      have j3 : J 32 3 = I 32 3 + 1 := by rw [ej, upI_s]
      clear ej
      rw [jo 100 (by omega), w10] at ek
      have kj : ∀ x, x ≠ 100 → x ≠ 108 → K x = J x := fun x a b => by rw [ek, upI_o a, upI_o b, upI_o b, upI_o b]
      have kk : ∀ x, (x < 32 ∨ (35 < x ∧ x < 100) ∨ (100 < x ∧ x < 108) ∨ 108 < x) → K x = I x := fun x hx => (kj x (by omega) (by omega)).trans (jo x (by omega))
      have ka : K 33 = upF (I 33) (I 32 3) v := by rw [kj 33 (by omega) (by omega), ja]
      have kb : K 34 = upF (I 34) (I 32 3) f := by rw [kj 34 (by omega) (by omega), jb]
      have kc : K 35 = upF (I 35) (I 32 3) t := by rw [kj 35 (by omega) (by omega), jc]
      have k3 : K 32 3 = I 32 3 + 1 := by rw [kj 32 (by omega) (by omega), j3]
      have kr : K 108 = upF (upF (upF (I 108) (3 * I 32 3) v) (3 * I 32 3 + 1) f) (3 * I 32 3 + 2) t := by rw [ek, upI_o (by decide), upI_F, upI_F, upI_F, jo 108 (by omega)]
      have kq : K 100 10 = I 32 3 + 1 := by rw [ek, upI_s]
      have k100 : ∀ j : Int, j ≠ 10 → K 100 j = I 100 j := fun j hj => by rw [ek, upI_j hj, upI_o (by decide), upI_o (by decide), upI_o (by decide), jo 100 (by omega)]
      clear ek
      obtain ⟨p1, p2, p3, p4, p5, p6, p7, p8, p9, p10⟩ := hA.1
      refine Inv_A h (fun x hx => kk x (by omega)) (fun j hj => k100 j (by omega)) (vA_mk hA (fun x hx => by unfold fB at hx; exact kk x (by omega)) ?_ ?_ ?_ (msgD_same hA (kk 43 (by omega)) (by rw [kk 21 (by omega)]) (kk 24 (by omega)) (kk 25 (by omega)) (fun m hm => kk _ (by omega))) (cacI_same hA (by rw [kk 21 (by omega)]) (kk 24 (by omega)) (kk 25 (by omega)) (kk 26 (by omega)) (fun m hm => kk _ (by omega))) ?_ (by rw [kk 37 (by omega), k100 26 (by decide)]; exact hA.2.2.1.2.1) (by rw [kk 37 (by omega)]) (k100 13 (by decide)) (k100 27 (by decide)) (k100 0 (by decide)) (k100 12 (by decide)))
      · unfold NetI at *
        rw [kk 21 (by omega), kk 22 (by omega), kk 23 (by omega), kk 24 (by omega), kk 25 (by omega), kk 26 (by omega), kk 27 (by omega)]; exact p3
      · unfold StI at *
        rw [kk 28 (by omega), kk 29 (by omega), kk 30 (by omega), kk 31 (by omega)]; exact p4
      · have hW := p3.1
        have z := p5
        unfold StI at *
        rw [ka, kb, kc, k3]
        refine ⟨by omega, by omega, fun k k0 k1 => ?_⟩
        by_cases y : k = I 32 3
        · rw [y, upF_s, upF_s, upF_s]; exact ⟨by omega, by omega, by omega, by omega⟩
        · rw [upF_n y, upF_n y, upF_n y]; exact z.2.2 k k0 (by omega)
      · have c1' : ∀ k : Int, K 108 (3 * k) = K 33 k ∧ K 108 (3 * k + 1) = K 34 k ∧ K 108 (3 * k + 2) = K 35 k := fun k => by
          rw [kr, ka, kb, kc]
          by_cases y : k = I 32 3
          · rw [y, upF_s, upF_s, upF_s, upF_n (by omega), upF_n (by omega), upF_s, upF_n (by omega), upF_s]
            exact ⟨rfl, rfl, upF_s.symm⟩
          · rw [upF_n y, upF_n y, upF_n y, upF_n (by omega), upF_n (by omega), upF_n (by omega), upF_n (by omega), upF_n (by omega), upF_n (by omega), upF_n (by omega), upF_n (by omega), upF_n (by omega)]
            exact c2 k
        have e1 : K 101 = K 22 ∧ K 102 = K 23 ∧ K 103 = K 24 ∧ K 104 = K 25 ∧ K 105 = K 26 ∧ K 106 = K 27 := by
          rw [kk 101 (by omega), kk 102 (by omega), kk 103 (by omega), kk 104 (by omega), kk 105 (by omega), kk 106 (by omega), kk 22 (by omega), kk 23 (by omega), kk 24 (by omega), kk 25 (by omega), kk 26 (by omega), kk 27 (by omega)]; exact ⟨n1, n2, n3, n4, n5, n6⟩
        have e3 : K 100 3 = K 21 9 := by rw [k100 3 (by decide), kk 21 (by omega)]; exact w3
        have eq : K 100 10 = K 32 3 := by rw [kq, k3]
        have eo : K 100 8 = K 28 3 := by rw [k100 8 (by decide), kk 28 (by omega)]; exact w8
        have c2' : ∀ k : Int, K 107 (3 * k) = K 29 k ∧ K 107 (3 * k + 1) = K 30 k ∧ K 107 (3 * k + 2) = K 31 k := fun k => by
          rw [kk 107 (by omega), kk 29 (by omega), kk 30 (by omega), kk 31 (by omega)]; exact c1 k
        exact ⟨e1, ⟨e3, eo, eq⟩, c2', c1'⟩
    · omega
  · rcases q2 with ⟨d1, ek⟩ | ⟨d1, ek⟩
    · omega
    · rw [ek, ej]; exact h
theorem pp_let {v f t : Int} (hd : 4 ≤ d) : PR g d nm no mX11_let mX12_let [vi v, vi f, vi t] := fun I h => by
  have hA := h.1
  obtain ⟨p1, p2, p3, p4, p5, p6, p7, p8, p9, p10⟩ := hA.1
  have w := hA.2.1.2.1
  refine SI_mono (px_let hd p3 ⟨p5.1, p5.2.1⟩) (fun r J q => ?_)
  have e : J 100 = I 100 := by
    rcases q.2 with ⟨-, -, -, -, ej⟩ | ⟨-, ej⟩
    · rw [ej, upI_o (by decide), upI_o (by decide), upI_o (by decide), upI_o (by decide)]
    · rw [ej]
  exact SI_mono (py_let (by omega) (by rw [e, w.1]; exact p3.1) (by rw [e, w.2.2]; exact ⟨p5.1, p5.2.1⟩)) (fun r2 K q2 => pr_let h q q2)
end
