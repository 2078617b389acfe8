/-! PAIRS: count, told, back -/
section
variable {g : GH} {d nm no : Nat} {I J K : II}
theorem pp_count {k : Int} (hd : 1 ≤ d) : PR g d nm no mX11_count mX12_count [vi k] := fun I h => by
  have hA := h.1
  obtain ⟨hP, hN, hL, hM, hD, h0, h12⟩ := hA
  obtain ⟨p1, p2, p3, p4, p5, p6, p7, p8, p9, p10⟩ := hP
  obtain ⟨t1, t2, t3⟩ := h.2.1
  obtain ⟨b1, b2, b3, b4⟩ := h.2.2.1
  obtain ⟨a1, a2, a3, -⟩ := h.2.2.2.1
  obtain ⟨n, c1, c2, -⟩ := h.2.2.2.2.2
  refine SI_mono (SI_of (px_count hd p1 p2 (fun m hm => (p7 m hm).2.2.2.1))) (fun r J q => ?_)
  obtain ⟨e, ej⟩ := q
  subst ej
  refine SI_mono (SI_of (py_count hd hM.1 p2 (fun m hm => ?_) (fun j hj => ?_))) (fun r2 K q2 => ?_)
  · rw [(hM.2 m hm).2.2.2.2]; exact (p7 m hm).2.2.2.1
  · rw [b3 j (by omega) (by omega)]
    rcases b1 j (by omega) (by omega) with z | z
    · omega
    · have := z.1; omega
  · obtain ⟨e2, ek⟩ := q2
    subst ek
    refine ⟨?_, h⟩
    rw [e, e2, h0, hN.2.1.1, hM.1, p1, hL.1.1, p6.1, t2, a3, c1.1, c2.1, cntP_D, cntP_D, suF_eq nm (fun m hm => (hM.2 m hm).2.2.2.2), szF_s 16 (s := K 118) (s' := K 50) (fun j hj => b3 j (by omega) (by omega)), cntD_congr (D := stM K) (D' := vX K) nm (fun m hm => by rw [hD m hm]), cntD_congr (D := stM K) (D' := vX K) nm (fun m hm => by rw [hD m hm])]
theorem pp_told {k what kind : Int} (hd : 3 ≤ d) : PR g d nm no mX11_told mX12_told [vi k, vi what, vi kind] := fun I h => by
  have hA := h.1
  have hL := hA.2.2.1
  refine SI_mono (SI_of (px_told hd hA.1.2.1 hA.1.2.2.2.2.2.1)) (fun r J q => ?_)
  obtain ⟨e, ej⟩ := q
  subst ej
  refine SI_mono (SI_of (py_told (by omega) hL.1)) (fun r2 K q2 => ?_)
  obtain ⟨e2, ek⟩ := q2
  subst ek
  refine ⟨?_, h⟩
  rw [e, e2]
  unfold aTold
  by_cases c : -1 ≤ k ∧ k ≤ no - 1
  · rw [if_pos c, if_pos c]
    obtain ⟨r1, r3, r4, r5, r6, r7⟩ := hL.2.2.2 k c.1 (by omega)
    by_cases c2 : (0 ≤ what ∧ what ≤ 5) ∧ (0 ≤ kind ∧ kind ≤ (if what = 5 then 23 else if what ≤ 2 then 4 else 0))
    · rw [if_pos c2, if_pos c2]
      by_cases w0 : what = 0
      · rw [if_pos w0, if_pos w0]
        rw [if_neg (by omega), if_pos (by omega)] at c2
        exact r1 kind (by omega) (by omega)
      · rw [if_neg w0, if_neg w0]
        by_cases w1 : what = 1
        · rw [if_pos w1, if_pos w1]
          rw [if_neg (by omega), if_pos (by omega)] at c2
          exact r3 kind (by omega) (by omega)
        · rw [if_neg w1, if_neg w1]
          by_cases w2 : what = 2
          · rw [if_pos w2, if_pos w2]
            rw [if_neg (by omega), if_pos (by omega)] at c2
            exact bP_iff (r7 kind (by omega) (by omega))
          · rw [if_neg w2, if_neg w2]
            by_cases w3 : what = 3
            · rw [if_pos w3, if_pos w3]; exact r4
            · rw [if_neg w3, if_neg w3]
              by_cases w4 : what = 4
              · rw [if_pos w4, if_pos w4]; exact r5
              · rw [if_neg w4, if_neg w4]
                rw [if_pos (by omega)] at c2
                exact bP_iff (r6 kind (by omega) (by omega))
    · rw [if_neg c2, if_neg c2]
  · rw [if_neg c, if_neg c]
theorem pp_back {m : Int} (hd : 3 ≤ d) : PR g d nm no mX11_back mX12_back [vi m] := fun I h => by
  have hA := h.1
  obtain ⟨hP, hN, hL, hM, hD, h0, h12⟩ := hA
  refine SI_mono (SI_of (px_back hd hP)) (fun r J q => ?_)
  obtain ⟨e, ej⟩ := q
  subst ej
  refine SI_mono (SI_of (py_back (by omega) (Inv_Stt h))) (fun r2 K q2 => ?_)
  obtain ⟨e2, ek⟩ := q2
  subst ek
  refine ⟨?_, h⟩
  rw [e, e2]
  unfold aBack
  by_cases c : 0 ≤ m ∧ m ≤ nm - 1
  · rw [if_pos c, if_pos c]
    obtain ⟨i, ei⟩ : ∃ i : Nat, m = i := ⟨m.toNat, by omega⟩
    subst ei
    rw [Int.toNat_natCast]
    have z := hM.2 i (by omega)
    have s := (hP.2.2.2.2.2.2.1 i (by omega)).1
    rw [z.2.2.2.2, z.1, h0, ob_gb hL s]
    have hb := gbF_bd K (K (200 + i) 0) (K 43 5) no
    rw [(hL.2.2.2 _ hb.1 hb.2).2.2.2.1]
  · rw [if_neg c, if_neg c]
end
