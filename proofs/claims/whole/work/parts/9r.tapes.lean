/-! PAIRS: row, tape, clerk, lead -/
section
variable {g : GH} {d nm no : Nat} {I J K : II}
theorem rwI_F {o : Nat} {b v n : Int} : rwI I o b v n o = fun j => if b ≤ j ∧ j < b + n then v else I o j := by
  funext j
  by_cases z : b ≤ j ∧ j < b + n
  · rw [if_pos z]; exact if_pos ⟨rfl, z⟩
  · rw [if_neg z]; exact if_neg fun w => z w.2
theorem pr_row {n v v2 : Int} {r : Nat} (h : Inv nm no I) (hc : I 55 4 = r) (hr : r ≤ 8)
    (q : (¬ (2 ≤ n ∧ n ≤ 7) ∧ v = -3 ∧ J = I) ∨ ((2 ≤ n ∧ n ≤ 7) ∧ r = 8 ∧ v = -5 ∧ J = I) ∨ ((2 ≤ n ∧ n ≤ 7) ∧ r < 8 ∧ v = r ∧ J = (upI (cpI (upI I 56 r n) (58 + r) (fun _ => 2) (7 : Nat)) 55 4 (r + 1))))
    (q2 : (¬ (2 ≤ n ∧ n ≤ 7) ∧ v2 = -3 ∧ K = J) ∨ ((2 ≤ n ∧ n ≤ 7) ∧ J 100 41 = 8 ∧ v2 = -5 ∧ K = J) ∨ ((2 ≤ n ∧ n ≤ 7) ∧ J 100 41 < 8 ∧ v2 = J 100 41 ∧ K = upI (rwI (rwI (upI J 126 (J 100 41) n) 127 (7 * J 100 41) 2 7) 128 (7 * J 100 41) 0 7) 100 41 (J 100 41 + 1))) : v = v2 ∧ Inv nm no K := by
  obtain ⟨a1, a2, a3, a4, a5, a6⟩ := h.2.2.2.1
  rcases q with ⟨c, e, ej⟩ | ⟨c, c1, e, ej⟩ | ⟨c, c1, e, ej⟩
  · rw [ej] at q2
    rcases q2 with ⟨b, f, fk⟩ | ⟨b, b1, f, fk⟩ | ⟨b, b1, f, fk⟩
    · rw [fk]; exact ⟨by omega, h⟩
    · exact absurd b c
    · exact absurd b c
  · rw [ej] at q2
    rcases q2 with ⟨b, f, fk⟩ | ⟨b, b1, f, fk⟩ | ⟨b, b1, f, fk⟩
    · exact absurd c b
    · rw [fk]; exact ⟨by omega, h⟩
    · omega
  · have jo : ∀ x, x ≠ 55 → x ≠ 56 → x ≠ 58 + r → J x = I x := fun x y1 y2 y3 => by rw [ej, upI_o y1, cpI_o y3, upI_o y2]
    have j41 : J 100 41 = r := by rw [jo 100 (by omega) (by omega) (by omega), a3, hc]
    rw [j41] at q2
    rcases q2 with ⟨b, f, fk⟩ | ⟨b, b1, f, fk⟩ | ⟨b, b1, f, fk⟩
    · exact absurd c b
    · omega
    · have kj : ∀ x, x ≠ 100 → (x < 126 ∨ 128 < x) → K x = J x := fun x y1 y2 => by rw [fk, upI_o y1, rwI_o (by omega), rwI_o (by omega), upI_o (by omega)]
      have kk : ∀ x, x ≠ 55 → x ≠ 56 → x ≠ 58 + r → x ≠ 100 → (x < 126 ∨ 128 < x) → K x = I x := fun x y1 y2 y3 y4 y5 => (kj x y4 y5).trans (jo x y1 y2 y3)
      have k55 : K 55 4 = (r : Int) + 1 := by rw [kj 55 (by omega) (by omega), ej, upI_s]
      have k56 : K 56 = upF (I 56) r n := by rw [kj 56 (by omega) (by omega), ej, upI_o (by decide), cpI_o (by omega), upI_F]
      have k58 : ∀ k : Int, 0 ≤ k → k < 7 → K (58 + r) k = 2 := fun k k0 k1 => by rw [kj (58 + r) (by omega) (by omega), ej, upI_o (by omega), cpI_in k0 (by omega)]
      have k126 : K 126 = upF (I 126) r n := by rw [fk, upI_o (by decide), rwI_o (by decide), rwI_o (by decide), upI_F, jo 126 (by omega) (by omega) (by omega)]
      have k127 : K 127 = fun j => if 7 * (r : Int) ≤ j ∧ j < 7 * (r : Int) + 7 then 2 else I 127 j := by rw [fk, upI_o (by decide), rwI_o (by decide), rwI_F, upI_o (by decide), jo 127 (by omega) (by omega) (by omega)]
      have k128 : K 128 = fun j => if 7 * (r : Int) ≤ j ∧ j < 7 * (r : Int) + 7 then 0 else I 128 j := by rw [fk, upI_o (by decide), rwI_F, rwI_o (by decide), upI_o (by decide), jo 128 (by omega) (by omega) (by omega)]
      have k41 : K 100 41 = (r : Int) + 1 := by rw [fk, upI_s]
      have k100 : ∀ j : Int, j ≠ 41 → K 100 j = I 100 j := fun j hj => by rw [fk, upI_j hj, rwI_o (by decide), rwI_o (by decide), upI_o (by decide), jo 100 (by omega) (by omega) (by omega)]
      clear fk ej
      have k67 : ∀ i : Nat, i < 8 → K (67 + i) = I (67 + i) := fun i hi => kk _ (by omega) (by omega) (by omega) (by omega) (by omega)
      have k58o : ∀ i : Nat, i < 8 → i ≠ r → K (58 + i) = I (58 + i) := fun i hi hne => kk _ (by omega) (by omega) (by omega) (by omega) (by omega)
      refine ⟨by omega, Inv_P h (fun x hx => kk x (by omega) (by omega) (by omega) (by omega) (by omega)) k100 ⟨⟨by omega, fun i hi => ?_⟩, ⟨by omega, fun i i0 i1 => ?_, fun j j0 j1 => ?_⟩, by omega, fun i hi => ?_, fun i hi k k0 k1 => ⟨fun hlt => ?_, ?_⟩, fun i hi hle k k0 k1 => ?_⟩⟩
      · rw [k55] at hi
        by_cases z : i = r
        · subst z
          rw [k56, upF_s]
          refine ⟨c, fun k k0 k1 => ⟨Or.inr (Or.inr (k58 k k0 k1)), ?_⟩⟩
          rw [k67 i c1, a6 i c1 (by omega) k k0 k1]; omega
        · have y := a1.2 i (by omega)
          rw [k56, upF_n (by omega), k58o i (by omega) z, k67 i (by omega)]; exact y
      · rw [k41] at i1
        rw [k126]
        by_cases z : i = r
        · rw [z, upF_s]; exact c
        · rw [upF_n z]; exact a2.2.1 i i0 (by omega)
      · rw [k128]
        show 0 ≤ (if 7 * (r : Int) ≤ j ∧ j < 7 * (r : Int) + 7 then 0 else I 128 j) ∧ (if 7 * (r : Int) ≤ j ∧ j < 7 * (r : Int) + 7 then 0 else I 128 j) < 8
        split
        · omega
        · exact a2.2.2 j j0 j1
      · rw [k126, k56]
        by_cases z : i = r
        · subst z; rw [upF_s, upF_s]
        · rw [upF_n (by omega), upF_n (by omega)]; exact a4 i hi
      · rw [k55] at hlt
        rw [k127]
        show (if 7 * (r : Int) ≤ 7 * (i : Int) + k ∧ 7 * (i : Int) + k < 7 * (r : Int) + 7 then 2 else I 127 (7 * (i : Int) + k)) = _
        by_cases z : i = r
        · subst z
          rw [if_pos (by omega), k58 k k0 k1]
        · rw [if_neg (by omega), k58o i hi z]
          exact (a5 i hi k k0 k1).1 (by omega)
      · rw [k128, k67 i hi]
        show (if 7 * (r : Int) ≤ 7 * (i : Int) + k ∧ 7 * (i : Int) + k < 7 * (r : Int) + 7 then 0 else I 128 (7 * (i : Int) + k)) = _
        by_cases z : i = r
        · subst z
          rw [if_pos (by omega), a6 i hi (by omega) k k0 k1]
        · rw [if_neg (by omega)]
          exact (a5 i hi k k0 k1).2
      · rw [k67 i hi]; exact a6 i hi (by omega) k k0 k1
theorem pp_row {n : Int} (hd : 3 ≤ d) : PR g d nm no mX11_row mX12_row [vi n] := fun I h => by
  obtain ⟨a1, a2, a3, a4, a5, a6⟩ := h.2.2.2.1
  have hb := a1.1
  obtain ⟨r, hr⟩ : ∃ r : Nat, I 55 4 = r := ⟨(I 55 4).toNat, by omega⟩
  refine SI_mono (px_row hd hr (by omega)) (fun v J q => SI_mono (py_row (by omega) ?_) (fun v2 K q2 => pr_row h hr (by omega) q q2))
  have e : J 100 = I 100 := by
    rcases q with ⟨-, -, ej⟩ | ⟨-, -, -, ej⟩ | ⟨-, -, -, ej⟩
    · rw [ej]
    · rw [ej]
    · rw [ej, upI_o (by decide), cpI_o (by omega), upI_o (by decide)]
  rw [e, a3]; exact hb
theorem pr_tape {a b v q q' : Int} (h : Inv nm no I)
    (z : (¬ ((0 ≤ a ∧ a ≤ I 55 4 - 1) ∧ (0 ≤ b ∧ b ≤ I 56 a - 1)) ∧ q = -2 ∧ J = I) ∨ (((0 ≤ a ∧ a ≤ I 55 4 - 1) ∧ (0 ≤ b ∧ b ≤ I 56 a - 1)) ∧ ¬ (0 ≤ v ∧ v ≤ 2) ∧ q = -3 ∧ J = I) ∨ (((0 ≤ a ∧ a ≤ I 55 4 - 1) ∧ (0 ≤ b ∧ b ≤ I 56 a - 1)) ∧ (0 ≤ v ∧ v ≤ 2) ∧ q = I (58 + a.toNat) b ∧ J = upI I (58 + a.toNat) b v))
    (z2 : (¬ ((0 ≤ a ∧ a ≤ J 100 41 - 1) ∧ (0 ≤ b ∧ b ≤ J 126 a - 1)) ∧ q' = -2 ∧ K = J) ∨ (((0 ≤ a ∧ a ≤ J 100 41 - 1) ∧ (0 ≤ b ∧ b ≤ J 126 a - 1)) ∧ ¬ (0 ≤ v ∧ v ≤ 2) ∧ q' = -3 ∧ K = J) ∨ (((0 ≤ a ∧ a ≤ J 100 41 - 1) ∧ (0 ≤ b ∧ b ≤ J 126 a - 1)) ∧ (0 ≤ v ∧ v ≤ 2) ∧ q' = J 127 (7 * a + b) ∧ K = upI J 127 (7 * a + b) v)) : q = q' ∧ Inv nm no K := by
  obtain ⟨a1, a2, a3, a4, a5, a6⟩ := h.2.2.2.1
  have hb := a1.1
  have ho : 0 ≤ a → a ≤ I 55 4 - 1 → I 126 a = I 56 a := fun y1 y2 => by
    have := a4 a.toNat (by omega)
    rw [show ((a.toNat : Nat) : Int) = a by omega] at this; exact this
  have jo : ∀ x, 75 < x → J x = I x := fun x hx => by
    rcases z with ⟨-, -, ej⟩ | ⟨-, -, -, ej⟩ | ⟨cc, -, -, ej⟩
    · rw [ej]
    · rw [ej]
    · rw [ej, upI_o (by omega)]
  rw [jo 100 (by omega), jo 126 (by omega), jo 127 (by omega), a3] at z2
  have hi : ((0 ≤ a ∧ a ≤ I 55 4 - 1) ∧ (0 ≤ b ∧ b ≤ I 126 a - 1)) ↔ ((0 ≤ a ∧ a ≤ I 55 4 - 1) ∧ (0 ≤ b ∧ b ≤ I 56 a - 1)) := ⟨fun y => ⟨y.1, by rw [← ho y.1.1 y.1.2]; exact y.2⟩, fun y => ⟨y.1, by rw [ho y.1.1 y.1.2]; exact y.2⟩⟩
  rw [hi] at z2
  rcases z with ⟨c, e, ej⟩ | ⟨c, c1, e, ej⟩ | ⟨c, c1, e, ej⟩
  · rcases z2 with ⟨y, f, fk⟩ | ⟨y, y1, f, fk⟩ | ⟨y, y1, f, fk⟩
    · rw [fk, ej]; exact ⟨by omega, h⟩
    · exact absurd y c
    · exact absurd y c
  · rcases z2 with ⟨y, f, fk⟩ | ⟨y, y1, f, fk⟩ | ⟨y, y1, f, fk⟩
    · exact absurd c y
    · rw [fk, ej]; exact ⟨by omega, h⟩
    · exact absurd y1 c1
  · rcases z2 with ⟨y, f, fk⟩ | ⟨y, y1, f, fk⟩ | ⟨y, y1, f, fk⟩
    · exact absurd c y
    · exact absurd c1 y1
    · obtain ⟨i, ei⟩ : ∃ i : Nat, a = i := ⟨a.toNat, by omega⟩
      subst ei
      rw [Int.toNat_natCast] at e ej
      have i8 : i < 8 := by omega
      have hs := (a1.2 i (by omega)).1
      have b7 : b < 7 := by omega
      have kk : ∀ x, x ≠ 58 + i → x ≠ 127 → K x = I x := fun x y1 y2 => by rw [fk, upI_o y2, ej, upI_o y1]
      have k58 : K (58 + i) = upF (I (58 + i)) b v := by rw [fk, upI_o (by omega), ej, upI_F]
      have k127 : K 127 = upF (I 127) (7 * (i : Int) + b) v := by rw [fk, upI_F, jo 127 (by omega)]
      clear fk ej y
      refine ⟨?_, Inv_P h (fun x hx => kk x (by omega) (by omega)) (fun j _ => by rw [kk 100 (by omega) (by omega)]) ⟨⟨?_, fun j hj => ?_⟩, ?_, ?_, fun j hj => ?_, fun j hj k k0 k1 => ⟨fun hlt => ?_, ?_⟩, fun j hj hle k k0 k1 => ?_⟩⟩
      · rw [e, f]; exact ((a5 i i8 b c.2.1 b7).1 (by omega)).symm
      · rw [kk 55 (by omega) (by omega)]; exact hb
      · rw [kk 55 (by omega) (by omega)] at hj
        have y := a1.2 j hj
        rw [kk 56 (by omega) (by omega), kk (67 + j) (by omega) (by omega)]
        by_cases w : j = i
        · subst w
          rw [k58]
          refine ⟨y.1, fun k k0 k1 => ⟨?_, (y.2 k k0 k1).2⟩⟩
          by_cases w2 : k = b
          · rw [w2, upF_s]; omega
          · rw [upF_n w2]; exact (y.2 k k0 k1).1
        · rw [kk (58 + j) (by omega) (by omega)]; exact y
      · unfold TpM at *
        rw [kk 100 (by omega) (by omega), kk 126 (by omega) (by omega), kk 128 (by omega) (by omega)]; exact a2
      · rw [kk 100 (by omega) (by omega), kk 55 (by omega) (by omega)]; exact a3
      · rw [kk 126 (by omega) (by omega), kk 56 (by omega) (by omega)]; exact a4 j hj
      · rw [kk 55 (by omega) (by omega)] at hlt
        have y := (a5 j hj k k0 k1).1 hlt
        rw [k127]
        by_cases w : j = i
        · subst w
          rw [k58]
          by_cases w2 : k = b
          · rw [w2, upF_s, upF_s]
          · rw [upF_n w2, upF_n (by omega)]; exact y
        · rw [kk (58 + j) (by omega) (by omega), upF_n (by omega)]; exact y
      · rw [kk 128 (by omega) (by omega), kk (67 + j) (by omega) (by omega)]; exact (a5 j hj k k0 k1).2
      · rw [kk 55 (by omega) (by omega)] at hle
        rw [kk (67 + j) (by omega) (by omega)]; exact a6 j hj hle k k0 k1
theorem pr_clerk {a b v q q' : Int} (h : Inv nm no I)
    (z : (¬ ((0 ≤ a ∧ a ≤ I 55 4 - 1) ∧ (0 ≤ b ∧ b ≤ I 56 a - 2) ∧ (0 ≤ v ∧ v ≤ 7)) ∧ q = -2 ∧ J = I) ∨ (((0 ≤ a ∧ a ≤ I 55 4 - 1) ∧ (0 ≤ b ∧ b ≤ I 56 a - 2) ∧ (0 ≤ v ∧ v ≤ 7)) ∧ q = I (67 + a.toNat) b ∧ J = upI I (67 + a.toNat) b v))
    (z2 : (¬ ((0 ≤ a ∧ a ≤ J 100 41 - 1) ∧ (0 ≤ b ∧ b ≤ J 126 a - 2) ∧ (0 ≤ v ∧ v ≤ 7)) ∧ q' = -2 ∧ K = J) ∨ (((0 ≤ a ∧ a ≤ J 100 41 - 1) ∧ (0 ≤ b ∧ b ≤ J 126 a - 2) ∧ (0 ≤ v ∧ v ≤ 7)) ∧ q' = J 128 (7 * a + b) ∧ K = upI J 128 (7 * a + b) v)) : q = q' ∧ Inv nm no K := by
  obtain ⟨a1, a2, a3, a4, a5, a6⟩ := h.2.2.2.1
  have hb := a1.1
  have ho : 0 ≤ a → a ≤ I 55 4 - 1 → I 126 a = I 56 a := fun y1 y2 => by
    have := a4 a.toNat (by omega)
    rw [show ((a.toNat : Nat) : Int) = a by omega] at this; exact this
  have jo : ∀ x, 75 < x → J x = I x := fun x hx => by
    rcases z with ⟨-, -, ej⟩ | ⟨cc, -, ej⟩
    · rw [ej]
    · rw [ej, upI_o (by omega)]
  rw [jo 100 (by omega), jo 126 (by omega), jo 128 (by omega), a3] at z2
  have hi : ((0 ≤ a ∧ a ≤ I 55 4 - 1) ∧ (0 ≤ b ∧ b ≤ I 126 a - 2) ∧ (0 ≤ v ∧ v ≤ 7)) ↔ ((0 ≤ a ∧ a ≤ I 55 4 - 1) ∧ (0 ≤ b ∧ b ≤ I 56 a - 2) ∧ (0 ≤ v ∧ v ≤ 7)) := ⟨fun y => ⟨y.1, by rw [← ho y.1.1 y.1.2]; exact y.2⟩, fun y => ⟨y.1, by rw [ho y.1.1 y.1.2]; exact y.2⟩⟩
  rw [hi] at z2
  rcases z with ⟨c, e, ej⟩ | ⟨c, e, ej⟩
  · rcases z2 with ⟨y, f, fk⟩ | ⟨y, f, fk⟩
    · rw [fk, ej]; exact ⟨by omega, h⟩
    · exact absurd y c
  · rcases z2 with ⟨y, f, fk⟩ | ⟨y, f, fk⟩
    · exact absurd c y
    · obtain ⟨i, ei⟩ : ∃ i : Nat, a = i := ⟨a.toNat, by omega⟩
      subst ei
      rw [Int.toNat_natCast] at e ej
      have i8 : i < 8 := by omega
      have hs := (a1.2 i (by omega)).1
      have b7 : b < 7 := by omega
      have kk : ∀ x, x ≠ 67 + i → x ≠ 128 → K x = I x := fun x y1 y2 => by rw [fk, upI_o y2, ej, upI_o y1]
      have k67 : K (67 + i) = upF (I (67 + i)) b v := by rw [fk, upI_o (by omega), ej, upI_F]
      have k128 : K 128 = upF (I 128) (7 * (i : Int) + b) v := by rw [fk, upI_F, jo 128 (by omega)]
      clear fk ej y
      refine ⟨?_, Inv_P h (fun x hx => kk x (by omega) (by omega)) (fun j _ => by rw [kk 100 (by omega) (by omega)]) ⟨⟨?_, fun j hj => ?_⟩, ⟨?_, ?_, fun j j0 j1 => ?_⟩, ?_, fun j hj => ?_, fun j hj k k0 k1 => ⟨fun hlt => ?_, ?_⟩, fun j hj hle k k0 k1 => ?_⟩⟩
      · rw [e, f]; exact ((a5 i i8 b c.2.1.1 b7).2).symm
      · rw [kk 55 (by omega) (by omega)]; exact hb
      · rw [kk 55 (by omega) (by omega)] at hj
        have y := a1.2 j hj
        rw [kk 56 (by omega) (by omega), kk (58 + j) (by omega) (by omega)]
        by_cases w : j = i
        · subst w
          rw [k67]
          refine ⟨y.1, fun k k0 k1 => ⟨(y.2 k k0 k1).1, ?_⟩⟩
          by_cases w2 : k = b
          · rw [w2, upF_s]; omega
          · rw [upF_n w2]; exact (y.2 k k0 k1).2
        · rw [kk (67 + j) (by omega) (by omega)]; exact y
      · rw [kk 100 (by omega) (by omega)]; exact a2.1
      · rw [kk 100 (by omega) (by omega), kk 126 (by omega) (by omega)]; exact a2.2.1
      · rw [k128]
        by_cases w2 : j = 7 * (i : Int) + b
        · rw [w2, upF_s]; omega
        · rw [upF_n w2]; exact a2.2.2 j j0 j1
      · rw [kk 100 (by omega) (by omega), kk 55 (by omega) (by omega)]; exact a3
      · rw [kk 126 (by omega) (by omega), kk 56 (by omega) (by omega)]; exact a4 j hj
      · rw [kk 55 (by omega) (by omega)] at hlt
        rw [kk 127 (by omega) (by omega), kk (58 + j) (by omega) (by omega)]; exact (a5 j hj k k0 k1).1 hlt
      · have y := (a5 j hj k k0 k1).2
        rw [k128]
        by_cases w : j = i
        · subst w
          rw [k67]
          by_cases w2 : k = b
          · rw [w2, upF_s, upF_s]
          · rw [upF_n w2, upF_n (by omega)]; exact y
        · rw [kk (67 + j) (by omega) (by omega), upF_n (by omega)]; exact y
      · rw [kk 55 (by omega) (by omega)] at hle
        rw [kk (67 + j) (by omega) (by omega)]; exact a6 j hj hle k k0 k1
theorem vP_at (h : vP I) : (0 ≤ I 100 41 ∧ I 100 41 ≤ 8) ∧ ∀ r, 0 ≤ r → r < I 100 41 → 2 ≤ I 126 r ∧ I 126 r ≤ 7 := ⟨h.2.1.1, h.2.1.2.1⟩
theorem pp_tape {a b v : Int} (hd : 2 ≤ d) : PR g d nm no mX11_tape mX12_tape [vi a, vi b, vi v] := fun I h => by
  have hP := h.2.2.2.1
  have hv := vP_at hP
  have hb := hP.1.1
  refine SI_mono (px_tape hd hP.1) (fun r J q => ?_)
  have jo : ∀ x, 75 < x → J x = I x := fun x hx => by
    rcases q with ⟨-, -, ej⟩ | ⟨-, -, -, ej⟩ | ⟨cc, -, -, ej⟩
    · rw [ej]
    · rw [ej]
    · rw [ej, upI_o (by omega)]
  exact SI_mono (py_tape hd (by rw [jo 100 (by omega)]; exact hv.1) (by rw [jo 100 (by omega), jo 126 (by omega)]; exact hv.2)) (fun r2 K q2 => pr_tape h q q2)
theorem pp_clerk {a b v : Int} (hd : 2 ≤ d) : PR g d nm no mX11_clerk mX12_clerk [vi a, vi b, vi v] := fun I h => by
  have hP := h.2.2.2.1
  have hv := vP_at hP
  have hb := hP.1.1
  refine SI_mono (px_clerk hd hP.1) (fun r J q => ?_)
  have jo : ∀ x, 75 < x → J x = I x := fun x hx => by
    rcases q with ⟨-, -, ej⟩ | ⟨cc, -, ej⟩
    · rw [ej]
    · rw [ej, upI_o (by omega)]
  exact SI_mono (py_clerk hd (by rw [jo 100 (by omega)]; exact hv.1) (by rw [jo 100 (by omega), jo 126 (by omega)]; exact hv.2)) (fun r2 K q2 => pr_clerk h q q2)
end
