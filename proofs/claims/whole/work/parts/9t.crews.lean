/-! PAIRS: fewest, round -/
section
variable {g : GH} {d nm no : Nat} {I J K : II}
theorem pp_fewest {k : Int} (hd : 6 ≤ d) : PR g d nm no mX11_fewest mX12_fewest [vi k] := fun I h => by
  obtain ⟨s1, s2, s3, s4, s5, s6, s7⟩ := h.2.2.2.2.1
  refine SI_mono (px_fewest hd s1 s3 s4) (fun r J q => ?_)
  rcases q with ⟨c, e, ej⟩ | ⟨c, hF, j2, hP, e⟩
  · subst ej
    refine SI_mono (py_fewest (by omega) s2) (fun r2 K y => ?_)
    obtain ⟨ek, y⟩ := y
    subst ek
    refine ⟨?_, h⟩
    rcases y with y | y
    · omega
    · exact absurd y.1 c
  · have j77 : J 77 = I 77 := hF.1 77 (by decide) (by decide)
    have j129 : J 129 = I 129 := hF.1 129 (by decide) (by decide)
    have j100 : J 100 = I 100 := hF.1 100 (by decide) (by decide)
    have j4 : J 76 4 = I 76 4 := hF.2 4 (by decide) (by decide)
    have j5 : J 76 5 = I 76 5 := hF.2 5 (by decide) (by decide)
    have hS1 : ShI J := by unfold ShI at *; rw [j77, j4, j5]; exact s1
    have hS2 : ShM J := by unfold ShM at *; rw [j129, j100]; exact s2
    have ho : okM J = okS J := by
      funext a b c
      unfold okM okS
      rw [j129, j100, j77, j4, j5, s5, s6, s7]
    have hI : Inv nm no J := Inv_S h (fun x hx => hF.1 x (by omega) (by omega)) (fun j _ => by rw [j100]) ⟨hS1, hS2, Or.inr j2, fun _ => hP, by rw [j129, j77]; exact s5, by rw [j100, j4]; exact s6, by rw [j100, j5]; exact s7⟩
    refine SI_mono (py_fewest (by omega) hS2) (fun r2 K y => ?_)
    obtain ⟨ek, y⟩ := y
    subst ek
    refine ⟨?_, hI⟩
    rcases y with y | ⟨-, b, l, hw, e2⟩
    · exact absurd c y.1
    · rw [ho] at hw
      have hm : ∀ a b c, rg a → rg b → rg c → okS K a b c → okS K 15 15 15 := fun a b c ra rb rc hok => by
        unfold okS rg at *
        exact Int.le_trans (msD_mono (by have := hS1.2.1; omega) ra.2 rb.2 rc.2 3) hok
      have r15 : rg 15 := by unfold rg; omega
      rcases hP with ⟨p1, p2⟩ | ⟨p1, p2, p3⟩
      · rcases hw with ⟨w1, w2⟩ | ⟨w1, w2, w3⟩
        · rw [e, e2, if_pos p1, if_pos w1]
        · exfalso
          obtain ⟨-, -, y⟩ := w3
          rcases y with y | ⟨y1, y2, y3, y4, -⟩
          · exact w2 y
          · exact p2 (hm _ _ _ y1 y2 y3 y4)
      · rcases hw with ⟨w1, w2⟩ | ⟨w1, w2, w3⟩
        · exact absurd p1 (w2 15 15 15 r15 r15 r15 (by decide))
        · have p4 := p3.1
          obtain ⟨u1, u2, u3, u4⟩ := BpI_uniq p3 w3 p2 w2
          rw [e, e2, if_neg (show ¬ K 76 3 = -1 by omega), if_neg (show ¬ b = -1 by omega)]
          by_cases k0 : k = 0
          · rw [if_pos k0, if_pos k0, u1]
          · rw [if_neg k0, if_neg k0]
            by_cases k1 : k = 1
            · rw [if_pos k1, k1, ← u2]; rfl
            · rw [if_neg k1]
              by_cases k2 : k = 2
              · rw [if_pos k2, k2, ← u3]; rfl
              · rw [if_neg k2, ← u4, show k = 3 by omega]; rfl
theorem pp_round {k : Int} (hd : 10 ≤ d) : PR g d nm no mX11_round mX12_round [vi k] := fun I h => by
  obtain ⟨n, b1, b2, b3, b4, b5, b6, b7⟩ := h.2.2.2.2.2
  have hn := b1.2.1
  refine SI_mono (px_round (n := n) (by omega) b1 b3 b4) (fun r J q => ?_)
  rcases q with ⟨c, e, ej⟩ | ⟨c, hF, j6, hR, e⟩
  · subst ej
    refine SI_mono (py_round (n := n) (by omega) b2) (fun r2 K y => ?_)
    rcases y with ⟨-, e2, ek⟩ | ⟨y, -⟩
    · subst ek; exact ⟨by omega, h⟩
    · omega
  · have jo : ∀ x, x ≠ 79 → x ≠ 83 → x ≠ 84 → J x = I x := hF.1
    have j130 : J 130 = I 130 := jo 130 (by decide) (by decide) (by decide)
    have j131 : J 131 = I 131 := jo 131 (by decide) (by decide) (by decide)
    have j132 : J 132 = I 132 := jo 132 (by decide) (by decide) (by decide)
    have j100 : J 100 = I 100 := jo 100 (by decide) (by decide) (by decide)
    have j80 : J 80 = I 80 := jo 80 (by decide) (by decide) (by decide)
    have j81 : J 81 = I 81 := jo 81 (by decide) (by decide) (by decide)
    have j82 : J 82 = I 82 := jo 82 (by decide) (by decide) (by decide)
    have hB1 : BoyI J n := by unfold BoyI at *; rw [hF.2 5 (by decide), j80, j81, j82]; exact b1
    have hB2 : BoyM J n := by unfold BoyM at *; rw [j100, j130, j131, j132]; exact b2
    refine SI_mono (py_round (n := n) (by omega) hB2) (fun r2 K y => ?_)
    rcases y with ⟨y, -⟩ | ⟨-, hL, hM, e2⟩
    · omega
    · have ko : ∀ x, x ≠ 100 → x ≠ 133 → x ≠ 134 → K x = J x := hL.1
      have hI : Inv nm no K := by
        refine Inv_D h (fun x hx => by rw [ko x (by omega) (by omega) (by omega)]; exact jo x (by omega) (by omega) (by omega)) (fun j hj => by rw [hL.2 j (by omega) (by omega), j100]) ⟨n, ?_, ?_, Or.inr (by rw [ko 79 (by decide) (by decide) (by decide)]; exact j6), fun _ => ?_, ?_, ?_, ?_⟩
        · unfold BoyI at *
          rw [ko 79 (by decide) (by decide) (by decide), ko 80 (by decide) (by decide) (by decide), ko 81 (by decide) (by decide) (by decide), ko 82 (by decide) (by decide) (by decide)]; exact hB1
        · unfold BoyM at *
          rw [hL.2 48 (by decide) (by decide), ko 130 (by decide) (by decide) (by decide), ko 131 (by decide) (by decide) (by decide), ko 132 (by decide) (by decide) (by decide)]; exact hB2
        · unfold RndI BsX at *
          rw [ko 79 (by decide) (by decide) (by decide), ko 80 (by decide) (by decide) (by decide), ko 81 (by decide) (by decide) (by decide), ko 82 (by decide) (by decide) (by decide), ko 84 (by decide) (by decide) (by decide)]; exact hR
        · rw [ko 130 (by decide) (by decide) (by decide), ko 80 (by decide) (by decide) (by decide), j130, j80]; exact b5
        · rw [ko 131 (by decide) (by decide) (by decide), ko 81 (by decide) (by decide) (by decide), j131, j81]; exact b6
        · rw [ko 132 (by decide) (by decide) (by decide), ko 82 (by decide) (by decide) (by decide), j132, j82]; exact b7
      refine ⟨?_, hI⟩
      unfold RndI BsX at hR
      unfold BsM at hM
      rw [j130, j131, j132, b5, b6, b7] at hM
      rw [j80, j81, j82] at hR
      obtain ⟨u1, u2, u3⟩ := bs_uniq hR hM (fun q _ => Nat.zero_lt_one) (fun q hq => rN_lt n hq.1)
      rw [e, e2, u1, u2]
      by_cases k0 : k = 0
      · rw [if_pos k0, if_pos k0]
      · rw [if_neg k0, if_neg k0]
        by_cases k1 : k = 1
        · rw [if_pos k1, if_pos k1]
        · rw [if_neg k1, if_neg k1]
          by_cases k2 : k - 2 < n
          · rw [if_pos k2, if_pos k2]
            have z := u3 (k - 2).toNat (by omega)
            rw [show (((k - 2).toNat : Nat) : Int) = k - 2 by omega] at z
            exact z
          · rw [if_neg k2, if_neg k2]
end
