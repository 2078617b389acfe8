/-! PAIRS: minutes, beside -/
section
variable {g : GH} {d nm no : Nat} {I J K : II}
theorem pp_minutes {n : Int} (hd : 7 ≤ d) : PR g d nm no mX11_minutes mX12_minutes [vi n] := fun I h => by
  have hA := h.1
  obtain ⟨hP, hN, hL, hM, hD, h0, h12⟩ := hA
  have hm := hP.2.1
  refine SI_mono (px_minutes hd hP) (fun r J q => ?_)
  rcases q with ⟨c, e, ej⟩ | ⟨c, e, hF, hPJ, e5, ev⟩
  · subst ej
    refine SI_mono (py_minutes hd (Inv_Stt h) h12 h0 hP.2.2.2.2.2.2.2.2.2 hP.2.2.2.2.2.2.2.1 hD) (fun r2 K p => ?_)
    rcases p with ⟨-, e2, ek⟩ | ⟨p, -⟩
    · subst ek; exact ⟨by omega, h⟩
    · exact absurd p c
  · have jo : ∀ x, ¬ (200 ≤ x ∧ x < 200 + nm) → x ≠ 36 → x ≠ 43 → J x = I x := hF.1
    have hT : FrT I J nm := ⟨fun x hx => jo x (by omega) (by omega) (by omega), hF.2.2, by rw [jo 100 (by omega) (by omega) (by omega)]; exact ⟨rfl, rfl, rfl, rfl, rfl, rfl⟩⟩
    have hS : SttI J nm no := sttI_frT hT (Inv_Stt h)
    have j100 : J 100 = I 100 := jo 100 (by omega) (by omega) (by omega)
    have hD2 : StD J nm (vX I) := fun m hm => by rw [stM_fr (jo 110 (by omega) (by omega) (by omega))]; exact hD m hm
    refine SI_mono (py_minutes (t := I 43 5) (D := vX I) hd hS (by rw [j100]; exact h12) (by rw [j100]; exact h0) hP.2.2.2.2.2.2.2.2.2 (by rw [jo 21 (by omega) (by omega) (by omega), jo 24 (by omega) (by omega) (by omega), jo 25 (by omega) (by omega) (by omega)]; exact hP.2.2.2.2.2.2.2.1) hD2) (fun r2 K p => ?_)
    rcases p with ⟨p, -⟩ | ⟨-, e2, hH, k0, kD⟩
    · exact absurd c p
    · refine ⟨by omega, ?_⟩
      have ko : ∀ x, x ≠ 100 → x ≠ 110 → x ≠ 112 → K x = J x := hH.1
      have eN : minN J nm no (-9) (I 43 5) (vX I) n.toNat = minN I nm no (-9) (I 43 5) (vX I) n.toNat := minN_gen (fun x a b c => jo x (by omega) b c) (fun x a => jo x (by omega) (by omega) (by omega)) (fun m j hj => by
        by_cases c : m < nm
        · exact hF.2.2 m c j hj
        · rw [jo (200 + m) (by omega) (by omega) (by omega)]) n.toNat
      rw [eN, ← ev] at kD
      have hT2 : FrT J K nm := ⟨fun x hx => ko x (by omega) (by omega) (by omega), fun m hm j hj => by rw [ko (200 + m) (by omega) (by omega) (by omega)], hH.2 3 (by decide), hH.2 8 (by decide), hH.2 10 (by decide), hH.2 13 (by decide), hH.2 26 (by decide), hH.2 27 (by decide)⟩
      have k43 : K 43 = J 43 := ko 43 (by omega) (by omega) (by omega)
      have ex : ∀ m, m < nm → vX K m = vX J m := fun m hm => vX_same (ko (200 + m) (by omega) (by omega) (by omega))
      have hC : ∀ m, m < nm → CacI K (200 + m) := fun m hm => by
        have z := hPJ.2.2.2.2.2.2.2.2.1 m hm
        unfold CacI at *
        rw [ko (200 + m) (by omega) (by omega) (by omega), ko 21 (by omega) (by omega) (by omega), ko 24 (by omega) (by omega) (by omega), ko 25 (by omega) (by omega) (by omega), ko 26 (by omega) (by omega) (by omega)]; exact z
      have hAJ : rNet J ∧ rLaw J no ∧ rMsg J nm := ⟨rNet_frT hT hN, rLaw_frT hT hL, rMsg_frT hT hM⟩
      refine Inv_A h (fun x hx => by rw [ko x (by omega) (by omega) (by omega)]; exact jo x (by omega) (by omega) (by omega)) (fun j hj => by rw [hH.2 j (by omega), j100]) ⟨PoI_T hPJ hT2 k43 ex hC, rNet_frT hT2 hAJ.1, rLaw_frT hT2 hAJ.2.1, rMsg_frT hT2 hAJ.2.2, fun m hm => ?_, by rw [k0, k43, e5], by rw [hH.2 12 (by decide), j100]; exact h12⟩
      rw [ex m hm]; exact kD m hm
theorem pp_beside {v n : Int} (hd : 7 ≤ d) : PR g d nm no mX11_beside mX12_beside [vi v, vi n] := fun I h => by
  have hA := h.1
  obtain ⟨hP, hN, hL, hM, hD, h0, h12⟩ := hA
  have hm := hP.2.1
  refine SI_mono (px_beside hd hP) (fun r J q => ?_)
  obtain ⟨⟨D0, hD0, e⟩, hPJ, ex, hV⟩ := q
  have jo : ∀ x, ¬ (200 ≤ x ∧ x < 300) → x ≠ 36 → J x = I x := hV.1
  have hT : FrT I J nm := ⟨fun x hx => jo x (by omega) (by omega), fun m hm j hj => hV.2 (200 + m) (by omega) (by omega) j hj, by rw [jo 100 (by omega) (by omega)]; exact ⟨rfl, rfl, rfl, rfl, rfl, rfl⟩⟩
  have hS : SttI J nm no := sttI_frT hT (Inv_Stt h)
  have j100 : J 100 = I 100 := jo 100 (by omega) (by omega)
  have j43 : J 43 = I 43 := jo 43 (by omega) (by omega)
  have hD2 : StD J nm D0 := fun m hm => by rw [stM_fr (jo 110 (by omega) (by omega)), hD0 m hm]; exact hD m hm
  have hDm : DmI D0 nm (J 21 9) (J 24) (J 25) (J 100 0) := fun m hm => by
    rw [hD0 m hm, j100, h0, jo 21 (by omega) (by omega), jo 24 (by omega) (by omega), jo 25 (by omega) (by omega)]; exact hP.2.2.2.2.2.2.2.1 m hm
  refine SI_mono (py_beside (D := D0) hd hS (by rw [j100]; exact h12) (by rw [j100, h0]; exact hP.2.2.2.2.2.2.2.2.2) hDm hD2) (fun r2 K p => ?_)
  obtain ⟨e2, ko, kD⟩ := p
  have eN : minN J nm no (lwF v) (I 43 5) D0 n.toNat = minN I nm no (lwF v) (I 43 5) D0 n.toNat := minN_gen (fun x a b c => jo x (by omega) b) (fun x a => jo x (by omega) (by omega)) (fun m j hj => by
    by_cases c : m < 100
    · exact hV.2 (200 + m) (by omega) (by omega) j hj
    · rw [jo (200 + m) (by omega) (by omega)]) n.toNat
  refine ⟨by rw [e, e2, j100, h0, eN, jo 21 (by omega) (by omega)], ?_⟩
  have hT2 : FrT J K nm := ⟨fun x hx => ko x (by omega) (by omega) (by omega), fun m hm j hj => by rw [ko (200 + m) (by omega) (by omega) (by omega)], by rw [ko 100 (by omega) (by omega) (by omega)]; exact ⟨rfl, rfl, rfl, rfl, rfl, rfl⟩⟩
  have k43 : K 43 = J 43 := ko 43 (by omega) (by omega) (by omega)
  have k100 : K 100 = J 100 := ko 100 (by omega) (by omega) (by omega)
  have ex2 : ∀ m, m < nm → vX K m = vX J m := fun m hm => vX_same (ko (200 + m) (by omega) (by omega) (by omega))
  have hC : ∀ m, m < nm → CacI K (200 + m) := fun m hm => by
    have z := hPJ.2.2.2.2.2.2.2.2.1 m hm
    unfold CacI at *
    rw [ko (200 + m) (by omega) (by omega) (by omega), ko 21 (by omega) (by omega) (by omega), ko 24 (by omega) (by omega) (by omega), ko 25 (by omega) (by omega) (by omega), ko 26 (by omega) (by omega) (by omega)]; exact z
  refine Inv_A h (fun x hx => by rw [ko x (by omega) (by omega) (by omega)]; exact jo x (by omega) (by omega)) (fun j hj => by rw [k100, j100]) ⟨PoI_T hPJ hT2 k43 ex2 hC, rNet_frT hT2 (rNet_frT hT hN), rLaw_frT hT2 (rLaw_frT hT hL), rMsg_frT hT2 (rMsg_frT hT hM), fun m hm => ?_, by rw [k100, j100, k43, j43]; exact h0, by rw [k100, j100]; exact h12⟩
  rw [kD m hm, ex2 m hm, ex m hm]; exact hD0 m hm
end
