/-! PAIRS: next, first, soonest, minutes, beside -/
section
variable {g : GH} {d nm no : Nat} {I J K : II}
theorem PoI_T (hP : PoI I nm no) (hT : FrT I J nm) (e43 : J 43 = I 43) (ex : ∀ m, m < nm → vX J m = vX I m) (hC : ∀ m, m < nm → CacI J (200 + m)) : PoI J nm no := by
  obtain ⟨p1, p2, p3, p4, p5, p6, p7, p8, p9, p10⟩ := hP
  exact ⟨by rw [e43]; exact p1, p2, netI_frT hT p3, stI_frT hT (by omega) (by omega) (by omega) (by omega) p4, stI_frT hT (by omega) (by omega) (by omega) (by omega) p5, lawI_frT hT p6, msgS_frT hT p7, fun m hm => by rw [hT.1 21 (by omega), hT.1 24 (by omega), hT.1 25 (by omega), e43, ex m hm]; exact p8 m hm, hC, by rw [e43]; exact p10⟩
theorem vA_P (h : vA I nm no) (hP : PoI J nm no) (hT : FrT I J nm) (hD : StD J nm (vX J)) (e0 : J 100 0 = J 43 5) (e12 : J 100 12 = -9) : vA J nm no := ⟨hP, rNet_frT hT h.2.1, rLaw_frT hT h.2.2.1, rMsg_frT hT h.2.2.2.1, hD, e0, e12⟩
theorem Inv_N (h : Inv nm no I) (hF : FrN I J nm) : Inv nm no J := by
  have hA := h.1
  have hm := hA.1.2.1
  obtain ⟨hP, hN, hL, hM, hD, h0, h12⟩ := hA
  have ev := FrN_vX hF
  have e43 : J 43 = I 43 := hF.1 43 (by omega) (by omega)
  have e100 : J 100 = I 100 := hF.1 100 (by omega) (by omega)
  refine Inv_A h (fun x hx => hF.1 x (by omega) (by omega)) (fun j _ => by rw [e100]) (vA_P h.1 (PoI_T hP (FrN_T hF hm) e43 (fun m _ => by rw [ev]) hF.2.2) (FrN_T hF hm) (fun m hm => ?_) (by rw [e100, e43]; exact h0) (by rw [e100]; exact h12))
  rw [ev, stM_fr (hF.1 110 (by omega) (by omega))]; exact hD m hm
theorem Inv_36 (h : Inv nm no I) (e : ∀ x, x ≠ 36 → x ≠ 112 → J x = I x) : Inv nm no J := by
  have e100 : J 100 = I 100 := e 100 (by decide) (by decide)
  exact Inv_A h (fun x hx => e x (by omega) (by omega)) (fun j _ => by rw [e100]) (vA_fr h.1 (fun x hx => by have hm := h.1.1.2.1; unfold fA at hx; exact e x (by omega) (by omega)) (by rw [e100]) (by rw [e100]) (by rw [e100]) (by rw [e100]) (by rw [e100]) (by rw [e100]) (by rw [e100]) (by rw [e100]))
theorem z_gen (e : ∀ x, x < 100 → x ≠ 36 → x ≠ 43 → J x = I x) (e3 : ∀ x, 300 ≤ x → J x = I x) (em2 : ∀ (m : Nat) (j : Int), j < 5 → J (200 + m) j = I (200 + m) j) (lw t : Int) (no : Nat) : zNX J lw t = zNX I lw t ∧ zWS J no t = zWS I no t ∧ zRK J no t = zRK I no t ∧ zNT J no t = zNT I no t ∧ ∀ j : Int, j < 5 → zFd J j = zFd I j := by
  have eq : ∀ o, J (goX I no o t) = I (goX I no o t) := fun o => by
    have q := oid_ge no (gbF I o t no)
    rcases q with q | q
    · exact e _ (by unfold goX; omega) (by unfold goX; omega) (by unfold goX; omega)
    · exact e3 _ q
  have eq0 : ∀ o, J (orw (goX I no o t) 0) = I (orw (goX I no o t) 0) := fun o => by
    have q := orw_ge (goX I no o t) 0 (oid_ge no (gbF I o t no)) (by omega)
    rcases q with q | q
    · exact e _ (by omega) (by omega) (by omega)
    · exact e3 _ q
  have eg : ∀ o, goX J no o t = goX I no o t := fun o => goX_eq e3 no o t
  have eU : UX J lw t = UX I lw t := by
    funext v
    unfold UX upX stp
    rw [e 21 (by omega) (by omega) (by omega), e 28 (by omega) (by omega) (by omega), e 29 (by omega) (by omega) (by omega), e 30 (by omega) (by omega) (by omega), e 31 (by omega) (by omega) (by omega), e 32 (by omega) (by omega) (by omega), e 33 (by omega) (by omega) (by omega), e 34 (by omega) (by omega) (by omega), e 35 (by omega) (by omega) (by omega)]
  refine ⟨?_, ?_, ?_, ?_, fun j hj => ?_⟩
  · funext o to n
    show nxF (J 21 9) (J 24) (J 25) (J 26) (UX J lw t) o to n = nxF (I 21 9) (I 24) (I 25) (I 26) (UX I lw t) o to n
    rw [e 21 (by omega) (by omega) (by omega), e 24 (by omega) (by omega) (by omega), e 25 (by omega) (by omega) (by omega), e 26 (by omega) (by omega) (by omega), eU]
  · funext o n k
    show wsX J (goX J no o t) n k = wsX I (goX I no o t) n k
    rw [eg]
    unfold wsX
    rw [eq]
  · funext o k
    show J (orw (goX J no o t) 0) k = I (orw (goX I no o t) 0) k
    rw [eg, eq0]
  · funext o
    show nightX J (goX J no o t) (t % 1440 / 60) = nightX I (goX I no o t) (t % 1440 / 60)
    rw [eg]
    unfold nightX
    rw [eq]
  · funext m
    exact em2 m j hj
theorem zN_gen (hF : FrN I J nm) (hm : nm ≤ 24) (lw t : Int) (no : Nat) : zNX J lw t = zNX I lw t ∧ zWS J no t = zWS I no t ∧ zRK J no t = zRK I no t ∧ zNT J no t = zNT I no t ∧ ∀ j : Int, j < 5 → zFd J j = zFd I j :=
  z_gen (fun x a b _ => hF.1 x (by omega) b) (fun x a => hF.1 x (by omega) (by omega)) (fun m j hj => by
    by_cases c : m < nm
    · exact hF.2.1 m c j (by omega)
    · rw [hF.1 (200 + m) (by omega) (by omega)]) lw t no
theorem pp_next {m : Int} (hd : 6 ≤ d) : PR g d nm no mX11_next mX12_next [vi m] := fun I h => by
  refine SI_mono (px_next hd h.1.1) (fun r J q => ?_)
  obtain ⟨e, hF⟩ := q
  have hI := Inv_N h hF
  obtain ⟨hP, hN, hL, hM, hD, h0, h12⟩ := hI.1
  have hm := hP.2.1
  refine SI_mono (py_next (by omega) (Inv_Stt hI) h12 h0 hP.2.2.2.2.2.2.2.2.2 hP.2.2.2.2.2.2.2.1 hD) (fun r2 K p => ?_)
  obtain ⟨e2, hF2⟩ := p
  refine ⟨?_, Inv_36 hI (fun x _ b => hF2 x b)⟩
  rw [e, e2]
  by_cases c : 0 ≤ m ∧ m ≤ nm - 1
  · rw [if_pos c, if_pos c]
    obtain ⟨i, ei⟩ : ∃ i : Nat, m = i := ⟨m.toNat, by omega⟩
    subst ei
    rw [Int.toNat_natCast]
    have e43 : J 43 = I 43 := hF.1 43 (by omega) (by omega)
    obtain ⟨z1, z2, z3, z4, z5⟩ := zN_gen hF hm (-9) (I 43 5) no
    unfold nxV
    rw [FrN_vX hF, e43, z1, z2, z5 0 (by omega), z5 1 (by omega), z5 2 (by omega), hF.2.1 i (by omega) 0 (by omega)]
  · rw [if_neg c, if_neg c]
theorem pp_first {o v : Int} (hd : 6 ≤ d) : PR g d nm no mX11_first mX12_first [vi o, vi v] := fun I h => by
  refine SI_mono (px_first hd h.1.1) (fun r J q => ?_)
  obtain ⟨e, hF⟩ := q
  have hI := Inv_N h hF
  obtain ⟨hP, hN, hL, hM, hD, h0, h12⟩ := hI.1
  have hm := hP.2.1
  refine SI_mono (py_first (by omega) (Inv_Stt hI) h12 h0 hP.2.2.2.2.2.2.2.2.2 hP.2.2.2.2.2.2.2.1 hD) (fun r2 K p => ?_)
  obtain ⟨e2, hF2⟩ := p
  refine ⟨?_, Inv_36 hI (fun x _ b => hF2 x b)⟩
  have e43 : J 43 = I 43 := hF.1 43 (by omega) (by omega)
  obtain ⟨z1, z2, z3, z4, z5⟩ := zN_gen hF hm (-9) (I 43 5) no
  rw [e, e2, FrN_vX hF, e43, z1, z2, z3, z4, z5 0 (by omega), z5 1 (by omega), z5 2 (by omega), z5 4 (by omega), hF.1 21 (by omega) (by omega), hF.1 24 (by omega) (by omega), hF.1 25 (by omega) (by omega)]
theorem sok_36 {q : Nat} {pr : Prop} {v L t : Int} (h : ∀ x, x ≠ 36 → J x = I x) (hq : q ≠ 36) : sokT J q pr v L t = sokT I q pr v L t := by
  unfold sokT opX nightX upX stp
  rw [h 21 (by decide), h 22 (by decide), h 23 (by decide), h 24 (by decide), h 25 (by decide), h 28 (by decide), h 29 (by decide), h 30 (by decide), h 31 (by decide), h 32 (by decide), h 33 (by decide), h 34 (by decide), h 35 (by decide), h q hq]
theorem arF_36 {q : Nat} {pr : Prop} {n last : Int} (h : ∀ x, x ≠ 36 → J x = I x) (hq : q ≠ 36) : arF J q pr n last = arF I q pr n last := by
  have e : ∀ v L m l, fsF J q pr v L m l = fsF I q pr v L m l := fun v L m l => by
    unfold fsF
    have e2 : fsT J q pr v L m l = fsT I q pr v L m l := by
      funext r
      unfold fsT
      simp only [sok_36 h hq]
    rw [e2]
  funext v m
  unfold arF Kt
  rw [h 26 (by decide)]
  simp only [e]
theorem sooF_36 {fr to wd kd t : Int} (h : ∀ x, x ≠ 36 → J x = I x) : sooF J no fr to wd kd t = sooF I no fr to wd kd t := by
  have eg : goX J no fr t = goX I no fr t := goX_eq (fun x hx => h x (by omega)) no fr t
  unfold sooF
  rw [eg, arF_36 h (goX_36 I no fr t), h 24 (by decide), h 25 (by decide), h 21 (by decide)]
  unfold wsX
  rw [h _ (goX_36 I no fr t)]
theorem pp_soonest {fr to wd kd t : Int} (hd : 6 ≤ d) : PR g d nm no mX11_soonest mX12_soonest [vi fr, vi to, vi wd, vi kd, vi t] := fun I h => by
  refine SI_mono (px_soonest hd h.1.1) (fun r J q => ?_)
  obtain ⟨e, hF⟩ := q
  have hI := Inv_36 h (fun x a _ => hF x a)
  obtain ⟨hP, hN, hL, hM, hD, h0, h12⟩ := hI.1
  refine SI_mono (py_soonest (by omega) (Inv_Stt hI) h12 h0 hP.2.2.2.2.2.2.2.2.2.1) (fun r2 K p => ?_)
  obtain ⟨e2, hF2⟩ := p
  refine ⟨?_, Inv_36 hI (fun x _ b => hF2 x b)⟩
  rw [e, e2, sooF_36 hF, hF 43 (by decide)]
end
