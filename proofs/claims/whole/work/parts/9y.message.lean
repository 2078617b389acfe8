/-! PAIRS: message -/
section
variable {g : GH} {d nm no : Nat} {I J K : II}
theorem pr_bd (h : Inv nm no I) {fr k : Int} (f0 : 0 ≤ fr) (f1 : fr < 8) (k0 : 0 ≤ k) (k1 : k < 5) : 0 ≤ lsO I (obF (I 117) fr (I 100 0) no) 1 k 1 ∧ lsO I (obF (I 117) fr (I 100 0) no) 1 k 1 ≤ 99 := by
  have hL := h.1.2.2.1
  have hb := obF_bd (I 117) fr (I 100 0) no
  rw [← (hL.2.2.2 _ hb.1 hb.2).2.1 k k0 k1]
  exact ((h.1.1.2.2.2.2.2.1.2.2 _).2.2.2.2.2 k k0 k1).2
theorem msR_u {fr to wo kd r r2 : Int} {op : Prop} {q : Nat} (h : msR fr to wo kd op q r) (h2 : msR fr to wo kd op q r2) : r = r2 := by
  rcases h with ⟨a, e⟩ | ⟨a, b, e⟩ | ⟨a, b, c, e⟩ | ⟨a, b, c, f, e⟩ <;> rcases h2 with ⟨a2, e2⟩ | ⟨a2, b2, e2⟩ | ⟨a2, b2, c2, e2⟩ | ⟨a2, b2, c2, f2, e2⟩ <;> first | (rw [e, e2]; done) | exact absurd a a2 | exact absurd a2 a | exact absurd b b2 | exact absurd b2 b | exact absurd c c2 | exact absurd c2 c
theorem msR_n {fr to wo kd r : Int} {op : Prop} {q : Nat} (h : msR fr to wo kd op q r) (a : msA fr to) (b : msB wo kd) (c : op) (hq : q < 24) : False := by
  rcases h with ⟨a2, e⟩ | ⟨a2, b2, e⟩ | ⟨a2, b2, c2, e⟩ | ⟨a2, b2, c2, f, e⟩
  · exact a2 a
  · exact b2 b
  · exact c2 c
  · omega
theorem message_inv {fr to wo kd : Int} (h : Inv nm no I) (ha : msA fr to) (hb : msB wo kd) (hlt : nm < 24) (hH : HIP nm no fr to wo kd I J) (hS : MSP nm fr to wo kd (max (wo * lsO J (obF (J 117) fr (J 100 0) no) 1 kd 1) (lsO J (obF (J 117) fr (J 100 0) no) 2 0 0)) J K) : Inv (nm + 1) no K := by
  have hA := h.1
  obtain ⟨hP, hN, hL, hM, hD, h0, h12⟩ := hA
  obtain ⟨p1, p2, p3, p4, p5, p6, p7, p8, p9, p10⟩ := hP
  obtain ⟨g1, g2, g3, ⟨m0, m1, m2, m3, m4⟩, m5, m12⟩ := hH
  obtain ⟨s1, s2, s3, s4, ⟨t1, t2, t3, t4, t5⟩, s6⟩ := hS
  have jo : ∀ x, (x < 200 + nm ∨ 300 ≤ x) → x ≠ 43 → J x = I x := fun x a b => g1 x b (by omega) (by omega)
  have j100 : J 100 = I 100 := jo 100 (by omega) (by omega)
  have kk : ∀ x, (x < 200 + nm ∨ 300 ≤ x) → x ≠ 43 → x ≠ 100 → x ≠ 109 → x ≠ 110 → K x = I x := fun x a b c e f => by rw [s1 x c e f]; exact jo x a b
  have k43 : K 43 = J 43 := s1 43 (by decide) (by decide) (by decide)
  have k435 : K 43 5 = I 43 5 := by rw [k43]; exact g2 5 (by decide)
  have kn : K (200 + nm) = J (200 + nm) := s1 _ (by omega) (by omega) (by omega)
  have k100 : ∀ j : Int, j ≠ 13 → K 100 j = I 100 j := fun j hj => by rw [s2 j hj, j100]
  have km : ∀ m : Nat, m < nm → K (200 + m) = I (200 + m) := fun m hm => kk _ (by omega) (by omega) (by omega) (by omega) (by omega)
  have hg := gbF_bd I fr (I 43 5) no
  have hrel := hL.2.2.2 _ hg.1 hg.2
  have hord := p6.2.2 (gbF I fr (I 43 5) no)
  unfold msA at ha
  unfold msB at hb
  have e115 : J 115 = I 115 := jo 115 (by omega) (by omega)
  have e116 : J 116 = I 116 := jo 116 (by omega) (by omega)
  have epr : max (wo * lsO J (obF (J 117) fr (J 100 0) no) 1 kd 1) (lsO J (obF (J 117) fr (J 100 0) no) 2 0 0) = prX I no fr (I 43 5) wo kd := by
    rw [jo 117 (by omega) (by omega), j100, h0, ob_gb hL (by omega), lsO_fr e115 e116, lsO_fr e115 e116, ← hrel.2.1 kd (by omega) (by omega), ← hrel.2.2.1]
  have hpb : 0 ≤ prX I no fr (I 43 5) wo kd ∧ prX I no fr (I 43 5) wo kd ≤ 9801 := by
    have y := (hord.2.2.2.2.2 kd (by omega) (by omega)).2
    have y4 := hord.2.1
    have z1 : wo * I (orw (goX I no fr (I 43 5)) 1) kd ≤ 99 * 99 := Int.mul_le_mul (by omega) y.2 y.1 (by omega)
    have z0 : 0 ≤ wo * I (orw (goX I no fr (I 43 5)) 1) kd := Int.mul_nonneg (by omega) y.1
    show 0 ≤ max (wo * I (orw (goX I no fr (I 43 5)) 1) kd) (I (goX I no fr (I 43 5)) 4) ∧ max (wo * I (orw (goX I no fr (I 43 5)) 1) kd) (I (goX I no fr (I 43 5)) 4) ≤ 9801
    have y5 : 0 ≤ I (goX I no fr (I 43 5)) 4 ∧ I (goX I no fr (I 43 5)) 4 ≤ 99 := y4
    generalize wo * I (orw (goX I no fr (I 43 5)) 1) kd = aa at *
    generalize I (goX I no fr (I 43 5)) 4 = bb at *
    omega
  have ko : ∀ q : Int, K (oid no q) = I (oid no q) := fun q => by
    rcases oid_ge no q with e | e
    · rw [e]; exact kk 38 (by omega) (by omega) (by omega) (by omega) (by omega)
    · exact kk _ (by omega) (by omega) (by omega) (by omega) (by omega)
  have kr : ∀ (q : Int) (j : Nat), j < 3 → K (orw (oid no q) j) = I (orw (oid no q) j) := fun q j hj => by
    rcases orw_ge (oid no q) j (oid_ge no q) hj with e | e
    · exact kk _ (by omega) (by omega) (by omega) (by omega) (by omega)
    · exact kk _ (by omega) (by omega) (by omega) (by omega) (by omega)
  have c115 : K 115 = I 115 := kk 115 (by omega) (by omega) (by omega) (by omega) (by omega)
  have c116 : K 116 = I 116 := kk 116 (by omega) (by omega) (by omega) (by omega) (by omega)
  refine Inv_A h (fun x hx => kk x (by omega) (by omega) (by omega) (by omega) (by omega)) (fun j hj => k100 j (by omega)) ⟨⟨?_, by omega, ?_, ?_, ?_, ⟨?_, p6.2.1, fun q => ?_⟩, fun m hm => ?_, fun m hm => ?_, fun m hm => ?_, ?_⟩, ?_, ⟨⟨?_, p6.2.1, fun q q0 q1 => ?_⟩, ?_, fun i hi o o0 o1 => ?_, fun q q0 q1 => ?_⟩, ⟨?_, fun m hm => ?_⟩, fun m hm => ?_, ?_, ?_⟩
  · rw [k43, g3]; rfl
  · unfold NetI at *
    rw [kk 21 (by omega) (by omega) (by omega) (by omega) (by omega), kk 22 (by omega) (by omega) (by omega) (by omega) (by omega), kk 23 (by omega) (by omega) (by omega) (by omega) (by omega), kk 24 (by omega) (by omega) (by omega) (by omega) (by omega), kk 25 (by omega) (by omega) (by omega) (by omega) (by omega), kk 26 (by omega) (by omega) (by omega) (by omega) (by omega), kk 27 (by omega) (by omega) (by omega) (by omega) (by omega)]; exact p3
  · unfold StI at *
    rw [kk 28 (by omega) (by omega) (by omega) (by omega) (by omega), kk 29 (by omega) (by omega) (by omega) (by omega) (by omega), kk 30 (by omega) (by omega) (by omega) (by omega) (by omega), kk 31 (by omega) (by omega) (by omega) (by omega) (by omega)]; exact p4
  · unfold StI at *
    rw [kk 32 (by omega) (by omega) (by omega) (by omega) (by omega), kk 33 (by omega) (by omega) (by omega) (by omega) (by omega), kk 34 (by omega) (by omega) (by omega) (by omega) (by omega), kk 35 (by omega) (by omega) (by omega) (by omega) (by omega)]; exact p5
  · rw [kk 37 (by omega) (by omega) (by omega) (by omega) (by omega)]; exact p6.1
  · have z := p6.2.2 q
    unfold OrdI at *
    rw [ko q, kr q 0 (by omega), kr q 1 (by omega)]; exact z
  · by_cases c : m = nm
    · subst c
      unfold MsgS
      rw [kn, m0, m1, m2, m3, m4]
      exact ⟨by omega, by omega, by omega, hpb, p10⟩
    · have z := p7 m (by omega)
      unfold MsgS at *
      rw [km m (by omega)]; exact z
  · rw [kk 21 (by omega) (by omega) (by omega) (by omega) (by omega), kk 24 (by omega) (by omega) (by omega) (by omega) (by omega), kk 25 (by omega) (by omega) (by omega) (by omega) (by omega), k435]
    by_cases c : m = nm
    · subst c
      rw [vX_fr kn, m5]
      refine ⟨Or.inl rfl, ?_, fun z => ?_, fun _ => ⟨rfl, rfl⟩, ?_, ?_⟩
      · show 0 ≤ fr ∧ fr < 8; omega
      · exact absurd (show (0 : Int) = 1 from z) (by decide)
      · show 0 ≤ (0 : Int) ∧ (0 : Int) ≤ I 43 5; omega
      · show -1 ≤ (-1 : Int) ∧ (-1 : Int) ≤ 9000; omega
    · rw [vX_fr (km m (by omega))]; exact p8 m (by omega)
  · by_cases c : m = nm
    · subst c; exact Or.inl (by rw [kn]; exact m12)
    · have z := p9 m (by omega)
      unfold CacI at *
      rw [km m (by omega), kk 21 (by omega) (by omega) (by omega) (by omega) (by omega), kk 24 (by omega) (by omega) (by omega) (by omega) (by omega), kk 25 (by omega) (by omega) (by omega) (by omega) (by omega), kk 26 (by omega) (by omega) (by omega) (by omega) (by omega)]; exact z
  · rw [k435]; exact p10
  · unfold rNet at *
    rw [kk 101 (by omega) (by omega) (by omega) (by omega) (by omega), kk 102 (by omega) (by omega) (by omega) (by omega) (by omega), kk 103 (by omega) (by omega) (by omega) (by omega) (by omega), kk 104 (by omega) (by omega) (by omega) (by omega) (by omega), kk 105 (by omega) (by omega) (by omega) (by omega) (by omega), kk 106 (by omega) (by omega) (by omega) (by omega) (by omega), kk 107 (by omega) (by omega) (by omega) (by omega) (by omega), kk 108 (by omega) (by omega) (by omega) (by omega) (by omega), k100 3 (by omega), k100 8 (by omega), k100 10 (by omega), kk 21 (by omega) (by omega) (by omega) (by omega) (by omega), kk 22 (by omega) (by omega) (by omega) (by omega) (by omega), kk 23 (by omega) (by omega) (by omega) (by omega) (by omega), kk 24 (by omega) (by omega) (by omega) (by omega) (by omega), kk 25 (by omega) (by omega) (by omega) (by omega) (by omega), kk 26 (by omega) (by omega) (by omega) (by omega) (by omega), kk 27 (by omega) (by omega) (by omega) (by omega) (by omega), kk 28 (by omega) (by omega) (by omega) (by omega) (by omega), kk 29 (by omega) (by omega) (by omega) (by omega) (by omega), kk 30 (by omega) (by omega) (by omega) (by omega) (by omega), kk 31 (by omega) (by omega) (by omega) (by omega) (by omega), kk 32 (by omega) (by omega) (by omega) (by omega) (by omega), kk 33 (by omega) (by omega) (by omega) (by omega) (by omega), kk 34 (by omega) (by omega) (by omega) (by omega) (by omega), kk 35 (by omega) (by omega) (by omega) (by omega) (by omega)]; exact hN
  · rw [k100 27 (by decide)]; exact hL.1.1
  · rw [c115]; exact hL.1.2.2 q q0 q1
  · rw [k100 26 (by decide), kk 37 (by omega) (by omega) (by omega) (by omega) (by omega)]; exact hL.2.1
  · rw [kk 117 (by omega) (by omega) (by omega) (by omega) (by omega), kk (330 + i) (by omega) (by omega) (by omega) (by omega) (by omega)]; exact hL.2.2.1 i hi o o0 o1
  · have z := hL.2.2.2 q q0 q1
    unfold relO nightX at *
    rw [ko q, kr q 0 (by omega), kr q 1 (by omega)]
    simp only [lsO_fr c115 c116, twO_fr c115 c116, ngO_fr c115 c116]
    exact z
  · rw [s3]; rfl
  · by_cases c : m = nm
    · subst c
      rw [kn, t1, t2, t3, t4, t5, m0, m1, m2, m3, m4, epr, j100, h0]
      exact ⟨rfl, rfl, rfl, rfl, rfl⟩
    · have z := hM.2 m (by omega)
      have j109 : J 109 = I 109 := jo 109 (by omega) (by omega)
      rw [km m (by omega), (s4 (6 * (m : Int) + 1) (by omega)).1, (s4 (6 * (m : Int) + 2) (by omega)).1, (s4 (6 * (m : Int) + 3) (by omega)).1, (s4 (6 * (m : Int) + 4) (by omega)).1, (s4 (6 * (m : Int) + 5) (by omega)).1, j109]; exact z
  · by_cases c : m = nm
    · subst c; rw [vX_fr kn, m5]; exact s6
    · have j110 : J 110 = I 110 := jo 110 (by omega) (by omega)
      rw [vX_fr (km m (by omega)), ← hD m (by omega)]
      unfold stM
      rw [(s4 (6 * (m : Int)) (by omega)).2, (s4 (6 * (m : Int) + 1) (by omega)).2, (s4 (6 * (m : Int) + 2) (by omega)).2, (s4 (6 * (m : Int) + 3) (by omega)).2, (s4 (6 * (m : Int) + 4) (by omega)).2, (s4 (6 * (m : Int) + 5) (by omega)).2, j110]
  · rw [k100 0 (by decide), k435]; exact h0
  · rw [k100 12 (by decide)]; exact h12
theorem pp_message {fr to wo kd : Int} (hd : 5 ≤ d) : PM g d nm no mX11_message mX12_message 2 30 [vi fr, vi to, vi wo, vi kd] := fun I h Q hQ => by
  have hA := h.1
  obtain ⟨hP, hN, hL, hM, hD, h0, h12⟩ := hA
  obtain ⟨p1, p2, p3, p4, p5, p6, p7, p8, p9, p10⟩ := hP
  refine px_message hd p2 p6 p1 p10.1 Q (fun r q => ?_) (fun J ha hb ho hlt hH => ?_)
  · refine hQ nm no r I (SI_mono (py_message (q := nm) (no2 := no) hd hM.1 p2 hL.1 (by rw [h0]; exact p10) (fun f f0 f1 k k0 k1 => pr_bd h f0 f1 k0 k1) (fun f _ _ => obF_bd _ _ _ _)) (fun r2 K p => ?_))
    rw [hN.1.1, hN.1.2.1, h0] at p
    rcases p with ⟨y, ek⟩ | ⟨y1, y2, y3, y4, -⟩
    · subst ek; exact ⟨msR_u q y, h⟩
    · exact absurd (msR_n q y1 y2 y3 y4) id
  · have g1 := hH.1
    have jo : ∀ x, (x < 200 + nm ∨ 300 ≤ x) → x ≠ 43 → J x = I x := fun x a b => g1 x b (by omega) (by omega)
    have j100 : J 100 = I 100 := jo 100 (by omega) (by omega)
    have j117 : J 117 = I 117 := jo 117 (by omega) (by omega)
    have e115 : J 115 = I 115 := jo 115 (by omega) (by omega)
    have e116 : J 116 = I 116 := jo 116 (by omega) (by omega)
    refine hQ (nm + 1) no nm J (SI_mono (py_message (q := nm) (no2 := no) hd (by rw [j100]; exact hM.1) p2 (by have z := hL.1; unfold LnI at *; rw [j100, e115]; exact z) (by rw [j100, h0]; exact p10) (fun f f0 f1 k k0 k1 => by rw [j117, j100, lsO_fr e115 e116]; exact pr_bd h f0 f1 k0 k1) (fun f _ _ => obF_bd _ _ _ _)) (fun r2 K p => ?_))
    rcases p with ⟨y, ek⟩ | ⟨y1, y2, y3, y4, y5, y6⟩
    · rw [jo 101 (by omega) (by omega), jo 102 (by omega) (by omega), j100, hN.1.1, hN.1.2.1, h0] at y
      exact absurd (msR_n y ha hb ho hlt) id
    · exact ⟨y5.symm, message_inv h ha hb hlt hH y6⟩
end
