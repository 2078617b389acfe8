/-! PAIRS: force -/
section
variable {g : GH} {d nm no nm2 no2 : Nat} {I J K : II}
/-- what both have done where orders come into force -/
theorem force_inv {K0 : II} {k : Nat} (h : Inv nm no I) (hno : no < 6) (hO : FrO I K0 (300 + no) (310 + no) (320 + no) (330 + no)) (hRO : RO (I 47) (I 46 1) (300 + no) (310 + no) (320 + no) (k + 1) K0) (hE : ENP no (I 43 5) (upI K0 46 1 0) J) (hk : k ≤ 9)
    (f1 : ∀ x, x ≠ 100 → x ≠ 112 → x ≠ 114 → x ≠ 115 → x ≠ 116 → x ≠ 117 → K x = J x) (f2 : ∀ j : Int, (j < 20 ∨ 25 < j) → j ≠ 28 → j ≠ 18 → j ≠ 27 → K 100 j = J 100 j) (f3 : K 100 18 = 0 ∧ K 100 27 = (no : Int) + 1) (f4 : K 115 no = (k : Int) + 1 ∧ ∀ x : Int, x ≠ no → K 115 x = J 115 x) (f5 : ∀ x : Int, 0 ≤ x → x < 3 * ((k : Int) + 1) → K 116 (30 * (no : Int) + x) = lvF (I 47) (I 46 1) x) (f6 : ∀ x : Int, (x < 30 * (no : Int) ∨ 30 * (no : Int) + 30 ≤ x) → K 116 x = J 116 x) (f7 : ∃ s, stS J s ∧ ∀ o : Int, 0 ≤ o → o < 8 → K 117 (8 * (no : Int) + o) = knF (J 100 0) (J 100 26) s o) (f8 : ∀ x : Int, (x < 8 * (no : Int) ∨ 8 * (no : Int) + 8 ≤ x) → K 117 x = J 117 x) : Inv nm (no + 1) K := by
  have hA := h.1
  obtain ⟨hP, hN, hL, hM, hD, h0, h12⟩ := hA
  obtain ⟨p1, p2, p3, p4, p5, p6, p7, p8, p9, p10⟩ := hP
  obtain ⟨g1, g2, g3, s, g4, g5⟩ := hE
  have jo : ∀ x, x < 300 → x ≠ 36 → x ≠ 37 → x ≠ 46 → J x = I x := fun x a b c e => by rw [g1 x b c (by omega) (by omega) (by omega) (by omega) (by omega), upI_o e]; exact hO.1 x e (by omega) (by omega) (by omega) (by omega)
  have jk : ∀ x, (x < 300 + no ∨ (310 ≤ x ∧ x < 310 + no) ∨ (320 ≤ x ∧ x < 320 + no) ∨ (330 ≤ x ∧ x < 330 + no)) → x ≠ 36 → x ≠ 37 → x ≠ 46 → J x = I x := fun x a b c e => by rw [g1 x b c (by omega) (by omega) (by omega) (by omega) (by omega), upI_o e]; exact hO.1 x e (by omega) (by omega) (by omega) (by omega)
  have jq : ∀ x, (x = 300 + no ∨ x = 310 + no ∨ x = 320 + no) → J x = K0 x := fun x a => by rw [g1 x (by omega) (by omega) (by omega) (by omega) (by omega) (by omega) (by omega), upI_o (by omega)]
  have kk : ∀ x, (x < 100 ∨ (100 < x ∧ x < 112) ∨ x = 113 ∨ (117 < x ∧ x < 300 + no) ∨ (310 ≤ x ∧ x < 310 + no) ∨ (320 ≤ x ∧ x < 320 + no) ∨ (330 ≤ x ∧ x < 330 + no)) → x ≠ 36 → x ≠ 37 → x ≠ 46 → K x = I x := fun x a b c e => by rw [f1 x (by omega) (by omega) (by omega) (by omega) (by omega) (by omega)]; exact jk x (by omega) b c e
  have j100 : J 100 = I 100 := jo 100 (by omega) (by omega) (by omega) (by omega)
  have k100 : ∀ j : Int, (j < 20 ∨ 25 < j) → j ≠ 28 → j ≠ 18 → j ≠ 27 → K 100 j = I 100 j := fun j a b c e => by rw [f2 j a b c e, j100]
  have k46 : K 46 1 = 0 := by rw [f1 46 (by decide) (by decide) (by decide) (by decide) (by decide) (by decide), g1 46 (by decide) (by decide) (by omega) (by omega) (by omega) (by omega) (by omega), upI_s]
  have k37 : ∀ j : Int, j ≠ 3 → K 37 j = I 37 j := fun j hj => by rw [f1 37 (by decide) (by decide) (by decide) (by decide) (by decide) (by decide), g2 j hj, upI_o (by decide), hO.1 37 (by decide) (by omega) (by omega) (by omega) (by omega)]
  have k373 : K 37 3 = (no : Int) + 1 := by rw [f1 37 (by decide) (by decide) (by decide) (by decide) (by decide) (by decide), g3]
  have kq : ∀ x, (x = 300 + no ∨ x = 310 + no ∨ x = 320 + no) → K x = K0 x := fun x a => by rw [f1 x (by omega) (by omega) (by omega) (by omega) (by omega) (by omega)]; exact jq x a
  have k330 : ∀ o : Int, 0 ≤ o → o < 8 → K (330 + no) o = knF (I 43 5) (I 37 4) s o := fun o a b => by
    rw [f1 (330 + no) (by omega) (by omega) (by omega) (by omega) (by omega) (by omega), g5 o a b, upI_o (by decide), hO.1 37 (by decide) (by omega) (by omega) (by omega) (by omega)]
  have i21 : upI K0 46 1 0 21 = I 21 := by rw [upI_o (by decide)]; exact hO.1 21 (by decide) (by omega) (by omega) (by omega) (by omega)
  have i24 : upI K0 46 1 0 24 = I 24 := by rw [upI_o (by decide)]; exact hO.1 24 (by decide) (by omega) (by omega) (by omega) (by omega)
  have i25 : upI K0 46 1 0 25 = I 25 := by rw [upI_o (by decide)]; exact hO.1 25 (by decide) (by omega) (by omega) (by omega) (by omega)
  have i26 : upI K0 46 1 0 26 = I 26 := by rw [upI_o (by decide)]; exact hO.1 26 (by decide) (by omega) (by omega) (by omega) (by omega)
  have j117 : J 117 = I 117 := jo 117 (by omega) (by omega) (by omega) (by omega)
  have j116 : J 116 = I 116 := jo 116 (by omega) (by omega) (by omega) (by omega)
  have j115 : J 115 = I 115 := jo 115 (by omega) (by omega) (by omega) (by omega)
  obtain ⟨s2, f7, f7b⟩ := f7
  have hN2 := netM_of p3 p4 p5 hN
  -- the steps are the same
  have es : ∀ o : Int, 0 ≤ o → o < 8 → s2 o = s o := by
    have y1 : stS I s2 := by
      unfold stS at *
      rw [j100, jo 103 (by omega) (by omega) (by omega) (by omega), jo 104 (by omega) (by omega) (by omega) (by omega)] at f7; exact f7
    have y2 : stS I s := by
      have z : solX (upI K0 46 1 0) 1 (f_ishl 1 (upI K0 46 1 0 21 9) - 1) 0 s := g4
      unfold solX Kt at z
      rw [i21, i24, i25, i26] at z
      unfold stS
      rw [hN.2.1.1, hN.1.2.2.1, hN.1.2.2.2.1]
      refine pSol_cg (fun w w0 w1 => ?_) (fun w w0 w1 => ?_) z
      · have y := (p3.2.1 w w0 w1).2.2.2.1
        show (1 + I 26 w - 1) / I 26 w = 1
        rw [show 1 + I 26 w - 1 = I 26 w by omega]
        exact Int.ediv_self (by omega)
      · exact ⟨fun _ => trivial, fun _ => (bt_all p3.1.1 p3.1.2 w0).2.2.mpr w1⟩
    exact p_uniq (okSt hN2) y1 y2 (by decide)
  have ko : ∀ q : Int, q < no → K (oid no q) = I (oid no q) := fun q hq => by
    unfold oid; split
    · exact kk _ (by omega) (by omega) (by omega) (by omega)
    · exact kk 38 (by omega) (by omega) (by omega) (by omega)
  have kr : ∀ (q : Int) (j : Nat), q < no → j < 2 → K (orw (oid no q) j) = I (orw (oid no q) j) := fun q j hq hj => by
    unfold oid orw; split
    · rw [if_neg (by omega)]; rcases (show j = 0 ∨ j = 1 by omega) with e | e <;> subst e
      · exact kk _ (by omega) (by omega) (by omega) (by omega)
      · exact kk _ (by omega) (by omega) (by omega) (by omega)
    · rw [if_pos rfl]; exact kk _ (by omega) (by omega) (by omega) (by omega)
  have ow : ∀ j : Nat, orw (300 + no) j = 310 + no + 10 * j := fun j => by unfold orw; rw [if_neg (by omega)]; omega
  have o38 : ∀ q : Int, ¬ (q < no + 1) → oid (no + 1) q = 38 := fun q hq => by unfold oid; rw [if_neg (by omega)]
  have hOI : ∀ q : Int, q < no → OrdI K (oid no q) := fun q hq => by
    have z := p6.2.2 q
    unfold OrdI at *
    rw [ko q hq, kr q 0 hq (by omega), kr q 1 hq (by omega)]; exact z
  obtain ⟨r1, r2, r3, r4, r5, r6, r7, r8⟩ := hRO
  have rel : ∀ q : Int, -1 ≤ q → q < no + 1 → relO K (no + 1) q := fun q q0 q1 => by
    by_cases c : q < no
    · have z := hL.2.2.2 q q0 c
      have e115 : q ≠ -1 → K 115 q = I 115 q := fun _ => by rw [f4.2 q (by omega), j115]
      have elv : q ≠ -1 → ∀ x : Int, 0 ≤ x → x < 3 * (((I 115 q).toNat : Nat) : Int) → lnV K q x = lnV I q x := fun hq x a b => by
        have y := hL.1.2.2 q (by omega) c
        show K 116 (30 * q + x) = I 116 (30 * q + x)
        rw [f6 _ (by omega), j116]
      have els : ∀ so kd wo, lsO K q so kd wo = lsO I q so kd wo := fun so kd wo => by
        unfold lsO
        by_cases y : q = -1
        · rw [if_pos y, if_pos y]
        · rw [if_neg y, if_neg y, e115 y, lsF_cg _ (elv y)]
      have etw : ∀ kd, twO K q kd ↔ twO I q kd := fun kd => by
        unfold twO
        by_cases y : q = -1
        · rw [if_pos y, if_pos y]
        · rw [if_neg y, if_neg y, e115 y]; exact twF_cg (elv y)
      have eng : ∀ hh, ngO K q hh ↔ ngO I q hh := fun hh => by
        unfold ngO
        by_cases y : q = -1
        · rw [if_pos y, if_pos y]
        · rw [if_neg y, if_neg y, e115 y, ngF_cg _ (elv y)]
      unfold relO nightX at *
      rw [oid_old c, ko q c, kr q 0 c (by omega), kr q 1 c (by omega)]
      obtain ⟨z1, z2, z3, z4, z5, z6⟩ := z
      refine ⟨fun a a0 a1 => by rw [els]; exact z1 a a0 a1, fun a a0 a1 => by rw [els]; exact z2 a a0 a1, by rw [els]; exact z3, by rw [els]; exact z4, fun a a0 a1 => by rw [eng]; exact z5 a a0 a1, fun a a0 a1 => by rw [etw]; exact z6 a a0 a1⟩
    · have eq : q = no := by omega
      subst eq
      have e115 : (K 115 (no : Int)).toNat = k + 1 := by rw [f4.1]; omega
      have elv : ∀ x : Int, 0 ≤ x → x < 3 * ((k + 1 : Nat) : Int) → lnV K (no : Int) x = lvF (I 47) (I 46 1) x := fun x a b => f5 x a (by omega)
      have els : ∀ so kd wo, lsO K (no : Int) so kd wo = lsF (lvF (I 47) (I 46 1)) so kd wo (k + 1) := fun so kd wo => by
        unfold lsO
        rw [if_neg (by omega), e115, lsF_cg _ elv]
      have etw : ∀ kd, twO K (no : Int) kd ↔ twF (lvF (I 47) (I 46 1)) kd (k + 1) := fun kd => by
        unfold twO
        rw [if_neg (by omega), e115]; exact twF_cg elv
      have eng : ∀ hh, ngO K (no : Int) hh ↔ ngF (lvF (I 47) (I 46 1)) hh (k + 1) := fun hh => by
        unfold ngO
        rw [if_neg (by omega), e115, ngF_cg _ elv]
      unfold relO
      rw [oid_new, ow 0, ow 1, show 310 + no + 10 * 0 = 310 + no by omega, show 310 + no + 10 * 1 = 320 + no by omega]
      unfold nightX at *
      rw [kq (300 + no) (by omega), kq (310 + no) (by omega), kq (320 + no) (by omega)]
      exact ⟨fun a a0 a1 => by rw [els]; exact (r1 a a0 a1).1, fun a a0 a1 => by rw [els]; exact (r2 a a0 a1).1, by rw [els]; exact r3.1, by rw [els]; exact r4.1, fun a a0 a1 => by rw [eng]; exact r5 a a0 a1, fun a a0 a1 => by rw [etw]; exact r8 a a0 a1⟩
  have km : ∀ m : Nat, m < nm → K (200 + m) = I (200 + m) := fun m hm => kk _ (by omega) (by omega) (by omega) (by omega)
  refine Inv_AT h (fun x hx => kk x (by omega) (by omega) (by omega) (by omega)) (fun j hj => k100 j (by omega) (by omega) (by omega) (by omega)) ⟨⟨?_, p2, ?_, ?_, ?_, ⟨k373, by omega, fun q => ?_⟩, fun m hm => ?_, fun m hm => ?_, fun m hm => ?_, ?_⟩, ?_, ⟨⟨f3.2, by omega, fun q q0 q1 => ?_⟩, ?_, fun i hi o o0 o1 => ?_, rel⟩, ⟨?_, fun m hm => ?_⟩, fun m hm => ?_, ?_, ?_⟩ ⟨⟨by rw [k46]; decide, by rw [kk 47 (by omega) (by omega) (by omega) (by omega)]; exact h.2.1.1.2⟩, by rw [f3.1, k46], by rw [kk 113 (by omega) (by omega) (by omega) (by omega), kk 47 (by omega) (by omega) (by omega) (by omega)]; exact h.2.1.2.2⟩
  · rw [kk 43 (by omega) (by omega) (by omega) (by omega)]; exact p1
  · unfold NetI at *
    rw [kk 21 (by omega) (by omega) (by omega) (by omega), kk 22 (by omega) (by omega) (by omega) (by omega), kk 23 (by omega) (by omega) (by omega) (by omega), kk 24 (by omega) (by omega) (by omega) (by omega), kk 25 (by omega) (by omega) (by omega) (by omega), kk 26 (by omega) (by omega) (by omega) (by omega), kk 27 (by omega) (by omega) (by omega) (by omega)]; exact p3
  · unfold StI at *
    rw [kk 28 (by omega) (by omega) (by omega) (by omega), kk 29 (by omega) (by omega) (by omega) (by omega), kk 30 (by omega) (by omega) (by omega) (by omega), kk 31 (by omega) (by omega) (by omega) (by omega)]; exact p4
  · unfold StI at *
    rw [kk 32 (by omega) (by omega) (by omega) (by omega), kk 33 (by omega) (by omega) (by omega) (by omega), kk 34 (by omega) (by omega) (by omega) (by omega), kk 35 (by omega) (by omega) (by omega) (by omega)]; exact p5
  · by_cases c : q < no
    · rw [oid_old c]; exact hOI q c
    · by_cases c2 : q = no
      · subst c2
        rw [oid_new]
        unfold OrdI
        rw [ow 0, ow 1, show 310 + no + 10 * 0 = 310 + no by omega, show 310 + no + 10 * 1 = 320 + no by omega, kq (300 + no) (by omega), kq (310 + no) (by omega), kq (320 + no) (by omega)]
        exact ⟨r7, r3.2, r4.2, r6.1, r6.2, fun a a0 a1 => ⟨(r1 a a0 a1).2, (r2 a a0 a1).2⟩⟩
      · rw [o38 q (by omega)]
        have z := hOI (-1) (by omega)
        rwa [show oid no (-1) = 38 by unfold oid; rw [if_neg (by omega)]] at z
  · have z := p7 m hm
    unfold MsgS at *
    rw [km m hm]; exact z
  · rw [kk 21 (by omega) (by omega) (by omega) (by omega), kk 24 (by omega) (by omega) (by omega) (by omega), kk 25 (by omega) (by omega) (by omega) (by omega), kk 43 (by omega) (by omega) (by omega) (by omega), vX_fr (km m hm)]; exact p8 m hm
  · have z := p9 m hm
    unfold CacI at *
    rw [km m hm, kk 21 (by omega) (by omega) (by omega) (by omega), kk 24 (by omega) (by omega) (by omega) (by omega), kk 25 (by omega) (by omega) (by omega) (by omega), kk 26 (by omega) (by omega) (by omega) (by omega)]; exact z
  · rw [kk 43 (by omega) (by omega) (by omega) (by omega)]; exact p10
  · unfold rNet at *
    rw [kk 101 (by omega) (by omega) (by omega) (by omega), kk 102 (by omega) (by omega) (by omega) (by omega), kk 103 (by omega) (by omega) (by omega) (by omega), kk 104 (by omega) (by omega) (by omega) (by omega), kk 105 (by omega) (by omega) (by omega) (by omega), kk 106 (by omega) (by omega) (by omega) (by omega), kk 107 (by omega) (by omega) (by omega) (by omega), kk 108 (by omega) (by omega) (by omega) (by omega), k100 3 (by omega) (by omega) (by omega) (by omega), k100 8 (by omega) (by omega) (by omega) (by omega), k100 10 (by omega) (by omega) (by omega) (by omega), kk 21 (by omega) (by omega) (by omega) (by omega), kk 22 (by omega) (by omega) (by omega) (by omega), kk 23 (by omega) (by omega) (by omega) (by omega), kk 24 (by omega) (by omega) (by omega) (by omega), kk 25 (by omega) (by omega) (by omega) (by omega), kk 26 (by omega) (by omega) (by omega) (by omega), kk 27 (by omega) (by omega) (by omega) (by omega), kk 28 (by omega) (by omega) (by omega) (by omega), kk 29 (by omega) (by omega) (by omega) (by omega), kk 30 (by omega) (by omega) (by omega) (by omega), kk 31 (by omega) (by omega) (by omega) (by omega), kk 32 (by omega) (by omega) (by omega) (by omega), kk 33 (by omega) (by omega) (by omega) (by omega), kk 34 (by omega) (by omega) (by omega) (by omega), kk 35 (by omega) (by omega) (by omega) (by omega)]; exact hN
  · by_cases c : q = no
    · subst c; rw [f4.1]; omega
    · rw [f4.2 q c, j115]; exact hL.1.2.2 q q0 (by omega)
  · rw [k100 26 (by omega) (by omega) (by omega) (by omega), k37 4 (by decide)]; exact hL.2.1
  · by_cases c : i = no
    · subst c
      rw [f7b o o0 o1, k330 o o0 o1, j100, h0, hL.2.1.1]
      unfold knF
      rw [es o o0 o1]
    · rw [f8 _ (by omega), j117, kk (330 + i) (by omega) (by omega) (by omega) (by omega)]
      exact hL.2.2.1 i (by omega) o o0 o1
  · rw [k100 13 (by omega) (by omega) (by omega) (by omega)]; exact hM.1
  · rw [kk 109 (by omega) (by omega) (by omega) (by omega), km m hm]; exact hM.2 m hm
  · rw [vX_fr (km m hm), ← hD m hm]; exact stM_fr (kk 110 (by omega) (by omega) (by omega) (by omega))
  · rw [k100 0 (by omega) (by omega) (by omega) (by omega), kk 43 (by omega) (by omega) (by omega) (by omega)]; exact h0
  · rw [k100 12 (by omega) (by omega) (by omega) (by omega)]; exact h12
theorem pp_force (hd : 10 ≤ d) (hG : GvI g) : PM g d nm no mX11_force mX12_force 4 26 [] := fun I h Q hQ => by
  have hA := h.1
  obtain ⟨hP, hN, hL, hM, hD, h0, h12⟩ := hA
  obtain ⟨p1, p2, p3, p4, p5, p6, p7, p8, p9, p10⟩ := hP
  have hT := h.2.1
  have hno := p6.2.1
  have hN2 := netM_of p3 p4 p5 hN
  refine px_force p2 hno hT.1 hG p6.1 p3 p10 hL.2.1.2 hd Q (fun r J q => ?_) (fun J hlt q => ?_)
  · have hO : FrO I J (300 + no) (310 + no) (320 + no) (330 + no) := by
      rcases q with q | q
      · exact q.2.2
      · exact q.2.2.2
    have jo : ∀ x, x < 300 → x ≠ 46 → J x = I x := fun x a b => hO.1 x b (by omega) (by omega) (by omega) (by omega)
    have j100 : J 100 = I 100 := jo 100 (by omega) (by omega)
    refine hQ nm no r J (SI_mono (py_force (f := I 47) (n := I 46 1) (q := no) (by rw [jo 113 (by omega) (by omega)]; exact hT.2.2) (by rw [j100]; exact hT.2.1) (TyI_of hT (by rw [j100]) (jo 113 (by omega) (by omega))) (netM_cg hN2 (by rw [j100]) (by rw [j100]) (by rw [j100]) (jo 103 (by omega) (by omega)) (jo 104 (by omega) (by omega)) (jo 105 (by omega) (by omega)) (jo 106 (by omega) (by omega))) (by rw [j100]; exact hL.1.1) hno (by rw [j100, h0]; exact p10) (by rw [j100, hL.2.1.1]; exact hL.2.1.2) (by omega)) (fun r2 K p => ?_))
    rcases q with ⟨⟨k, r', y1, y2⟩, e, -⟩ | ⟨⟨k, y1⟩, y2, e, -⟩
    · rcases p with ⟨k2, r2', z1, z2, e2, hQ2⟩ | ⟨z1, ⟨k2, z2⟩, e2, hQ2⟩ | ⟨z1, e2, k2, z2, -⟩
      · exact ⟨by omega, Inv_OQ h hO hQ2⟩
      · exact absurd (rd_uniq y1 z2).2 y2
      · exact absurd (rd_uniq y1 z2).2 y2
    · rcases p with ⟨k2, r2', z1, z2, e2, hQ2⟩ | ⟨z1, ⟨k2, z2⟩, e2, hQ2⟩ | ⟨z1, e2, k2, z2, -⟩
      · exact absurd (rd_uniq z1 y1).2 z2
      · exact ⟨by omega, Inv_OQ h hO hQ2⟩
      · omega
  · obtain ⟨k, K0, hr, hO, hRO, -, hE⟩ := q
    have g1 := hE.1
    have jo : ∀ x, x < 300 → x ≠ 36 → x ≠ 37 → x ≠ 46 → J x = I x := fun x a b c e => by rw [g1 x b c (by omega) (by omega) (by omega) (by omega) (by omega), upI_o e]; exact hO.1 x e (by omega) (by omega) (by omega) (by omega)
    have j100 : J 100 = I 100 := jo 100 (by omega) (by omega) (by omega) (by omega)
    have j113 : J 113 = I 113 := jo 113 (by omega) (by omega) (by omega) (by omega)
    refine hQ nm (no + 1) no J (SI_mono (py_force (f := I 47) (n := I 46 1) (q := no) (by rw [j113]; exact hT.2.2) (by rw [j100]; exact hT.2.1) (TyI_of hT (by rw [j100]) j113) (netM_cg hN2 (by rw [j100]) (by rw [j100]) (by rw [j100]) (jo 103 (by omega) (by omega) (by omega) (by omega)) (jo 104 (by omega) (by omega) (by omega) (by omega)) (jo 105 (by omega) (by omega) (by omega) (by omega)) (jo 106 (by omega) (by omega) (by omega) (by omega))) (by rw [j100]; exact hL.1.1) hno (by rw [j100, h0]; exact p10) (by rw [j100, hL.2.1.1]; exact hL.2.1.2) (by omega)) (fun r2 K p => ?_))
    rcases p with ⟨k2, r2', z1, z2, e2, hQ2⟩ | ⟨z1, ⟨k2, z2⟩, e2, hQ2⟩ | ⟨z1, e2, k2, z2, ⟨f1, f2⟩, f3, f4, f5, f6, f7, f8⟩
    · exact absurd (rd_uniq z1 hr).2 z2
    · omega
    · have ek := (rd_uniq z2 hr).1
      subst ek
      exact ⟨e2.symm, force_inv h hlt hO hRO hE hr.1 f1 f2 f3 f4 f5 f6 f7 f8⟩
end
