/-! PAIRS: fault, force -/
section
variable {g : GH} {d nm no nm2 no2 : Nat} {I J K : II}
def PM (g : GH) (d nm no : Nat) (μ1 μ2 : MT) (bc bs : Nat) (as : List AV) : Prop := ∀ I, Inv nm no I → ∀ Q : QT, (∀ (nm2 no2 : Nat) (r : Int) (J : II), SI g d μ2 (vr 100 :: as) (shX nm2 no2) (RX nm2 no2) J (fun r2 K => r = r2 ∧ Inv nm2 no2 K) → Q (some (vi r)) (shX nm2 no2) (RX nm2 no2) J) → C g d μ1 bc bs (vr 20 :: as) (shX nm no) (RX nm no) I Q
theorem PM_of {μ1 μ2 : MT} {as : List AV} (h : PR g d nm no μ1 μ2 as) : PM g d nm no μ1 μ2 0 0 as := fun I hI Q q => h I hI Q (fun r J z => q nm no r J z)
theorem TyI_of (h : vT I) (e1 : J 100 18 = I 100 18) (e2 : J 113 = I 113) : TyI J := by
  obtain ⟨t1, t2, t3⟩ := h
  unfold TyI
  rw [e1, e2, t2, t3]; exact t1
theorem Inv_OQ (h : Inv nm no I) (hO : FrO I J (300 + no) (310 + no) (320 + no) (330 + no)) (hQ : FrQ J K) : Inv nm no K := by
  have j100 : J 100 = I 100 := hO.1 100 (by decide) (by omega) (by omega) (by omega) (by omega)
  refine Inv_T h (fun x hx => by rw [hQ.1 x (by omega) (by omega)]; exact hO.1 x (by omega) (by omega) (by omega) (by omega) (by omega)) (fun j hj => by rw [hQ.2 j (by omega) (by omega), j100]) (vT_fr h.2.1 ?_ ?_ ?_ ?_)
  · rw [hQ.1 46 (by decide) (by decide)]; exact hO.2 1 (by decide) (by decide) (by decide) (by decide)
  · rw [hQ.1 47 (by decide) (by decide)]; exact hO.1 47 (by decide) (by omega) (by omega) (by omega) (by omega)
  · rw [hQ.2 18 (by decide) (by decide), j100]
  · rw [hQ.1 113 (by decide) (by decide)]; exact hO.1 113 (by decide) (by omega) (by omega) (by omega) (by omega)
theorem pp_fault (hd : 10 ≤ d) (hG : GvI g) : PR g d nm no mX11_fault mX12_fault [] := fun I h => by
  have hT := h.2.1
  have hno := h.1.1.2.2.2.2.2.1.2.1
  refine SI_mono (px_fault h.1.1.2.1 hno hT.1 hG hd) (fun r J q => ?_)
  obtain ⟨k, hr, hO, -, -⟩ := q
  have j100 : J 100 = I 100 := hO.1 100 (by decide) (by omega) (by omega) (by omega) (by omega)
  have j113 : J 113 = I 113 := hO.1 113 (by decide) (by omega) (by omega) (by omega) (by omega)
  refine SI_mono (py_fault (f := I 47) (n := I 46 1) (by rw [j113]; exact hT.2.2) (by rw [j100]; exact hT.2.1) (TyI_of hT (by rw [j100]) j113) (by omega)) (fun r2 K p => ?_)
  obtain ⟨hQ, k2, hr2⟩ := p
  exact ⟨(rd_uniq hr hr2).2, Inv_OQ h hO hQ⟩
theorem Inv_AT (h : Inv nm no I) (o : ∀ x : Nat, ((48 ≤ x ∧ x ≤ 84) ∨ (118 ≤ x ∧ x ≤ 134)) → K x = I x) (q : ∀ j : Int, 28 < j → K 100 j = I 100 j) (hA : vA K nm2 no2) (hT : vT K) : Inv nm2 no2 K := by
  obtain ⟨-, -, hB, hP, hS, hD⟩ := h
  exact ⟨hA, hT, vB_fr hB (o 49 (by omega)) (o 50 (by omega)) (o 118 (by omega)) (o 119 (by omega)) (o 125 (by omega)), vP_fr hP (by rw [o 55 (by omega)]) (o 56 (by omega)) (fun r _ => o _ (by omega)) (fun r _ => o _ (by omega)) (q 41 (by decide)) (o 126 (by omega)) (o 127 (by omega)) (o 128 (by omega)), vS_fr hS (o 76 (by omega)) (o 77 (by omega)) (o 78 (by omega)) (o 129 (by omega)) (q 46 (by decide)) (q 47 (by decide)), vD_fr hD (o 79 (by omega)) (o 80 (by omega)) (o 81 (by omega)) (o 82 (by omega)) (o 84 (by omega)) (q 48 (by decide)) (o 130 (by omega)) (o 131 (by omega)) (o 132 (by omega))⟩
theorem lsF_cg {v v' : Int → Int} {so kd wo : Int} : ∀ k : Nat, (∀ x : Int, 0 ≤ x → x < 3 * (k : Int) → v x = v' x) → lsF v so kd wo k = lsF v' so kd wo k
  | 0, _ => rfl
  | k + 1, h => by
    unfold lsF
    rw [lsF_cg k (fun x a b => h x a (by omega)), h (3 * (k : Int)) (by omega) (by omega), h (3 * (k : Int) + 1) (by omega) (by omega), h (3 * (k : Int) + 2) (by omega) (by omega)]
theorem twF_cg {v v' : Int → Int} {kd : Int} {n : Nat} (h : ∀ x : Int, 0 ≤ x → x < 3 * (n : Int) → v x = v' x) : twF v kd n ↔ twF v' kd n := by
  unfold twF
  refine or_congr Iff.rfl ⟨fun ⟨k, a, b, c⟩ => ⟨k, a, ?_, ?_⟩, fun ⟨k, a, b, c⟩ => ⟨k, a, ?_, ?_⟩⟩
  · rw [← h _ (by omega) (by omega)]; exact b
  · rw [← h _ (by omega) (by omega)]; exact c
  · rw [h _ (by omega) (by omega)]; exact b
  · rw [h _ (by omega) (by omega)]; exact c
theorem ngF_cg {v v' : Int → Int} {hh : Int} : ∀ k : Nat, (∀ x : Int, 0 ≤ x → x < 3 * (k : Int) → v x = v' x) → ngF v hh k = ngF v' hh k
  | 0, _ => rfl
  | k + 1, h => by
    unfold ngF
    rw [ngF_cg k (fun x a b => h x a (by omega)), h (3 * (k : Int)) (by omega) (by omega), h (3 * (k : Int) + 1) (by omega) (by omega), h (3 * (k : Int) + 2) (by omega) (by omega)]
theorem pSol_cg {W : Int} {A B L L' : Int → Int} {U U' : Int → Prop} {to : Int} {s : Int → Int} (hK : ∀ w, 0 ≤ w → w < W → L w = L' w) (hU : ∀ w, 0 ≤ w → w < W → (U w ↔ U' w)) (h : pSol W A B L U to s) : pSol W A B L' U' to s := by
  obtain ⟨⟨y1, y2, y3⟩, y4⟩ := h
  refine ⟨⟨y1, y2, fun o o0 o1 o2 o3 => ?_⟩, fun w hw => ?_⟩
  · obtain ⟨w, hw, z⟩ := y3 o o0 o1 o2 o3
    refine ⟨w, ⟨hw.1, hw.2.1, (hU w hw.1 hw.2.1).mp hw.2.2⟩, ?_⟩
    rw [← hK w hw.1 hw.2.1]; exact z
  · rw [← hK w hw.1 hw.2.1]
    exact y4 w ⟨hw.1, hw.2.1, (hU w hw.1 hw.2.1).mpr hw.2.2⟩
theorem oid_old {q : Int} (hq : q < no) : oid (no + 1) q = oid no q := by
  unfold oid
  by_cases c : 0 ≤ q ∧ q < no
  · rw [if_pos c, if_pos ⟨c.1, by omega⟩]
  · rw [if_neg c, if_neg (by omega)]
theorem oid_new : oid (no + 1) (no : Int) = 300 + no := by
  unfold oid
  rw [if_pos ⟨by omega, by omega⟩, Int.toNat_natCast]
end
