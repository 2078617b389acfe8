/-! TIES: wires, orders, messages of the class and of the reference; minutes in both -/
section
variable {g : GH} {d nm no : Nat} {I : II}
def rNet (I : II) : Prop := (I 101 = I 22 ∧ I 102 = I 23 ∧ I 103 = I 24 ∧ I 104 = I 25 ∧ I 105 = I 26 ∧ I 106 = I 27) ∧ (I 100 3 = I 21 9 ∧ I 100 8 = I 28 3 ∧ I 100 10 = I 32 3) ∧ (∀ k : Int, I 107 (3 * k) = I 29 k ∧ I 107 (3 * k + 1) = I 30 k ∧ I 107 (3 * k + 2) = I 31 k) ∧ ∀ k : Int, I 108 (3 * k) = I 33 k ∧ I 108 (3 * k + 1) = I 34 k ∧ I 108 (3 * k + 2) = I 35 k
/-- orders number q tell the same in both -/
def relO (I : II) (no : Nat) (q : Int) : Prop := (∀ k, 0 ≤ k → k < 5 → I (orw (oid no q) 0) k = lsO I q 0 k (rkD k)) ∧ (∀ k, 0 ≤ k → k < 5 → I (orw (oid no q) 1) k = lsO I q 1 k 1) ∧ I (oid no q) 4 = lsO I q 2 0 0 ∧ I (oid no q) 5 = lsO I q 5 0 0 ∧ (∀ h, 0 ≤ h → h < 24 → (nightX I (oid no q) h ↔ ngO I q h)) ∧ ∀ k, 0 ≤ k → k < 5 → ((k = 4 ∨ bt (I (oid no q) 3) k) ↔ twO I q k)
def rLaw (I : II) (no : Nat) : Prop := LnI I no ∧ (I 100 26 = I 37 4 ∧ 0 ≤ I 37 4 ∧ I 37 4 ≤ 99) ∧ (∀ k : Nat, k < no → ∀ o, 0 ≤ o → o < 8 → I 117 (8 * k + o) = I (330 + k) o) ∧ ∀ q : Int, -1 ≤ q → q < no → relO I no q
def rMsg (I : II) (nm : Nat) : Prop := I 100 13 = nm ∧ ∀ m : Nat, m < nm → I 109 (6 * m + 1) = I (200 + m) 0 ∧ I 109 (6 * m + 2) = I (200 + m) 1 ∧ I 109 (6 * m + 3) = I (200 + m) 2 ∧ I 109 (6 * m + 4) = I (200 + m) 4 ∧ I 109 (6 * m + 5) = I (200 + m) 3
theorem netM_of {I : II} (hN : NetI I) (h1 : StI I 28 29 30 31 12) (h2 : StI I 32 33 34 35 6) (hr : rNet I) : NetM I := by
  obtain ⟨⟨a1, a2, a3, a4, a5, a6⟩, ⟨b1, b2, b3⟩, -, -⟩ := hr
  unfold NetM
  rw [a3, a4, a5, a6, b1, b2, b3]
  exact ⟨hN.1, ⟨h1.1, h1.2.1⟩, ⟨h2.1, h2.2.1⟩, hN.2.1⟩
theorem upM_of {I : II} {t v : Int} (hr : rNet I) (h0 : 0 ≤ v) (h1 : v < I 21 9) : upM I t v ↔ UX I (I 100 12) t v := by
  obtain ⟨-, ⟨b1, b2, b3⟩, c1, c2⟩ := hr
  unfold upM UX upX stp sM
  rw [b2, b3]
  constructor
  · rintro ⟨z1, z2, z3⟩
    refine ⟨h0, ⟨h1, ?_, ?_⟩, z1⟩
    · rintro ⟨k, k0, k1, k2, k3, k4⟩
      obtain ⟨x1, x2, x3⟩ := c1 k
      exact z2 k k0 k1 ⟨by rw [x1]; exact k2, by rw [x2]; exact k3, by rw [x3]; exact k4⟩
    · rintro ⟨k, k0, k1, k2, k3, k4⟩
      obtain ⟨x1, x2, x3⟩ := c2 k
      exact z3 k k0 k1 ⟨by rw [x1]; exact k2, by rw [x2]; exact k3, by rw [x3]; exact k4⟩
  · rintro ⟨-, ⟨-, z2, z3⟩, z1⟩
    refine ⟨z1, fun k k0 k1 z => z2 ⟨k, k0, k1, ?_⟩, fun k k0 k1 z => z3 ⟨k, k0, k1, ?_⟩⟩
    · obtain ⟨x1, x2, x3⟩ := c1 k
      rw [x1, x2, x3] at z; exact z
    · obtain ⟨x1, x2, x3⟩ := c2 k
      rw [x1, x2, x3] at z; exact z
/-- what stands still in a minute -/
def SttI (I : II) (nm no : Nat) : Prop := (NetI I ∧ StI I 28 29 30 31 12 ∧ StI I 32 33 34 35 6 ∧ LawI I no ∧ (∀ m, m < nm → MsgS I (200 + m)) ∧ nm ≤ 24) ∧ rNet I ∧ rLaw I no ∧ rMsg I nm
theorem ob_gb {I : II} {no : Nat} {o t : Int} (h : rLaw I no) (ho : 0 ≤ o ∧ o < 8) : obF (I 117) o t no = gbF I o t no := obF_gb no (fun k hk => h.2.2.1 k hk o ho.1 ho.2)
theorem ws_of {I : II} {no : Nat} {q n k : Int} (h : rLaw I no) (hq : -1 ≤ q ∧ q < no) (hk : 0 ≤ k ∧ k < 5) : wsO I q n k = wsX I (oid no q) n k := by
  have z := (h.2.2.2 q hq.1 hq.2).2.2.2.2.2 k hk.1 hk.2
  unfold wsO wsX
  by_cases e : k = 4 ∨ bt (I (oid no q) 3) k
  · rw [cif_t (z.mp e), if_pos e]
  · rw [cif_f (fun y => e (z.mpr y)), if_neg e]
theorem mdI_of {I : II} {nm no : Nat} {t lw : Int} (h : SttI I nm no) (hlw : lw = I 100 12) (ht : 0 ≤ t ∧ t ≤ 9000) : MdI I nm no t (I 24) (I 25) (I 26) (I 27) (UX I lw t) (opX I t) (fun o to n => nxF (I 21 9) (I 24) (I 25) (I 26) (UX I lw t) o to n) (fun o n k => wsX I (goX I no o t) n k) (fun o k => I (orw (goX I no o t) 0) k) (fun o => nightX I (goX I no o t) (t % 1440 / 60)) (fun m => I (200 + m) 0) (fun m => I (200 + m) 1) (fun m => I (200 + m) 2) (fun m => I (200 + m) 4) := by
  obtain ⟨⟨hN, h1, h2, hL, hS, h24⟩, hr, hw, hm⟩ := h
  have hNM := netM_of hN h1 h2 hr
  have hb := fun o : Int => gbF_bd I o t no
  subst hlw
  have hup : ∀ v, 0 ≤ v → v < I 100 3 → (upM I t v ↔ UX I (I 100 12) t v) := fun v v0 v1 => upM_of hr v0 (by rw [← hr.2.1.1]; exact v1)
  refine ⟨⟨hNM, hw.1, hr.1.2.2.1, hr.1.2.2.2.1, hr.1.2.2.2.2.1, hr.1.2.2.2.2.2, hm.1, h24, ht⟩, hup, fun o o0 o1 => ?_, fun o o0 o1 n k n0 n1 k0 k1 => ?_, fun o o0 o1 k k0 k1 => ?_, fun o o0 o1 => ?_, fun o to n r o0 o1 t0 t1 hne n0 n1 hx => ?_, fun m hmn => ?_⟩
  · rw [hr.1.1, hr.1.2.1]; exact Iff.rfl
  · rw [ob_gb hw ⟨o0, o1⟩]; exact ws_of hw ⟨(hb o).1, (hb o).2⟩ ⟨k0, k1⟩
  · rw [ob_gb hw ⟨o0, o1⟩]; exact ((hw.2.2.2 _ (hb o).1 (hb o).2).1 k k0 k1).symm
  · rw [ob_gb hw ⟨o0, o1⟩]; exact ((hw.2.2.2 _ (hb o).1 (hb o).2).2.2.2.2.1 _ (by omega) (by omega)).symm
  · have e1 : isNx (I 100 3) (I 103) (I 104) (KtM I n) (upM I t) to o r = isNx (I 21 9) (I 24) (I 25) (fun v => (n + I 26 v - 1) / I 26 v) (UX I (I 100 12) t) to o r := by
      rw [isNx_congr hup, hr.1.2.2.1, hr.1.2.2.2.1, hr.2.1.1]
      unfold KtM
      rw [hr.1.2.2.2.2.1]
    rw [e1] at hx
    exact (nxF_eq (netOK hN n0) ⟨t0, t1⟩ ⟨o0, o1⟩ hx).symm
  · have z := hm.2 m hmn
    have s := hS m hmn
    exact ⟨⟨z.1, z.2.1, z.2.2.1, z.2.2.2.1⟩, s.1, s.2.1, s.2.2.1⟩
/-- the reference's minutes change no more than this -/
def FrH (I J : II) : Prop := (∀ x, x ≠ 100 → x ≠ 110 → x ≠ 112 → J x = I x) ∧ ∀ j : Int, j ≠ 0 → J 100 j = I 100 j
theorem FrH_rf {I : II} : FrH I I := ⟨fun _ _ _ _ => rfl, fun _ _ => rfl⟩
theorem FrH_G {I J K : II} (h : FrH I J) (h2 : FrG J K) : FrH I K := ⟨fun x a b c => (h2 x b c).trans (h.1 x a b c), fun j hj => by rw [h2 100 (by decide) (by decide)]; exact h.2 j hj⟩
theorem MdI_frH {I J : II} {nm no2 : Nat} {t : Int} {A B SPD DB : Int → Int} {U OP : Int → Prop} {NX : Int → Int → Int → Int} {WS : Int → Int → Int → Int} {RK : Int → Int → Int} {NT : Int → Prop} {TO WD KD HI : Nat → Int} (h : FrH I J) (hM : MdI I nm no2 t A B SPD DB U OP NX WS RK NT TO WD KD HI) : MdI J nm no2 t A B SPD DB U OP NX WS RK NT TO WD KD HI := by
  unfold MdI NetM LnI upM wsO twO lsO ngO lnV KtM at *
  rw [h.2 3 (by decide), h.2 8 (by decide), h.2 10 (by decide), h.2 12 (by decide), h.2 13 (by decide), h.2 27 (by decide), h.1 101 (by decide) (by decide) (by decide), h.1 102 (by decide) (by decide) (by decide), h.1 103 (by decide) (by decide) (by decide), h.1 104 (by decide) (by decide) (by decide), h.1 105 (by decide) (by decide) (by decide), h.1 106 (by decide) (by decide) (by decide), h.1 107 (by decide) (by decide) (by decide), h.1 108 (by decide) (by decide) (by decide), h.1 109 (by decide) (by decide) (by decide), h.1 115 (by decide) (by decide) (by decide), h.1 116 (by decide) (by decide) (by decide), h.1 117 (by decide) (by decide) (by decide)]
  exact hM
theorem y_min_loop {n t lw : Int} {D : MV} {Q : QT} (hd : 7 ≤ d) (hS : SttI I nm no) (hlw : lw = I 100 12) (ht : 0 ≤ t ∧ t + n ≤ 9000) (hm : DmI D nm (I 21 9) (I 24) (I 25) t) (hD : StD I nm D) (h0 : I 100 0 = t) (hn : 0 ≤ n ∧ n ≤ 300) (h : ∀ L, FrH I L → L 100 0 = t + n → StD L nm (minN I nm no lw t D n.toNat) → Q (some (vi (t + n))) (shX nm no) (RX nm no) L) :
    ∀ (k i : Nat) (L : II), n.toNat - i < k → i ≤ n.toNat → FrH I L → L 100 0 = t + i → StD L nm (minN I nm no lw t D i) → DmI (minN I nm no lw t D i) nm (I 21 9) (I 24) (I 25) (t + i) → T g d mX12_minutes 0 0 27 [some (vr 100), some (vi n), some (vi i)] [] (shX nm no) (RX nm no) L Q := by
  have h3 := hS.2.1.2.1.1
  intro k
  induction k with
  | zero => intro i L hk; omega
  | succ k ih =>
    intro i L hk hi hF hL0 hSL hDL
    have eL3 : L 100 3 = I 21 9 := by rw [hF.2 3 (by decide)]; exact h3
    refine m_iload_n dX12_minutes_27 rfl ?_
    refine m_iload_n dX12_minutes_28 rfl ?_
    refine m_icmp_ge (tgt := 56) dX12_minutes_29 (by decide) (fun c29 => ?_) (fun c29 => ?_)
    · have ei : i = n.toNat := by omega
      subst ei
      refine m_aload_n dX12_minutes_56 rfl ?_
      refine m_gi (z := 0) dX12_minutes_57 fl_X12_144 oX_100 rfl rfl ?_
      refine m_iret dX12_minutes_60 rfl ?_
      rw [hL0, show t + ((n.toNat : Nat) : Int) = t + n by omega]
      exact h L hF (by rw [hL0]; omega) hSL
    · refine m_aload_n dX12_minutes_32 rfl ?_
      refine m_aload_n dX12_minutes_33 rfl ?_
      refine m_gi (z := 0) dX12_minutes_34 fl_X12_144 oX_100 rfl rfl ?_
      rw [hL0]
      refine m_VV [_] dX12_minutes_37 lk_X12_209 rfl oX_100 rfl (Nat.le_of_ble_eq_true rfl) (by omega) (y_goMinute (by omega) (MdI_frH hF (mdI_of hS hlw (by omega))) (by rw [eL3]; exact hDL) hSL) ?_
      intro I37 q37
      obtain ⟨w1, w2, w3⟩ := q37
      rw [eL3] at w2 w3
      have hF2 := FrH_G hF w1
      have e0 : I37 100 0 = t + i := by rw [w1 100 (by decide) (by decide)]; exact hL0
      refine m_aload_n dX12_minutes_40 rfl ?_
      refine m_dup dX12_minutes_41 (fun _ z => by cases z) ?_
      refine m_gi (z := 0) dX12_minutes_42 fl_X12_144 oX_100 rfl rfl ?_
      refine m_iconst dX12_minutes_45 (by decide) ?_
      refine m_iadd dX12_minutes_46 (by rw [e0]; omega) ?_
      refine m_pi (z := 0) dX12_minutes_47 fl_X12_144 oX_100 rfl rfl rfl ?_
      refine m_iinc dX12_minutes_50 rfl (by decide) rfl rfl (by omega) ?_
      refine m_goto (tgt := 27) dX12_minutes_53 (by decide) ?_
      refine ih (i + 1) _ (by omega) (by omega) ⟨fun x a b c => by rw [upI_o a]; exact hF2.1 x a b c, fun j hj => by rw [upI_j hj]; exact hF2.2 j hj⟩ (by rw [upI_s, e0]; omega) (fun j hj => by rw [show ∀ v : Int, stM (upI I37 100 0 v) j = stM I37 j from fun v => stM_fr (upI_o (by decide))]; exact w2 j hj) ?_
      rw [show t + ((i + 1 : Nat) : Int) = t + i + 1 by omega]
      exact w3
theorem py_minutes {n t : Int} {D : MV} (hd : 7 ≤ d) (hS : SttI I nm no) (hlw : I 100 12 = -9) (h0 : I 100 0 = t) (ht : 0 ≤ t ∧ t ≤ 9000) (hm : DmI D nm (I 21 9) (I 24) (I 25) t) (hD : StD I nm D) : SI g d mX12_minutes [vr 100, vi n] (shX nm no) (RX nm no) I (fun r L => (¬ ((1 ≤ n ∧ n ≤ 120) ∧ t + n ≤ 9000) ∧ r = -3 ∧ L = I) ∨ (((1 ≤ n ∧ n ≤ 120) ∧ t + n ≤ 9000) ∧ r = t + n ∧ FrH I L ∧ L 100 0 = t + n ∧ StD L nm (minN I nm no (-9) t D n.toNat))) := by
  intro Q h
  refine C_of rfl (Nat.le_of_ble_eq_true rfl) rfl ?_
  refine m_iload_n dX12_minutes_0 rfl ?_
  refine m_iconst dX12_minutes_1 (by decide) ?_
  refine m_bipush dX12_minutes_2 rfl (by decide) ?_
  refine m_Si [_, _, _] dX12_minutes_4 lk_X12_123 rfl rfl (Nat.le_of_ble_eq_true rfl) (by omega) y_in ?_
  refine m_if_eq (tgt := 22) dX12_minutes_7 (by decide) (fun c7 => ?_) (fun c7 => ?_)
  · have z7 := bI_eq0 c7
    refine m_bipush dX12_minutes_22 rfl (by decide) ?_
    refine m_iret dX12_minutes_24 rfl ?_
    exact h _ _ (Or.inl ⟨by omega, rfl, rfl⟩)
  · have z7 := bI_ne0 c7
    refine m_aload_n dX12_minutes_10 rfl ?_
    refine m_gi (z := 0) dX12_minutes_11 fl_X12_144 oX_100 rfl rfl ?_
    refine m_iload_n dX12_minutes_14 rfl ?_
    refine m_iadd dX12_minutes_15 (by omega) ?_
    refine m_sipush dX12_minutes_16 rfl (by decide) ?_
    refine m_icmp_le (tgt := 25) dX12_minutes_19 (by decide) (fun c19 => ?_) (fun c19 => ?_)
    · refine m_iconst dX12_minutes_25 (by decide) ?_
      refine m_istore_n dX12_minutes_26 (by decide) rfl rfl ?_
      exact y_min_loop (lw := -9) hd hS hlw.symm ⟨ht.1, by omega⟩ hm hD h0 ⟨by omega, by omega⟩ (fun L a b c => h _ L (Or.inr ⟨⟨z7, by omega⟩, rfl, a, b, c⟩)) _ 0 I (Nat.lt_succ_self _) (by omega) FrH_rf (by rw [h0]; exact (Int.add_zero t).symm) hD (by rw [show t + ((0 : Nat) : Int) = t from Int.add_zero t]; exact hm)
    · refine m_bipush dX12_minutes_22 rfl (by decide) ?_
      refine m_iret dX12_minutes_24 rfl ?_
      exact h _ _ (Or.inl ⟨by omega, rfl, rfl⟩)
theorem px_minutes {n : Int} (hd : 7 ≤ d) (hI : PoI I nm no) : SI g d mX11_minutes [vr 20, vi n] (shX nm no) (RX nm no) I (fun r J => (¬ ((1 ≤ n ∧ n ≤ 120) ∧ I 43 5 + n ≤ 9000) ∧ r = -3 ∧ J = I) ∨ (((1 ≤ n ∧ n ≤ 120) ∧ I 43 5 + n ≤ 9000) ∧ r = I 43 5 + n ∧ FrP I J nm ∧ PoI J nm no ∧ J 43 5 = I 43 5 + n ∧ vX J = minN I nm no (-9) (I 43 5) (vX I) n.toNat)) := by
  have ht := hI.2.2.2.2.2.2.2.2.2
  intro Q h
  refine C_of rfl (Nat.le_of_ble_eq_true rfl) rfl ?_
  refine m_iload_n dX11_minutes_0 rfl ?_
  refine m_iconst dX11_minutes_1 (by decide) ?_
  refine m_bipush dX11_minutes_2 rfl (by decide) ?_
  refine m_Si [_, _, _] dX11_minutes_4 lk_X11_71 rfl rfl (Nat.le_of_ble_eq_true rfl) (by omega) x_isWithin ?_
  refine m_if_eq (tgt := 25) dX11_minutes_7 (by decide) (fun c7 => ?_) (fun c7 => ?_)
  · have z7 := bI_eq0 c7
    refine m_bipush dX11_minutes_25 rfl (by decide) ?_
    refine m_iret dX11_minutes_27 rfl ?_
    exact h _ _ (Or.inl ⟨by omega, rfl, rfl⟩)
  · have z7 := bI_ne0 c7
    refine m_aload_n dX11_minutes_10 rfl ?_
    refine m_gr (z := 2) dX11_minutes_11 fl_X11_28 oX_20 rfl rfl rX_20_2 ?_
    refine m_gi (z := 5) dX11_minutes_14 fl_X11_105 oX_43 rfl rfl ?_
    refine m_iload_n dX11_minutes_17 rfl ?_
    refine m_iadd dX11_minutes_18 (by omega) ?_
    refine m_sipush dX11_minutes_19 rfl (by decide) ?_
    refine m_icmp_le (tgt := 28) dX11_minutes_22 (by decide) (fun c22 => ?_) (fun c22 => ?_)
    · refine m_aload_n dX11_minutes_28 rfl ?_
      refine m_gr (z := 2) dX11_minutes_29 fl_X11_28 oX_20 rfl rfl rX_20_2 ?_
      refine m_iload_n dX11_minutes_32 rfl ?_
      refine m_iconst dX11_minutes_33 (by decide) ?_
      refine m_VV [_, _] dX11_minutes_34 lk_X11_118 rfl oX_43 rfl (Nat.le_of_ble_eq_true rfl) (by omega) (x_pass (lw := -9) (by omega) hI ⟨by omega, by omega⟩ (Or.inl ⟨rfl, rfl⟩)) ?_
      intro I34 q34
      refine m_aload_n dX11_minutes_37 rfl ?_
      refine m_gr (z := 2) dX11_minutes_38 fl_X11_28 oX_20 rfl rfl rX_20_2 ?_
      refine m_gi (z := 5) dX11_minutes_41 fl_X11_105 oX_43 rfl rfl ?_
      refine m_iret dX11_minutes_44 rfl ?_
      exact h _ _ (Or.inr ⟨⟨z7, by omega⟩, q34.2.2.1, q34.1, q34.2.1, q34.2.2.1, q34.2.2.2⟩)
    · refine m_bipush dX11_minutes_25 rfl (by decide) ?_
      refine m_iret dX11_minutes_27 rfl ?_
      exact h _ _ (Or.inl ⟨by omega, rfl, rfl⟩)
end
