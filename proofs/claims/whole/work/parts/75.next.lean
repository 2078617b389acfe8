/-! NEXT AND FIRST in both; frames of what stands still -/
section
variable {g : GH} {d nm no : Nat} {I : II}
/-- J is as I where what stands still is looked up -/
def FrT (I J : II) (nm : Nat) : Prop := (∀ x, ((20 ≤ x ∧ x < 43 ∧ x ≠ 36) ∨ (101 ≤ x ∧ x ≤ 109) ∨ (115 ≤ x ∧ x ≤ 117) ∨ 300 ≤ x) → J x = I x) ∧ (∀ m : Nat, m < nm → ∀ j : Int, j < 5 → J (200 + m) j = I (200 + m) j) ∧ (J 100 3 = I 100 3 ∧ J 100 8 = I 100 8 ∧ J 100 10 = I 100 10 ∧ J 100 13 = I 100 13 ∧ J 100 26 = I 100 26 ∧ J 100 27 = I 100 27)
theorem fr_oid {I J : II} {nm no : Nat} (h : FrT I J nm) (q : Int) : J (oid no q) = I (oid no q) := by
  rcases oid_ge no q with e | e
  · exact h.1 _ (by omega)
  · exact h.1 _ (by omega)
theorem fr_orw {I J : II} {nm no : Nat} (h : FrT I J nm) (q : Int) (k : Nat) (hk : k < 3) : J (orw (oid no q) k) = I (orw (oid no q) k) := by
  rcases orw_ge (oid no q) k (oid_ge no q) hk with e | e
  · exact h.1 _ (by omega)
  · exact h.1 _ (by omega)
theorem ordI_fr {I J : II} {nm no : Nat} (h : FrT I J nm) (q : Int) (ho : OrdI I (oid no q)) : OrdI J (oid no q) := by
  unfold OrdI at *
  rw [fr_oid h, fr_orw h q 0 (by omega), fr_orw h q 1 (by omega)]
  exact ho
theorem netI_frT {I J : II} {nm : Nat} (h : FrT I J nm) (hN : NetI I) : NetI J := by
  unfold NetI at *
  rw [h.1 21 (by omega), h.1 22 (by omega), h.1 23 (by omega), h.1 24 (by omega), h.1 25 (by omega), h.1 26 (by omega), h.1 27 (by omega)]
  exact hN
theorem stI_frT {I J : II} {nm : Nat} (h : FrT I J nm) {o a b c : Nat} {N : Int} (ho : 28 ≤ o ∧ o < 36) (ha : 28 ≤ a ∧ a < 36) (hb : 28 ≤ b ∧ b < 36) (hc : 28 ≤ c ∧ c < 36) (hS : StI I o a b c N) : StI J o a b c N := stI_fr (h.1 _ (by omega)) (h.1 _ (by omega)) (h.1 _ (by omega)) (h.1 _ (by omega)) hS
theorem lawI_frT {I J : II} {nm no : Nat} (h : FrT I J nm) (hL : LawI I no) : LawI J no := ⟨by rw [h.1 37 (by omega)]; exact hL.1, hL.2.1, fun n => ordI_fr h n (hL.2.2 n)⟩
theorem rNet_frT {I J : II} {nm : Nat} (h : FrT I J nm) (hr : rNet I) : rNet J := by
  unfold rNet at *
  rw [h.1 21 (by omega), h.1 22 (by omega), h.1 23 (by omega), h.1 24 (by omega), h.1 25 (by omega), h.1 26 (by omega), h.1 27 (by omega), h.1 28 (by omega), h.1 29 (by omega), h.1 30 (by omega), h.1 31 (by omega), h.1 32 (by omega), h.1 33 (by omega), h.1 34 (by omega), h.1 35 (by omega), h.1 101 (by omega), h.1 102 (by omega), h.1 103 (by omega), h.1 104 (by omega), h.1 105 (by omega), h.1 106 (by omega), h.1 107 (by omega), h.1 108 (by omega), h.2.2.1, h.2.2.2.1, h.2.2.2.2.1]
  exact hr
theorem relO_frT {I J : II} {nm no : Nat} (h : FrT I J nm) (q : Int) (hr : relO I no q) : relO J no q := by
  unfold relO nightX lsO ngO twO lnV at *
  rw [fr_oid h, fr_orw h q 0 (by omega), fr_orw h q 1 (by omega), h.1 115 (by omega), h.1 116 (by omega)]
  exact hr
theorem rLaw_frT {I J : II} {nm no : Nat} (h : FrT I J nm) (hr : rLaw I no) : rLaw J no := by
  obtain ⟨h1, h2, h3, h4⟩ := hr
  refine ⟨⟨by rw [h.2.2.2.2.2.2.2]; exact h1.1, h1.2.1, fun q a b => by rw [h.1 115 (by omega)]; exact h1.2.2 q a b⟩, by rw [h.2.2.2.2.2.2.1, h.1 37 (by omega)]; exact h2, fun k hk o a b => ?_, fun q a b => relO_frT h q (h4 q a b)⟩
  rw [h.1 117 (by omega), h.1 (330 + k) (by omega)]
  exact h3 k hk o a b
theorem msgS_frT {I J : II} {nm : Nat} (h : FrT I J nm) (hS : ∀ m, m < nm → MsgS I (200 + m)) : ∀ m, m < nm → MsgS J (200 + m) := fun m hm => by
  unfold MsgS
  rw [h.2.1 m hm 0 (by omega), h.2.1 m hm 1 (by omega), h.2.1 m hm 2 (by omega), h.2.1 m hm 3 (by omega), h.2.1 m hm 4 (by omega)]
  exact hS m hm
theorem rMsg_frT {I J : II} {nm : Nat} (h : FrT I J nm) (hr : rMsg I nm) : rMsg J nm := by
  refine ⟨by rw [h.2.2.2.2.2.1]; exact hr.1, fun m hm => ?_⟩
  rw [h.1 109 (by omega), h.2.1 m hm 0 (by omega), h.2.1 m hm 1 (by omega), h.2.1 m hm 2 (by omega), h.2.1 m hm 3 (by omega), h.2.1 m hm 4 (by omega)]
  exact hr.2 m hm
theorem sttI_frT {I J : II} {nm no : Nat} (h : FrT I J nm) (hS : SttI I nm no) : SttI J nm no :=
  ⟨⟨netI_frT h hS.1.1, stI_frT h (by omega) (by omega) (by omega) (by omega) hS.1.2.1, stI_frT h (by omega) (by omega) (by omega) (by omega) hS.1.2.2.1, lawI_frT h hS.1.2.2.2.1, msgS_frT h hS.1.2.2.2.2.1, hS.1.2.2.2.2.2⟩, rNet_frT h hS.2.1, rLaw_frT h hS.2.2.1, rMsg_frT h hS.2.2.2⟩
/-- the class's words of a minute t of memory I, wire lw let beside -/
noncomputable abbrev zNX (I : II) (lw t : Int) : Int → Int → Int → Int := fun o to n => nxF (I 21 9) (I 24) (I 25) (I 26) (UX I lw t) o to n
abbrev zWS (I : II) (no : Nat) (t : Int) : Int → Int → Int → Int := fun o n k => wsX I (goX I no o t) n k
abbrev zRK (I : II) (no : Nat) (t : Int) : Int → Int → Int := fun o k => I (orw (goX I no o t) 0) k
abbrev zNT (I : II) (no : Nat) (t : Int) : Int → Prop := fun o => nightX I (goX I no o t) (t % 1440 / 60)
abbrev zFd (I : II) (j : Int) : Nat → Int := fun m => I (200 + m) j
noncomputable def nxV (I : II) (no : Nat) (m : Nat) : Int := if vX I m 0 = 0 ∧ vX I m 1 ≠ I (200 + m) 0 then nxtM (zNX I (-9) (I 43 5)) (zWS I no (I 43 5)) (zFd I 0) (zFd I 1) (zFd I 2) m (vX I m) else -1
/-- what asking for NEXT leaves -/
def FrN (I J : II) (nm : Nat) : Prop := (∀ x, ¬ (200 ≤ x ∧ x < 200 + nm) → x ≠ 36 → J x = I x) ∧ (∀ m, m < nm → ∀ j : Int, j ≤ 10 → J (200 + m) j = I (200 + m) j) ∧ ∀ m, m < nm → CacI J (200 + m)
theorem FrN_vX {I J : II} {nm : Nat} (h : FrN I J nm) : vX J = vX I := by
  funext m
  by_cases c : m < nm
  · unfold vX
    rw [h.2.1 m c 5 (by omega), h.2.1 m c 6 (by omega), h.2.1 m c 7 (by omega), h.2.1 m c 8 (by omega), h.2.1 m c 9 (by omega), h.2.1 m c 10 (by omega)]
  · by_cases e : 200 + m = 36
    · omega
    · exact vX_same (h.1 _ (by omega) e)
theorem FrN_T {I J : II} {nm : Nat} (h : FrN I J nm) (h24 : nm ≤ 24) : FrT I J nm := ⟨fun x hx => h.1 x (by omega) (by omega), fun m hm j hj => h.2.1 m hm j (by omega), by rw [h.1 100 (by omega) (by omega)]; exact ⟨rfl, rfl, rfl, rfl, rfl, rfl⟩⟩
theorem nx_UX {I : II} {no m : Nat} {up : Int} (hW : I 21 9 ≤ 12) (hu : ∀ v, 0 ≤ v → v < 12 → (bt up v ↔ upX I (I 43 5) v)) : nxX I no (200 + m) up = nxtM (zNX I (-9) (I 43 5)) (zWS I no (I 43 5)) (zFd I 0) (zFd I 1) (zFd I 2) m (vX I m) := by
  unfold nxX nxtM
  refine nxF_congr (fun v v0 v1 => ?_)
  rw [hu v v0 (by omega)]
  exact ⟨fun z => ⟨v0, z, by omega⟩, fun z => z.2.1⟩
theorem px_next {m : Int} (hd : 6 ≤ d) (hI : PoI I nm no) : SI g d mX11_next [vr 20, vi m] (shX nm no) (RX nm no) I (fun r J => r = (if 0 ≤ m ∧ m ≤ nm - 1 then nxV I no m.toNat else -2) ∧ FrN I J nm) := by
  obtain ⟨a1, a2, a3, a4, a5, a6, a7, a8, a9, a10⟩ := id hI
  intro Q h
  refine C_of rfl (Nat.le_of_ble_eq_true rfl) rfl ?_
  refine m_aload_n dX11_next_0 rfl ?_
  refine m_iload_n dX11_next_1 rfl ?_
  refine m_Vi [_] dX11_next_2 lk_X11_122 rfl oX_20 rfl (Nat.le_of_ble_eq_true rfl) (by omega) (x_isMessage (by omega) ⟨by omega, by omega⟩) ?_
  refine m_if_ne (tgt := 11) dX11_next_5 (by decide) (fun c5 => ?_) (fun c5 => ?_)
  · have z5 := bI_ne0 c5
    have hd1 := a8 m.toNat (by omega)
    have hq := sX_msg (no := no) (show m.toNat < nm by omega) a2
    refine m_aload_n dX11_next_11 rfl ?_
    refine m_gr (z := 2) dX11_next_12 fl_X11_28 oX_20 rfl rfl rX_20_2 ?_
    refine m_aload_n dX11_next_15 rfl ?_
    refine m_gr (z := 2) dX11_next_16 fl_X11_28 oX_20 rfl rfl rX_20_2 ?_
    refine m_gr (z := 2) dX11_next_19 fl_X11_125 oX_43 rfl rfl rX_43_2 ?_
    refine m_iload_n dX11_next_22 rfl ?_
    refine m_al dX11_next_23 sX_44 (by decide) (by omega) (by omega) (rX_msg (by omega) (by omega)) ?_
    refine m_VI [_] dX11_next_24 lk_X11_152 rfl oX_43 rfl (Nat.le_of_ble_eq_true rfl) (by omega) (x_nextNow (i := m.toNat) (by omega) (by omega) a2 a3 a6 a4 a5 (a7 _ (by omega)) hd1.2.1 (a9 _ (by omega))) ?_
    intro r24 I24 q24
    refine m_iret dX11_next_27 rfl ?_
    rcases q24 with ⟨w1, w2, w3⟩ | ⟨w1, up, w2, w3, w4, w5, w6, w7⟩
    · rw [w3]
      refine h _ _ ⟨?_, fun _ _ _ => rfl, fun _ _ _ _ => rfl, a9⟩
      rw [if_pos (by omega), w2]
      unfold nxV
      exact (if_neg (show ¬ (vX I m.toNat 0 = 0 ∧ vX I m.toNat 1 ≠ I (200 + m.toNat) 0) from w1)).symm
    · refine h _ _ ⟨?_, fun x a b => w5 x b (by omega), fun j hj i hi => ?_, fun j hj => ?_⟩
      · rw [if_pos (by omega), w4, nx_UX a3.1.2 w3]
        unfold nxV
        exact (if_pos (show vX I m.toNat 0 = 0 ∧ vX I m.toNat 1 ≠ I (200 + m.toNat) 0 from w1)).symm
      · by_cases e : j = m.toNat
        · subst e; exact w6 i hi
        · rw [w5 (200 + j) (by omega) (by omega)]
      · by_cases e : j = m.toNat
        · subst e; exact w7
        · exact cac_fr (fun x hx => w5 x (by omega) (by omega)) (w5 _ (by omega) (by omega)) (a9 j hj)
  · have z5 := bI_eq0 (show _ = (0 : Int) by omega)
    refine m_bipush dX11_next_8 rfl (by decide) ?_
    refine m_iret dX11_next_10 rfl ?_
    exact h _ _ ⟨by rw [if_neg (by omega)], fun _ _ _ => rfl, fun _ _ _ _ => rfl, a9⟩
theorem py_next {m : Int} (hd : 4 ≤ d) (hS : SttI I nm no) (hlw : I 100 12 = -9) (h0 : I 100 0 = I 43 5) (ht : 0 ≤ I 43 5 ∧ I 43 5 ≤ 9000) (hm : DmI (vX I) nm (I 21 9) (I 24) (I 25) (I 43 5)) (hD : StD I nm (vX I)) : SI g d mX12_next [vr 100, vi m] (shX nm no) (RX nm no) I (fun r J => r = (if 0 ≤ m ∧ m ≤ nm - 1 then nxV I no m.toNat else -2) ∧ Fr112 I J) := by
  have h13 := hS.2.2.2.1
  have h24 := hS.1.2.2.2.2.2
  have h3 := hS.2.1.2.1.1
  have hM := mdI_of (t := I 43 5) hS hlw.symm ht
  intro Q h
  refine C_of rfl (Nat.le_of_ble_eq_true rfl) rfl ?_
  refine m_aload_n dX12_next_0 rfl ?_
  refine m_iload_n dX12_next_1 rfl ?_
  refine m_Vi [_] dX12_next_2 lk_X12_213 rfl oX_100 rfl (Nat.le_of_ble_eq_true rfl) (by omega) (y_isMessage (by omega) ⟨by omega, by omega⟩) ?_
  refine m_if_eq (tgt := 20) dX12_next_5 (by decide) (fun c5 => ?_) (fun c5 => ?_)
  · have z5 := bI_eq0 c5
    refine m_bipush dX12_next_20 rfl (by decide) ?_
    refine m_iret dX12_next_22 rfl ?_
    exact h _ _ ⟨by rw [if_neg (by omega)], fun _ _ => rfl⟩
  · have z5 := bI_ne0 c5
    rw [show m = ((m.toNat : Nat) : Int) by omega]
    refine m_aload_n dX12_next_8 rfl ?_
    refine m_iload_n dX12_next_9 rfl ?_
    refine m_aload_n dX12_next_10 rfl ?_
    refine m_gi (z := 0) dX12_next_11 fl_X12_144 oX_100 rfl rfl ?_
    rw [h0]
    refine m_VI [_, _] dX12_next_14 lk_X12_190 rfl oX_100 rfl (Nat.le_of_ble_eq_true rfl) (by omega) (y_nextFor (m := m.toNat) (by omega) hM hD (by rw [h3]; exact hm) (by omega)) ?_
    intro r14 I14 q14
    refine m_goto (tgt := 22) dX12_next_17 (by decide) ?_
    refine m_iret dX12_next_22 rfl ?_
    refine h _ _ ⟨?_, q14.2⟩
    rw [if_pos (by omega)]
    exact q14.1
def aFirst (o v W a b f : Int) : Int := if (0 ≤ o ∧ o ≤ 7) ∧ (0 ≤ v ∧ v ≤ W - 1) ∧ (a = o ∨ b = o) then f else -2
theorem px_first {o v : Int} (hd : 6 ≤ d) (hI : PoI I nm no) : SI g d mX11_first [vr 20, vi o, vi v] (shX nm no) (RX nm no) I (fun r J => r = aFirst o v (I 21 9) (I 24 v) (I 25 v) (pick (zNX I (-9) (I 43 5)) (zWS I no (I 43 5)) (zRK I no (I 43 5)) (zNT I no (I 43 5)) (zFd I 0) (zFd I 1) (zFd I 2) (zFd I 4) (vX I) o v nm) ∧ FrN I J nm) := by
  obtain ⟨a1, a2, a3, a4, a5, a6, a7, a8, a9, a10⟩ := id hI
  have hW := a3.1
  intro Q h
  refine C_of rfl (Nat.le_of_ble_eq_true rfl) rfl ?_
  refine m_iload_n dX11_first_0 rfl ?_
  refine m_Si [_] dX11_first_1 lk_X11_67 rfl rfl (Nat.le_of_ble_eq_true rfl) (by omega) (x_isOffice (by omega)) ?_
  refine m_if_eq (tgt := 28) dX11_first_4 (by decide) (fun c4 => ?_) (fun c4 => ?_)
  · have z4 := bI_eq0 c4
    refine m_bipush dX11_first_28 rfl (by decide) ?_
    refine m_iret dX11_first_30 rfl ?_
    exact h _ _ ⟨by unfold aFirst; rw [if_neg (by omega)], fun _ _ _ => rfl, fun _ _ _ _ => rfl, a9⟩
  · have z4 := bI_ne0 c4
    refine m_aload_n dX11_first_7 rfl ?_
    refine m_iload_n dX11_first_8 rfl ?_
    refine m_Vi [_] dX11_first_9 lk_X11_156 rfl oX_20 rfl (Nat.le_of_ble_eq_true rfl) (by omega) (x_isWire (by omega) ⟨by omega, by omega⟩) ?_
    refine m_if_eq (tgt := 28) dX11_first_12 (by decide) (fun c12 => ?_) (fun c12 => ?_)
    · have z12 := bI_eq0 c12
      refine m_bipush dX11_first_28 rfl (by decide) ?_
      refine m_iret dX11_first_30 rfl ?_
      exact h _ _ ⟨by unfold aFirst; rw [if_neg (by omega)], fun _ _ _ => rfl, fun _ _ _ _ => rfl, a9⟩
    · have z12 := bI_ne0 c12
      have hvk := a3.2.1 v (by omega) (by omega)
      refine m_aload_n dX11_first_15 rfl ?_
      refine m_gr (z := 0) dX11_first_16 fl_X11_10 oX_20 rfl rfl rX_20_0 ?_
      refine m_iload_n dX11_first_19 rfl ?_
      refine m_iload_n dX11_first_20 rfl ?_
      refine m_Vi [_, _] dX11_first_21 lk_X11_159 rfl oX_21 rfl (Nat.le_of_ble_eq_true rfl) (by omega) (x_otherEnd (by omega) (by omega)) ?_
      refine m_iconst dX11_first_24 (by decide) ?_
      refine m_icmp_ne (tgt := 31) dX11_first_25 (by decide) (fun c25 => ?_) (fun c25 => ?_)
      · have hat : I 24 v = o ∨ I 25 v = o := by
          by_cases y : I 24 v = o
          · exact Or.inl y
          · by_cases y2 : I 25 v = o
            · exact Or.inr y2
            · rw [if_neg y, if_neg y2] at c25; exact absurd rfl c25
        refine m_aload_n dX11_first_31 rfl ?_
        refine m_gr (z := 2) dX11_first_32 fl_X11_28 oX_20 rfl rfl rX_20_2 ?_
        refine m_aload_n dX11_first_35 rfl ?_
        refine m_gr (z := 0) dX11_first_36 fl_X11_10 oX_20 rfl rfl rX_20_0 ?_
        refine m_aload_n dX11_first_39 rfl ?_
        refine m_gr (z := 2) dX11_first_40 fl_X11_28 oX_20 rfl rfl rX_20_2 ?_
        refine m_gi (z := 5) dX11_first_43 fl_X11_105 oX_43 rfl rfl ?_
        refine m_VI [_] dX11_first_46 lk_X11_163 rfl oX_21 rfl (Nat.le_of_ble_eq_true rfl) (by omega) (x_upIn (by omega) a3 a4 a5) ?_
        intro r46 I46 q46
        obtain ⟨e46, b1, b2⟩ := q46
        replace e46 := e46.symm
        subst e46
        refine m_VI [_] dX11_first_49 lk_X11_167 rfl oX_43 rfl (Nat.le_of_ble_eq_true rfl) (by omega) (x_findNexts (by omega) a1 a2 b1.1 (fun v hv h12 z => absurd ((b2 v (Int.le_trans a3.1.1 hv) h12).mp z).1 (Int.not_lt.mpr hv)) a3 a6 a7 (fun m hm => (a8 m hm).2.1) a9) ?_
        intro r49 I49 q49
        obtain ⟨f1, f2, f3, f4, f5, f6⟩ := q49
        have hN : FrN I I49 nm := ⟨f1, f2, f4⟩
        have hT := FrN_T hN a2
        have hV := FrN_vX hN
        have hE : MsgE I49 nm (zNX I (-9) (I 43 5)) (zWS I no (I 43 5)) (zFd I 0) (zFd I 1) (zFd I 2) (zFd I 4) := fun m hm => by
          refine ⟨f2 m hm 0 (by omega), f2 m hm 1 (by omega), f2 m hm 2 (by omega), f2 m hm 4 (by omega), fun hw => ?_⟩
          have hw2 : wtX I m := by unfold wtX at hw ⊢; rw [f2 m hm 5 (by omega), f2 m hm 6 (by omega), f2 m hm 0 (by omega)] at hw; exact hw
          refine ⟨?_, ?_⟩
          · rw [(f3 m hm hw2).1, hV, nx_UX a3.1.2 b2]
          · rw [(f3 m hm hw2).2, f2 m hm 6 (by omega)]; rfl
        have hO : OffE I49 no (I49 43 5) o (zRK I no (I 43 5)) (zNT I no (I 43 5)) := offE_fr (fun x hx h36 => f1 x (by omega) h36) ⟨fun _ _ _ => rfl, Iff.rfl⟩
        refine m_pop dX11_first_52 (fun _ z => by cases z) ?_
        refine m_aload_n dX11_first_53 rfl ?_
        refine m_gr (z := 2) dX11_first_54 fl_X11_28 oX_20 rfl rfl rX_20_2 ?_
        refine m_iload_n dX11_first_57 rfl ?_
        refine m_iload_n dX11_first_58 rfl ?_
        refine m_Vi [_, _] dX11_first_59 lk_X11_170 rfl oX_43 rfl (Nat.le_of_ble_eq_true rfl) (by omega) (x_chosen (NX := zNX I (-9) (I 43 5)) (WS := zWS I no (I 43 5)) (RK := zRK I no (I 43 5)) (NT := zNT I no (I 43 5)) (TO := zFd I 0) (WD := zFd I 1) (KD := zFd I 2) (HI := zFd I 4) (by omega) (by rw [f1 43 (by omega) (by omega)]; exact a1) a2 (lawI_frT hT a6) (by omega) (by rw [f1 43 (by omega) (by omega)]; exact a10.1) hE hO (msgS_frT hT a7)) ?_
        refine m_iret dX11_first_62 rfl ?_
        exact h _ _ ⟨by unfold aFirst; rw [if_pos ⟨z4, z12, hat⟩, hV], hN⟩
      · have hat : ¬ (I 24 v = o ∨ I 25 v = o) := fun z => by
          rcases z with y | y
          · rw [if_pos y] at c25; omega
          · rw [if_neg (fun q => hvk.2.2.1 (q.trans y.symm)), if_pos y] at c25; omega
        refine m_bipush dX11_first_28 rfl (by decide) ?_
        refine m_iret dX11_first_30 rfl ?_
        exact h _ _ ⟨by unfold aFirst; rw [if_neg (by omega)], fun _ _ _ => rfl, fun _ _ _ _ => rfl, a9⟩
theorem py_first {o v : Int} (hd : 5 ≤ d) (hS : SttI I nm no) (hlw : I 100 12 = -9) (h0 : I 100 0 = I 43 5) (ht : 0 ≤ I 43 5 ∧ I 43 5 ≤ 9000) (hm : DmI (vX I) nm (I 21 9) (I 24) (I 25) (I 43 5)) (hD : StD I nm (vX I)) : SI g d mX12_first [vr 100, vi o, vi v] (shX nm no) (RX nm no) I (fun r J => r = aFirst o v (I 21 9) (I 24 v) (I 25 v) (pick (zNX I (-9) (I 43 5)) (zWS I no (I 43 5)) (zRK I no (I 43 5)) (zNT I no (I 43 5)) (zFd I 0) (zFd I 1) (zFd I 2) (zFd I 4) (vX I) o v nm) ∧ Fr112 I J) := by
  have h3 := hS.2.1.2.1.1
  have hW := hS.1.1.1
  have hM := mdI_of (t := I 43 5) hS hlw.symm ht
  intro Q h
  refine C_of rfl (Nat.le_of_ble_eq_true rfl) rfl ?_
  refine m_iload_n dX12_first_0 rfl ?_
  refine m_Si [_] dX12_first_1 lk_X12_133 rfl rfl (Nat.le_of_ble_eq_true rfl) (by omega) (y_isOffice (by omega)) ?_
  refine m_if_eq (tgt := 24) dX12_first_4 (by decide) (fun c4 => ?_) (fun c4 => ?_)
  · have z4 := bI_eq0 c4
    refine m_bipush dX12_first_24 rfl (by decide) ?_
    refine m_iret dX12_first_26 rfl ?_
    exact h _ _ ⟨by unfold aFirst; rw [if_neg (by omega)], fun _ _ => rfl⟩
  · have z4 := bI_ne0 c4
    refine m_aload_n dX12_first_7 rfl ?_
    refine m_iload_n dX12_first_8 rfl ?_
    refine m_Vi [_] dX12_first_9 lk_X12_141 rfl oX_100 rfl (Nat.le_of_ble_eq_true rfl) (by omega) (y_isWire (by omega) ⟨by omega, by omega⟩) ?_
    refine m_if_eq (tgt := 24) dX12_first_12 (by decide) (fun c12 => ?_) (fun c12 => ?_)
    · have z12 := bI_eq0 c12
      refine m_bipush dX12_first_24 rfl (by decide) ?_
      refine m_iret dX12_first_26 rfl ?_
      exact h _ _ ⟨by unfold aFirst; rw [if_neg (by omega)], fun _ _ => rfl⟩
    · have z12 := bI_ne0 c12
      refine m_aload_n dX12_first_15 rfl ?_
      refine m_iload_n dX12_first_16 rfl ?_
      refine m_iload_n dX12_first_17 rfl ?_
      refine m_Vi [_, _] dX12_first_18 lk_X12_177 rfl oX_100 rfl (Nat.le_of_ble_eq_true rfl) (by omega) (y_isAt ⟨by omega, by omega⟩) ?_
      rw [hS.2.1.1.2.2.1, hS.2.1.1.2.2.2.1]
      refine m_if_ne (tgt := 27) dX12_first_21 (by decide) (fun c21 => ?_) (fun c21 => ?_)
      · have z21 := bI_ne0 c21
        refine m_aload_n dX12_first_27 rfl ?_
        refine m_iload_n dX12_first_28 rfl ?_
        refine m_iload_n dX12_first_29 rfl ?_
        refine m_aload_n dX12_first_30 rfl ?_
        refine m_gi (z := 0) dX12_first_31 fl_X12_144 oX_100 rfl rfl ?_
        rw [h0]
        refine m_VI [_, _, _] dX12_first_34 lk_X12_202 rfl oX_100 rfl (Nat.le_of_ble_eq_true rfl) (by omega) (y_firstOf (by omega) hM hD (by rw [h3]; exact hm) (by omega) (by omega)) ?_
        intro r34 I34 q34
        refine m_iret dX12_first_37 rfl ?_
        exact h _ _ ⟨by unfold aFirst; rw [if_pos ⟨z4, by omega, z21⟩]; exact q34.1, q34.2⟩
      · have z21 := bI_eq0 (show _ = (0 : Int) by omega)
        refine m_bipush dX12_first_24 rfl (by decide) ?_
        refine m_iret dX12_first_26 rfl ?_
        exact h _ _ ⟨by unfold aFirst; rw [if_neg (by omega)], fun _ _ => rfl⟩
end
