/-! POST: sendOn -/
theorem pick_none {NX : Int → Int → Int → Int} {WS : Int → Int → Int → Int} {RK : Int → Int → Int} {NT : Int → Prop} {TO WD KD HI : Nat → Int} {D : MV} {o v : Int} {n : Nat} (h : ∀ m, m < n → ¬ cand NX WS NT TO WD KD D o v m) : pick NX WS RK NT TO WD KD HI D o v n = -1 := by
  have hb := pick_bd NX WS RK NT TO WD KD HI D o v n
  apply Classical.byContradiction
  intro z
  exact h _ (by omega) (pick_cand NX WS RK NT TO WD KD HI D o v n z)
/-- each message is as it was, or it has set out by this wire -/
theorem sendF_or {nm : Nat} {t : Int} {A B SPD DB : Int → Int} {NX : Int → Int → Int → Int} {WS : Int → Int → Int → Int} {RK : Int → Int → Int} {NT : Int → Prop} {TO WD KD HI : Nat → Int} (D : MV) (o v : Int) (m : Nat) : sendF nm t A B SPD DB NX WS RK NT TO WD KD HI D o v m = D m ∨ (m < nm ∧ D m 0 = 0 ∧ D m 1 = o ∧ D m 1 ≠ TO m ∧ sendF nm t A B SPD DB NX WS RK NT TO WD KD HI D o v m = mk6 1 (D m 1) v (t + (WS o (WD m) (KD m) + SPD v - 1) / SPD v) (D m 4) (D m 5)) := by
  have hb := pick_bd NX WS RK NT TO WD KD HI D o v nm
  by_cases c : busy nm D v o ∨ (DB v = 0 ∧ busy nm D v (othF A B v o))
  · left; rw [sendF, cif_t c]
  · by_cases c2 : pick NX WS RK NT TO WD KD HI D o v nm = -1
    · left; rw [sendF, cif_f c, if_pos c2]
    · rw [sendF, cif_f c, if_neg c2]
      by_cases e : m = (pick NX WS RK NT TO WD KD HI D o v nm).toNat
      · right
        subst e
        have hc := pick_cand NX WS RK NT TO WD KD HI D o v nm c2
        exact ⟨by omega, hc.1, hc.2.1, hc.2.2.1, upD_s⟩
      · left; rw [upD_n e]
/-- all that sending rests on -/
def SndI (J : II) (nm no : Nat) (NX : Int → Int → Int → Int) (WS : Int → Int → Int → Int) (RK : Int → Int → Int) (NT : Int → Prop) (TO WD KD HI : Nat → Int) : Prop :=
  J 43 4 = nm ∧ NetI J ∧ LawI J no ∧ MsgE J nm NX WS TO WD KD HI ∧ (∀ o, 0 ≤ o → o < 8 → OffE J no (J 43 5) o RK NT) ∧ (∀ m, m < nm → MsgS J (200 + m)) ∧ (∀ m, m < nm → MsgD (J 21 9) (J 24) (J 25) (J 43 5 + 1) (vX J m)) ∧ (∀ m, m < nm → wtX J m → 1 ≤ J (200 + m) 14 ∧ J (200 + m) 14 ≤ 198) ∧ (0 ≤ J 43 5 ∧ J 43 5 < 9000)
theorem offE_fr {I J : II} {no : Nat} {o : Int} {RK : Int → Int → Int} {NT : Int → Prop} (e : FrM I J) (h : OffE I no (I 43 5) o RK NT) : OffE J no (J 43 5) o RK NT := by
  unfold OffE nightX at h ⊢
  rw [e 43 (by omega) (by omega), goX_eq (fun x hx => e x (by omega) (by omega))]
  have q := oid_ge no (gbF I o (I 43 5) no)
  have a := orw_ge (goX I no o (I 43 5)) 0 q (by omega)
  rw [e (goX I no o (I 43 5)) (by unfold goX; omega) (by unfold goX; omega), e (orw (goX I no o (I 43 5)) 0) (by omega) (by omega)]
  exact h
section
variable {g : GH} {d nm no : Nat} {J : II} {NX : Int → Int → Int → Int} {WS : Int → Int → Int → Int} {RK : Int → Int → Int} {NT : Int → Prop} {TO WD KD HI : Nat → Int} {U OP : Int → Prop}
theorem snd_step {J' : II} {o v : Int} (h : SndI J nm no NX WS RK NT TO WD KD HI) (hm : nm ≤ 24) (hv : 0 ≤ v ∧ v < J 21 9) (hov : J 24 v = o ∨ J 25 v = o)
    (hp : (∀ x, ¬ (200 ≤ x ∧ x < 200 + nm) → J' x = J x) ∧ (∀ m, m < nm → ∀ j : Int, (j < 5 ∨ 10 < j) → J' (200 + m) j = J (200 + m) j) ∧ vX J' = sendF nm (J 43 5) (J 24) (J 25) (J 26) (J 27) NX WS RK NT TO WD KD HI (vX J) o v) : SndI J' nm no NX WS RK NT TO WD KD HI := by
  obtain ⟨a1, a2, a3, a4, a5, a6, a7, a8, a9⟩ := h
  obtain ⟨p1, p2, p3⟩ := hp
  have eF : FrM J J' := fun x hx _ => p1 x (by omega)
  have e43 : J' 43 = J 43 := p1 43 (by omega)
  have e21 : J' 21 = J 21 := p1 21 (by omega)
  have e24 : J' 24 = J 24 := p1 24 (by omega)
  have e25 : J' 25 = J 25 := p1 25 (by omega)
  have hor := fun m => sendF_or (nm := nm) (t := J 43 5) (A := J 24) (B := J 25) (SPD := J 26) (DB := J 27) (NX := NX) (WS := WS) (RK := RK) (NT := NT) (TO := TO) (WD := WD) (KD := KD) (HI := HI) (vX J) o v m
  simp only [← p3] at hor
  have hwt : ∀ m, m < nm → wtX J' m → wtX J m ∧ vX J' m = vX J m := fun m hm2 z => by
    rcases hor m with y | ⟨-, -, -, -, y⟩
    · have y0 : J' (200 + m) 5 = J (200 + m) 5 := congrFun y 0
      have y1 : J' (200 + m) 6 = J (200 + m) 6 := congrFun y 1
      have y2 := p2 m hm2 0 (by omega)
      unfold wtX at z ⊢
      exact ⟨by omega, y⟩
    · have y0 : J' (200 + m) 5 = 1 := congrFun y 0
      unfold wtX at z
      omega
  have hk := a2.2.1 v hv.1 hv.2
  refine ⟨by rw [e43]; exact a1, netI_fr a2 eF, lawI_of a3 eF, fun m hm2 => ?_, fun o o0 o1 => offE_fr eF (a5 o o0 o1), fun m hm2 => ?_, fun m hm2 => ?_, fun m hm2 z => ?_, by rw [e43]; exact a9⟩
  · obtain ⟨b0, b1, b2, b4, b5⟩ := a4 m hm2
    refine ⟨by rw [p2 m hm2 0 (by omega)]; exact b0, by rw [p2 m hm2 1 (by omega)]; exact b1, by rw [p2 m hm2 2 (by omega)]; exact b2, by rw [p2 m hm2 4 (by omega)]; exact b4, fun z => ?_⟩
    obtain ⟨z1, z2⟩ := hwt m hm2 z
    have y1 : J' (200 + m) 6 = J (200 + m) 6 := congrFun z2 1
    rw [p2 m hm2 11 (by omega), p2 m hm2 14 (by omega), z2, y1]
    exact b5 z1
  · unfold MsgS
    rw [p2 m hm2 0 (by omega), p2 m hm2 1 (by omega), p2 m hm2 2 (by omega), p2 m hm2 3 (by omega), p2 m hm2 4 (by omega)]
    exact a6 m hm2
  · rw [e21, e24, e25, e43]
    rcases hor m with y | ⟨q1, q2, q3, q4, y⟩
    · rw [y]; exact a7 m hm2
    · rw [y]
      obtain ⟨c1, c2, c3, c4, c5, c6⟩ := a7 m hm2
      have hw : wtX J m := ⟨q2, by rw [(a4 m hm2).1]; exact q4⟩
      have h14 := a8 m hm2 hw
      rw [((a4 m hm2).2.2.2.2 hw).2] at h14
      have e6 : J (200 + m) 6 = o := q3
      rw [e6] at h14
      have tk := tk_bd h14.1 hk.2.2.2.1.1
      refine ⟨Or.inr (Or.inl rfl), c2, fun _ => ⟨hv, ?_, ?_⟩, fun z => absurd rfl z, c5, c6⟩
      · show J 24 v = vX J m 1 ∨ J 25 v = vX J m 1
        rw [q3]; exact hov
      · show J 43 5 + 1 ≤ J 43 5 + _ ∧ J 43 5 + _ ≤ 10000
        omega
  · rw [p2 m hm2 14 (by omega)]
    exact a8 m hm2 (hwt m hm2 z).1
/-- what sendOn leaves of the messages as they were -/
def snK (J J' : II) (nm : Nat) : Prop := (∀ x, ¬ (200 ≤ x ∧ x < 200 + nm) → J' x = J x) ∧ (∀ m, m < nm → ∀ j : Int, (j < 5 ∨ 10 < j) → J' (200 + m) j = J (200 + m) j) ∧ (∀ m, m < nm → wtX J' m → wtX J m)
theorem snK_rf {J : II} {nm : Nat} : snK J J nm := ⟨fun _ _ => rfl, fun _ _ _ _ => rfl, fun _ _ h => h⟩
theorem snK_tr {J J1 J2 : II} {nm : Nat} (h : snK J J1 nm) (h2 : snK J1 J2 nm) : snK J J2 nm := ⟨fun x hx => (h2.1 x hx).trans (h.1 x hx), fun m hm j hj => (h2.2.1 m hm j hj).trans (h.2.1 m hm j hj), fun m hm z => h.2.2 m hm (h2.2.2 m hm z)⟩
theorem snK_of {J' : II} {t o v : Int} {A B SPD DB : Int → Int} (p1 : ∀ x, ¬ (200 ≤ x ∧ x < 200 + nm) → J' x = J x) (p2 : ∀ m, m < nm → ∀ j : Int, (j < 5 ∨ 10 < j) → J' (200 + m) j = J (200 + m) j) (p3 : vX J' = sendF nm t A B SPD DB NX WS RK NT TO WD KD HI (vX J) o v) : snK J J' nm := by
  refine ⟨p1, p2, fun m hm2 z => ?_⟩
  have hor := sendF_or (nm := nm) (t := t) (A := A) (B := B) (SPD := SPD) (DB := DB) (NX := NX) (WS := WS) (RK := RK) (NT := NT) (TO := TO) (WD := WD) (KD := KD) (HI := HI) (vX J) o v m
  rw [← p3] at hor
  rcases hor with y | ⟨-, -, -, -, y⟩
  · have y0 : J' (200 + m) 5 = J (200 + m) 5 := congrFun y 0
    have y1 : J' (200 + m) 6 = J (200 + m) 6 := congrFun y 1
    have y2 := p2 m hm2 0 (by omega)
    unfold wtX at z ⊢
    omega
  · have y0 : J' (200 + m) 5 = 1 := congrFun y 0
    unfold wtX at z
    omega
theorem x_sendOn_loop {r : Int} {Q : QT} (hd : 5 ≤ d) (hm : nm ≤ 24) (hr : 0 ≤ r) (hJ : SndI J nm no NX WS RK NT TO WD KD HI)
    (hb : ∀ v, 0 ≤ v → v < 12 → (bt r v ↔ ∃ m, m < nm ∧ wtX J m ∧ J (200 + m) 11 = v)) (hU : ∀ m, m < nm → wtX J m → ∀ v : Int, 0 ≤ v → J (200 + m) 11 = v → U v)
    (h : ∀ J', snK J J' nm → SndI J' nm no NX WS RK NT TO WD KD HI → vX J' = sendW nm (J 43 5) (J 24) (J 25) (J 26) (J 27) U (opX J (J 43 5)) NX WS RK NT TO WD KD HI (vX J) (J 21 9).toNat → Q none (shX nm no) (RX nm no) J') :
    ∀ (k i : Nat) (J1 : II), (J 21 9).toNat - i < k → i ≤ (J 21 9).toNat → snK J J1 nm → SndI J1 nm no NX WS RK NT TO WD KD HI → vX J1 = sendW nm (J 43 5) (J 24) (J 25) (J 26) (J 27) U (opX J (J 43 5)) NX WS RK NT TO WD KD HI (vX J) i → T g d mX6_sendOn 0 0 2 [some (vr 43), some (vi r), some (vi i)] [] (shX nm no) (RX nm no) J1 Q := by
  have hW := hJ.2.1.1
  intro k
  induction k with
  | zero => intro i J1 hk; omega
  | succ k ih =>
    intro i J1 hk h1 hK hI hV
    have e43 : J1 43 = J 43 := hK.1 43 (by omega)
    have e21 : J1 21 = J 21 := hK.1 21 (by omega)
    have e22 : J1 22 = J 22 := hK.1 22 (by omega)
    have e23 : J1 23 = J 23 := hK.1 23 (by omega)
    have e24 : J1 24 = J 24 := hK.1 24 (by omega)
    have e25 : J1 25 = J 25 := hK.1 25 (by omega)
    have e26 : J1 26 = J 26 := hK.1 26 (by omega)
    have e27 : J1 27 = J 27 := hK.1 27 (by omega)
    have eW : J1 21 9 = J 21 9 := by rw [e21]
    refine m_iload_n dX6_sendOn_2 rfl ?_
    refine m_aload_n dX6_sendOn_3 rfl ?_
    refine m_gr (z := 0) dX6_sendOn_4 fl_X6_20 oX_43 rfl rfl rX_43_0 ?_
    refine m_gi (z := 9) dX6_sendOn_7 fl_X6_143 oX_21 rfl rfl ?_
    refine m_icmp_ge (tgt := 70) dX6_sendOn_10 (by decide) (fun c10 => ?_) (fun c10 => ?_)
    · have ei : i = (J 21 9).toNat := by omega
      subst ei
      refine m_vret dX6_sendOn_70 rfl ?_
      exact h J1 hK hI hV
    · have hi : (i : Int) < J 21 9 := by omega
      have hk2 := hI.2.1.2.1 i (by omega) (by omega)
      refine m_iload_n dX6_sendOn_13 rfl ?_
      refine m_iload_n dX6_sendOn_14 rfl ?_
      refine m_Ni [_, _] dX6_sendOn_15 lk_X6_94 rfl rfl (Nat.le_of_ble_eq_true rfl) (by omega) (x_isIn hr (by omega) (by omega)) ?_
      refine m_if_eq (tgt := 64) dX6_sendOn_18 (by decide) (fun c18 => ?_) (fun c18 => ?_)
      · have z1 := bI_eq0 c18
        have hno : ∀ o m, m < nm → ¬ cand NX WS NT TO WD KD (vX J1) o i m := fun o m hm2 z => by
          have hwt : wtX J1 m := ⟨z.1, by rw [(hI.2.2.2.1 m hm2).1]; exact z.2.2.1⟩
          refine z1 ((hb i (by omega) (by omega)).mpr ⟨m, hm2, hK.2.2 m hm2 hwt, ?_⟩)
          rw [← hK.2.1 m hm2 11 (by omega), ((hI.2.2.2.1 m hm2).2.2.2.2 hwt).1]
          exact z.2.2.2.1
        have hsame : ∀ o, sendF nm (J 43 5) (J 24) (J 25) (J 26) (J 27) NX WS RK NT TO WD KD HI (vX J1) o i = vX J1 := fun o => by
          by_cases c : busy nm (vX J1) i o ∨ (J 27 i = 0 ∧ busy nm (vX J1) i (othF (J 24) (J 25) i o))
          · rw [sendF, cif_t c]
          · rw [sendF, cif_f c, if_pos (pick_none (hno o))]
        have HV : vX J1 = sendW nm (J 43 5) (J 24) (J 25) (J 26) (J 27) U (opX J (J 43 5)) NX WS RK NT TO WD KD HI (vX J) (i + 1) := by
          rw [sendW, ← hV]
          by_cases c : U i ∧ opX J (J 43 5) (J 24 i) ∧ opX J (J 43 5) (J 25 i)
          · rw [cif_t c, hsame, hsame]
          · rw [cif_f c]
        have HK := hK
        have HI := hI
        refine m_iinc dX6_sendOn_64 rfl (by decide) rfl rfl (by omega) ?_
        refine m_goto (tgt := 2) dX6_sendOn_67 (by decide) ?_
        exact ih (i + 1) _ (by omega) (by omega) HK HI HV
      · have z1 := bI_ne0 c18
        refine m_aload_n dX6_sendOn_21 rfl ?_
        refine m_gr (z := 0) dX6_sendOn_22 fl_X6_20 oX_43 rfl rfl rX_43_0 ?_
        refine m_iload_n dX6_sendOn_25 rfl ?_
        refine m_aload_n dX6_sendOn_26 rfl ?_
        refine m_gi (z := 5) dX6_sendOn_27 fl_X6_39 oX_43 rfl rfl ?_
        refine m_Vi [_, _] dX6_sendOn_30 lk_X6_146 rfl oX_21 rfl (Nat.le_of_ble_eq_true rfl) (by omega) (x_areEndsOpen (by omega) (by omega) (by omega) hI.2.1 hI.2.2.2.2.2.2.2.2.1) ?_
        refine m_if_eq (tgt := 64) dX6_sendOn_33 (by decide) (fun c33 => ?_) (fun c33 => ?_)
        · have z2 := bI_eq0 c33
          have HV : vX J1 = sendW nm (J 43 5) (J 24) (J 25) (J 26) (J 27) U (opX J (J 43 5)) NX WS RK NT TO WD KD HI (vX J) (i + 1) := by
            rw [sendW, ← hV, cif_f]
            intro c
            apply z2
            unfold opX at c
            rw [e22, e23, e24, e25, e43]
            exact c.2
          have HK := hK
          have HI := hI
          refine m_iinc dX6_sendOn_64 rfl (by decide) rfl rfl (by omega) ?_
          refine m_goto (tgt := 2) dX6_sendOn_67 (by decide) ?_
          exact ih (i + 1) _ (by omega) (by omega) HK HI HV
        · have z2 := bI_ne0 c33
          refine m_aload_n dX6_sendOn_36 rfl ?_
          refine m_aload_n dX6_sendOn_37 rfl ?_
          refine m_gr (z := 0) dX6_sendOn_38 fl_X6_20 oX_43 rfl rfl rX_43_0 ?_
          refine m_gr (z := 2) dX6_sendOn_41 fl_X6_149 oX_21 rfl rfl rX_21_2 ?_
          refine m_iload_n dX6_sendOn_44 rfl ?_
          refine m_iald dX6_sendOn_45 sX_24 (by omega) (by omega) ?_
          refine m_iload_n dX6_sendOn_46 rfl ?_
          refine m_VV [_, _] dX6_sendOn_47 lk_X6_153 rfl oX_43 rfl (Nat.le_of_ble_eq_true rfl) (by omega) (x_sendFrom (by omega) hI.1 hm hI.2.1 hI.2.2.1 (by omega) ⟨by omega, by omega⟩ (Or.inl rfl) ⟨hI.2.2.2.2.2.2.2.2.1, by have := hI.2.2.2.2.2.2.2.2.2; omega⟩ hI.2.2.2.1 (hI.2.2.2.2.1 _ (by omega) (by omega)) hI.2.2.2.2.2.1 hI.2.2.2.2.2.2.1 hI.2.2.2.2.2.2.2.1) ?_
          intro I47 q47
          obtain ⟨p1, p2, p3⟩ := q47
          have hK1 := snK_of p1 p2 p3
          have hI1 := snd_step hI hm ⟨by omega, by omega⟩ (Or.inl rfl) ⟨p1, p2, p3⟩
          have f43 : I47 43 = J1 43 := p1 43 (by omega)
          have f21 : I47 21 = J1 21 := p1 21 (by omega)
          have f24 : I47 24 = J1 24 := p1 24 (by omega)
          have f25 : I47 25 = J1 25 := p1 25 (by omega)
          have f26 : I47 26 = J1 26 := p1 26 (by omega)
          have f27 : I47 27 = J1 27 := p1 27 (by omega)
          have fW : I47 21 9 = J 21 9 := by rw [f21]; exact eW
          have hk3 := hI1.2.1.2.1 i (by omega) (by omega)
          refine m_aload_n dX6_sendOn_50 rfl ?_
          refine m_aload_n dX6_sendOn_51 rfl ?_
          refine m_gr (z := 0) dX6_sendOn_52 fl_X6_20 oX_43 rfl rfl rX_43_0 ?_
          refine m_gr (z := 3) dX6_sendOn_55 fl_X6_157 oX_21 rfl rfl rX_21_3 ?_
          refine m_iload_n dX6_sendOn_58 rfl ?_
          refine m_iald dX6_sendOn_59 sX_25 (by omega) (by omega) ?_
          refine m_iload_n dX6_sendOn_60 rfl ?_
          refine m_VV [_, _] dX6_sendOn_61 lk_X6_153 rfl oX_43 rfl (Nat.le_of_ble_eq_true rfl) (by omega) (x_sendFrom (by omega) hI1.1 hm hI1.2.1 hI1.2.2.1 (by omega) ⟨by omega, by omega⟩ (Or.inr rfl) ⟨hI1.2.2.2.2.2.2.2.2.1, by have := hI1.2.2.2.2.2.2.2.2.2; omega⟩ hI1.2.2.2.1 (hI1.2.2.2.2.1 _ (by omega) (by omega)) hI1.2.2.2.2.2.1 hI1.2.2.2.2.2.2.1 hI1.2.2.2.2.2.2.2.1) ?_
          intro I61 q61
          obtain ⟨r1, r2, r3⟩ := q61
          have hK2 := snK_of r1 r2 r3
          have hI2 := snd_step hI1 hm ⟨by omega, by omega⟩ (Or.inr rfl) ⟨r1, r2, r3⟩
          have HV : vX I61 = sendW nm (J 43 5) (J 24) (J 25) (J 26) (J 27) U (opX J (J 43 5)) NX WS RK NT TO WD KD HI (vX J) (i + 1) := by
            rw [r3, p3, f43, f24, f25, f26, f27, e43, e24, e25, e26, e27, hV, sendW, cif_t]
            refine ⟨?_, ?_⟩
            · obtain ⟨m, m1, m2, m3⟩ := (hb i (by omega) (by omega)).mp z1
              exact hU m m1 m2 i (by omega) m3
            · unfold opX
              rw [e22, e23, e24, e25, e43] at z2
              exact z2
          have HK := snK_tr (snK_tr hK hK1) hK2
          have HI := hI2
          refine m_iinc dX6_sendOn_64 rfl (by decide) rfl rfl (by omega) ?_
          refine m_goto (tgt := 2) dX6_sendOn_67 (by decide) ?_
          exact ih (i + 1) _ (by omega) (by omega) HK HI HV
theorem x_sendOn {r : Int} (hd : 5 ≤ d) (hm : nm ≤ 24) (hr : 0 ≤ r) (hJ : SndI J nm no NX WS RK NT TO WD KD HI)
    (hb : ∀ v, 0 ≤ v → v < 12 → (bt r v ↔ ∃ m, m < nm ∧ wtX J m ∧ J (200 + m) 11 = v)) (hU : ∀ m, m < nm → wtX J m → ∀ v : Int, 0 ≤ v → J (200 + m) 11 = v → U v) :
    SV g d mX6_sendOn [vr 43, vi r] (shX nm no) (RX nm no) J (fun J' => snK J J' nm ∧ SndI J' nm no NX WS RK NT TO WD KD HI ∧ vX J' = sendW nm (J 43 5) (J 24) (J 25) (J 26) (J 27) U (opX J (J 43 5)) NX WS RK NT TO WD KD HI (vX J) (J 21 9).toNat) := by
  intro Q h
  refine C_of rfl (Nat.le_of_ble_eq_true rfl) rfl ?_
  refine m_iconst dX6_sendOn_0 (by decide) ?_
  refine m_istore_n dX6_sendOn_1 (by decide) rfl rfl ?_
  exact x_sendOn_loop hd hm hr hJ hb hU (fun J' a b c => h J' ⟨a, b, c⟩) ((J 21 9).toNat + 1) 0 J (by omega) (by omega) snK_rf hJ rfl
end
