/-! POST: endWires, giveWaiting, findNext, findNexts -/
theorem mk6_0 {a b c e f h : Int} : mk6 a b c e f h 0 = a := rfl
theorem mk6_1 {a b c e f h : Int} : mk6 a b c e f h 1 = b := rfl
theorem mk6_2 {a b c e f h : Int} : mk6 a b c e f h 2 = c := rfl
theorem mk6_3 {a b c e f h : Int} : mk6 a b c e f h 3 = e := rfl
theorem mk6_4 {a b c e f h : Int} : mk6 a b c e f h 4 = f := rfl
theorem mk6_5 {a b c e f h : Int} : mk6 a b c e f h 5 = h := rfl
/-- what a message is told once -/
def MsgS (I : II) (q : Nat) : Prop := (0 ≤ I q 0 ∧ I q 0 < 8) ∧ (1 ≤ I q 1 ∧ I q 1 ≤ 99) ∧ (0 ≤ I q 2 ∧ I q 2 < 5) ∧ (0 ≤ I q 3 ∧ I q 3 ≤ 9801) ∧ (0 ≤ I q 4 ∧ I q 4 ≤ 9000)
/-- where it is, ahead of minute t -/
def MsgD (W : Int) (A B : Int → Int) (t : Int) (x : Int → Int) : Prop := (x 0 = 0 ∨ x 0 = 1 ∨ x 0 = 2) ∧ (0 ≤ x 1 ∧ x 1 < 8) ∧ (x 0 = 1 → (0 ≤ x 2 ∧ x 2 < W) ∧ (A (x 2) = x 1 ∨ B (x 2) = x 1) ∧ t ≤ x 3 ∧ x 3 ≤ 10000) ∧ (x 0 ≠ 1 → x 2 = -1 ∧ x 3 = -1) ∧ (0 ≤ x 5 ∧ x 5 ≤ t) ∧ (-1 ≤ x 4 ∧ x 4 ≤ 9000)
/-- a loop over the messages, of which i are done: each becomes F of what it was -/
def ewI (I J : II) (nm i : Nat) (F : Nat → (Int → Int) → Int → Int) : Prop := (∀ x, ¬ (200 ≤ x ∧ x < 200 + nm) → J x = I x) ∧ (∀ m, m < nm → ∀ j : Int, (j < 5 ∨ 10 < j) → J (200 + m) j = I (200 + m) j) ∧ (∀ m, m < i → vX J m = F m (vX I m)) ∧ ∀ m, i ≤ m → m < nm → J (200 + m) = I (200 + m)
theorem ewI_0 {I : II} {nm : Nat} {F : Nat → (Int → Int) → Int → Int} : ewI I I nm 0 F := ⟨fun _ _ => rfl, fun _ _ _ _ => rfl, fun m h => by omega, fun _ _ _ => rfl⟩
theorem vX_same {J J' : II} {m : Nat} (h : J' (200 + m) = J (200 + m)) : vX J' m = vX J m := by unfold vX; rw [h]
theorem ewI_step {I J J' : II} {nm i : Nat} {F : Nat → (Int → Int) → Int → Int} (h : ewI I J nm i F) (hi : i < nm) (h1 : ∀ x, x ≠ 200 + i → J' x = J x) (h2 : ∀ j : Int, (j < 5 ∨ 10 < j) → J' (200 + i) j = J (200 + i) j) (h3 : vX J' i = F i (vX I i)) : ewI I J' nm (i + 1) F := by
  refine ⟨fun x hx => by rw [h1 x (by omega)]; exact h.1 x hx, fun m hm j hj => ?_, fun m hm => ?_, fun m h5 h6 => by rw [h1 _ (by omega)]; exact h.2.2.2 m (by omega) h6⟩
  · by_cases e : m = i
    · subst e; rw [h2 j hj]; exact h.2.1 m hm j hj
    · rw [h1 _ (by omega)]; exact h.2.1 m hm j hj
  · by_cases e : m = i
    · subst e; exact h3
    · rw [vX_same (h1 _ (by omega))]; exact h.2.2.1 m (by omega)
def opX (I : II) (t o : Int) : Prop := I 22 o ≤ t % 1440 ∧ t % 1440 ≤ I 23 o
section
variable {g : GH} {d nm no : Nat} {I : II}
theorem x_endWires_loop {up : Int} {Q : QT} (hd : 1 ≤ d) (hc : I 43 4 = nm) (hm : nm ≤ 24) (hup : 0 ≤ up) (hN : NetI I) (hM : ∀ m, m < nm → MsgD (I 21 9) (I 24) (I 25) (I 43 5) (vX I m)) (ht : 0 ≤ I 43 5 ∧ I 43 5 ≤ 9000)
    (h : ∀ I', ewI I I' nm nm (fun _ => endM (I 43 5) (I 24) (I 25) (fun v => bt up v)) → Q none (shX nm no) (RX nm no) I') :
    ∀ (k i : Nat) (J : II) (lv : Option AV), nm - i < k → i ≤ nm → ewI I J nm i (fun _ => endM (I 43 5) (I 24) (I 25) (fun v => bt up v)) → T g d mX6_endWires 0 0 2 [some (vr 43), some (vi up), some (vi i), lv] [] (shX nm no) (RX nm no) J Q := by
  have hw0 := hN.1
  intro k
  induction k with
  | zero => intro i J lv hk; omega
  | succ k ih =>
    intro i J lv hk h1 hw
    have e43 : J 43 = I 43 := hw.1 43 (by omega)
    have e434 : J 43 4 = nm := by rw [e43]; exact hc
    have e435 : J 43 5 = I 43 5 := by rw [e43]
    have e24 : J 24 = I 24 := hw.1 24 (by omega)
    have e25 : J 25 = I 25 := hw.1 25 (by omega)
    refine m_iload_n dX6_endWires_2 rfl ?_
    refine m_aload_n dX6_endWires_3 rfl ?_
    refine m_gi (z := 4) dX6_endWires_4 fl_X6_62 oX_43 rfl rfl ?_
    refine m_icmp_ge (tgt := 96) dX6_endWires_7 (by decide) (fun c7 => ?_) (fun c7 => ?_)
    · have ei : i = nm := by omega
      subst ei
      refine m_vret dX6_endWires_96 rfl ?_
      exact h J hw
    · have hi : i < nm := by omega
      have hq := sX_msg (no := no) hi hm
      have eJ := hw.2.2.2 i (Nat.le_refl _) hi
      have ev : vX I i = vX J i := (vX_same eJ).symm
      have hD := hM i hi
      rw [ev] at hD
      obtain ⟨D1, D2, D3, D4, D5, D6⟩ := hD
      dsimp only [vX, mk6_0, mk6_1, mk6_2, mk6_3, mk6_4, mk6_5] at D1 D2 D3 D4 D5 D6
      refine m_aload_n dX6_endWires_10 rfl ?_
      refine m_gr (z := 2) dX6_endWires_11 fl_X6_11 oX_43 rfl rfl rX_43_2 ?_
      refine m_iload_n dX6_endWires_14 rfl ?_
      refine m_al dX6_endWires_15 sX_44 (by decide) (by omega) (by omega) (show RX nm no 44 (i : Int) = some (200 + i) by rw [rX_msg (by omega) (by omega)]; rfl) ?_
      refine m_astore_n dX6_endWires_16 (by decide) rfl rfl ?_
      refine m_aload_n dX6_endWires_17 rfl ?_
      refine m_gi (z := 5) dX6_endWires_18 fl_X6_88 hq rfl rfl ?_
      refine m_iconst dX6_endWires_21 (by decide) ?_
      refine m_icmp_eq (tgt := 28) dX6_endWires_22 (by decide) (fun c22 => ?_) (fun c22 => ?_)
      · have c22 : J (200 + i) 5 = 1 := c22
        obtain ⟨E1, E2, E3⟩ := D3 c22
        refine m_iload_n dX6_endWires_28 rfl ?_
        refine m_aload_n dX6_endWires_29 rfl ?_
        refine m_gi (z := 7) dX6_endWires_30 fl_X6_91 hq rfl rfl ?_
        refine m_Ni [_, _] dX6_endWires_33 lk_X6_94 rfl rfl (Nat.le_of_ble_eq_true rfl) (by omega) (x_isIn hup (by omega) (by omega)) ?_
        refine m_if_ne (tgt := 60) dX6_endWires_36 (by decide) (fun c36 => ?_) (fun c36 => ?_)
        · have z1 := bI_ne0 c36
          refine m_aload_n dX6_endWires_60 rfl ?_
          refine m_gi (z := 8) dX6_endWires_61 fl_X6_104 hq rfl rfl ?_
          refine m_aload_n dX6_endWires_64 rfl ?_
          refine m_gi (z := 5) dX6_endWires_65 fl_X6_39 oX_43 rfl rfl ?_
          refine m_icmp_gt (tgt := 90) dX6_endWires_68 (by decide) (fun c68 => ?_) (fun c68 => ?_)
          · have HV : endM (I 43 5) (I 24) (I 25) (fun v => bt up v) (vX J i) = vX J i := by
              unfold endM
              rw [if_pos (show vX J i 0 = 1 from c22), cif_t (show bt up (vX J i 2) from z1), if_neg (show ¬ vX J i 3 = I 43 5 from fun z => by have z : J (200 + i) 8 = I 43 5 := z; rw [e43] at c68; omega)]
            refine m_iinc dX6_endWires_90 rfl (by decide) rfl rfl (by omega) ?_
            refine m_goto (tgt := 2) dX6_endWires_93 (by decide) ?_
            exact ih (i + 1) _ _ (by omega) (by omega) (ewI_step hw hi (fun x hx => by first | rfl | simp only [upI_o hx]) (fun j hj => by first | rfl | (unfold upI; repeat rw [if_neg (by omega)])) (by rw [ev]; first | exact HV.symm | exact (show vX _ i = _ from HV.symm ▸ rfl) | (rw [HV]; simp [vX, upI]; done)))
          · have HV : endM (I 43 5) (I 24) (I 25) (fun v => bt up v) (vX J i) = mk6 0 (if I 24 (J (200 + i) 7) = J (200 + i) 6 then I 25 (J (200 + i) 7) else I 24 (J (200 + i) 7)) (-1) (-1) (J (200 + i) 9) (J (200 + i) 10) := by
              unfold endM
              rw [if_pos (show vX J i 0 = 1 from c22), cif_t (show bt up (vX J i 2) from z1), if_pos (show vX J i 3 = I 43 5 from (by show J (200 + i) 8 = I 43 5; rw [e43] at c68; omega))]
              rfl
            refine m_aload_n dX6_endWires_71 rfl ?_
            refine m_aload_n dX6_endWires_72 rfl ?_
            refine m_gr (z := 0) dX6_endWires_73 fl_X6_20 oX_43 rfl rfl rX_43_0 ?_
            refine m_aload_n dX6_endWires_76 rfl ?_
            refine m_gi (z := 7) dX6_endWires_77 fl_X6_91 hq rfl rfl ?_
            refine m_aload_n dX6_endWires_80 rfl ?_
            refine m_gi (z := 6) dX6_endWires_81 fl_X6_45 hq rfl rfl ?_
            refine m_Vi [_, _] dX6_endWires_84 lk_X6_107 rfl oX_21 rfl (Nat.le_of_ble_eq_true rfl) (by omega) (x_otherEnd (by omega) (by omega)) ?_
            rw [e24, e25, show (if I 24 (J (200 + i) 7) = J (200 + i) 6 then I 25 (J (200 + i) 7) else if I 25 (J (200 + i) 7) = J (200 + i) 6 then I 24 (J (200 + i) 7) else -1) = (if I 24 (J (200 + i) 7) = J (200 + i) 6 then I 25 (J (200 + i) 7) else I 24 (J (200 + i) 7)) from by split; rfl; rw [if_pos (by omega)]]
            refine m_Vv [_] dX6_endWires_87 lk_X6_101 rfl hq rfl (Nat.le_of_ble_eq_true rfl) (by omega) (x_waitIn hq) ?_
            refine m_iinc dX6_endWires_90 rfl (by decide) rfl rfl (by omega) ?_
            refine m_goto (tgt := 2) dX6_endWires_93 (by decide) ?_
            exact ih (i + 1) _ _ (by omega) (by omega) (ewI_step hw hi (fun x hx => by first | rfl | simp only [upI_o hx]) (fun j hj => by first | rfl | (unfold upI; repeat rw [if_neg (by omega)])) (by rw [ev]; first | exact HV.symm | exact (show vX _ i = _ from HV.symm ▸ rfl) | (rw [HV]; simp [vX, upI]; done)))
        · have z1 := bI_eq0 c36
          have HV : endM (I 43 5) (I 24) (I 25) (fun v => bt up v) (vX J i) = mk6 0 (J (200 + i) 6) (-1) (-1) (J (200 + i) 9) (J (200 + i) 10 + 1) := by
            unfold endM
            rw [if_pos (show vX J i 0 = 1 from c22), cif_f (show ¬ bt up (vX J i 2) from z1)]
            rfl
          refine m_aload_n dX6_endWires_39 rfl ?_
          refine m_dup dX6_endWires_40 (fun _ z => by cases z) ?_
          refine m_gi (z := 10) dX6_endWires_41 fl_X6_98 hq rfl rfl ?_
          refine m_iconst dX6_endWires_44 (by decide) ?_
          refine m_iadd dX6_endWires_45 (by omega) ?_
          refine m_pi (z := 10) dX6_endWires_46 fl_X6_98 hq rfl rfl rfl ?_
          refine m_aload_n dX6_endWires_49 rfl ?_
          refine m_aload_n dX6_endWires_50 rfl ?_
          refine m_gi (z := 6) dX6_endWires_51 fl_X6_45 hq rfl rfl ?_
          rw [upI_j (show (6 : Int) ≠ 10 by decide)]
          refine m_Vv [_] dX6_endWires_54 lk_X6_101 rfl hq rfl (Nat.le_of_ble_eq_true rfl) (by omega) (x_waitIn hq) ?_
          refine m_goto (tgt := 90) dX6_endWires_57 (by decide) ?_
          refine m_iinc dX6_endWires_90 rfl (by decide) rfl rfl (by omega) ?_
          refine m_goto (tgt := 2) dX6_endWires_93 (by decide) ?_
          exact ih (i + 1) _ _ (by omega) (by omega) (ewI_step hw hi (fun x hx => by first | rfl | simp only [upI_o hx]) (fun j hj => by first | rfl | (unfold upI; repeat rw [if_neg (by omega)])) (by rw [ev]; first | exact HV.symm | exact (show vX _ i = _ from HV.symm ▸ rfl) | (rw [HV]; simp [vX, upI]; done)))
      · have HV : endM (I 43 5) (I 24) (I 25) (fun v => bt up v) (vX J i) = vX J i := if_neg c22
        refine m_goto (tgt := 90) dX6_endWires_25 (by decide) ?_
        refine m_iinc dX6_endWires_90 rfl (by decide) rfl rfl (by omega) ?_
        refine m_goto (tgt := 2) dX6_endWires_93 (by decide) ?_
        exact ih (i + 1) _ _ (by omega) (by omega) (ewI_step hw hi (fun x hx => by first | rfl | simp only [upI_o hx]) (fun j hj => by first | rfl | (unfold upI; repeat rw [if_neg (by omega)])) (by rw [ev]; first | exact HV.symm | exact (show vX _ i = _ from HV.symm ▸ rfl) | (rw [HV]; simp [vX, upI]; done)))
theorem x_endWires {up : Int} (hd : 1 ≤ d) (hc : I 43 4 = nm) (hm : nm ≤ 24) (hup : 0 ≤ up) (hN : NetI I) (hM : ∀ m, m < nm → MsgD (I 21 9) (I 24) (I 25) (I 43 5) (vX I m)) (ht : 0 ≤ I 43 5 ∧ I 43 5 ≤ 9000) : SV g d mX6_endWires [vr 43, vi up] (shX nm no) (RX nm no) I (fun I' => ewI I I' nm nm (fun _ => endM (I 43 5) (I 24) (I 25) (fun v => bt up v))) := by
  intro Q h
  refine C_of rfl (Nat.le_of_ble_eq_true rfl) rfl ?_
  refine m_iconst dX6_endWires_0 (by decide) ?_
  refine m_istore_n dX6_endWires_1 (by decide) rfl rfl ?_
  exact x_endWires_loop hd hc hm hup hN hM ht h (nm + 1) 0 I none (by omega) (by omega) ewI_0
theorem x_give_loop {Q : QT} (hd : 2 ≤ d) (hc : I 43 4 = nm) (hm : nm ≤ 24) (hS : ∀ m, m < nm → MsgS I (200 + m)) (ht : 0 ≤ I 43 5 ∧ I 43 5 ≤ 9000)
    (h : ∀ I', ewI I I' nm nm (givM (I 43 5) (opX I (I 43 5)) (fun m => I (200 + m) 0)) → Q none (shX nm no) (RX nm no) I') :
    ∀ (k i : Nat) (J : II) (lv : Option AV), nm - i < k → i ≤ nm → ewI I J nm i (givM (I 43 5) (opX I (I 43 5)) (fun m => I (200 + m) 0)) → T g d mX6_giveWaiting 0 0 2 [some (vr 43), some (vi i), lv] [] (shX nm no) (RX nm no) J Q := by
  intro k
  induction k with
  | zero => intro i J lv hk; omega
  | succ k ih =>
    intro i J lv hk h1 hw
    have e43 : J 43 = I 43 := hw.1 43 (by omega)
    have e434 : J 43 4 = nm := by rw [e43]; exact hc
    have e435 : J 43 5 = I 43 5 := by rw [e43]
    have e24 : J 24 = I 24 := hw.1 24 (by omega)
    have e25 : J 25 = I 25 := hw.1 25 (by omega)
    have e22 : J 22 = I 22 := hw.1 22 (by omega)
    have e23 : J 23 = I 23 := hw.1 23 (by omega)
    refine m_iload_n dX6_giveWaiting_2 rfl ?_
    refine m_aload_n dX6_giveWaiting_3 rfl ?_
    refine m_gi (z := 4) dX6_giveWaiting_4 fl_X6_62 oX_43 rfl rfl ?_
    refine m_icmp_ge (tgt := 67) dX6_giveWaiting_7 (by decide) (fun c7 => ?_) (fun c7 => ?_)
    · have ei : i = nm := by omega
      subst ei
      refine m_vret dX6_giveWaiting_67 rfl ?_
      exact h J hw
    · have hi : i < nm := by omega
      have hq := sX_msg (no := no) hi hm
      have eJ := hw.2.2.2 i (Nat.le_refl _) hi
      have ev : vX I i = vX J i := (vX_same eJ).symm
      obtain ⟨s1, s2, s3, s4, s5⟩ := hS i hi
      have e0 : J (200 + i) 0 = I (200 + i) 0 := by rw [eJ]
      refine m_aload_n dX6_giveWaiting_10 rfl ?_
      refine m_gr (z := 2) dX6_giveWaiting_11 fl_X6_11 oX_43 rfl rfl rX_43_2 ?_
      refine m_iload_n dX6_giveWaiting_14 rfl ?_
      refine m_al dX6_giveWaiting_15 sX_44 (by decide) (by omega) (by omega) (show RX nm no 44 (i : Int) = some (200 + i) by rw [rX_msg (by omega) (by omega)]; rfl) ?_
      refine m_astore_n dX6_giveWaiting_16 (by decide) rfl rfl ?_
      refine m_aload_n dX6_giveWaiting_17 rfl ?_
      refine m_gi (z := 5) dX6_giveWaiting_18 fl_X6_88 hq rfl rfl ?_
      refine m_if_ne (tgt := 61) dX6_giveWaiting_21 (by decide) (fun c21 => ?_) (fun c21 => ?_)
      · have HV : (givM (I 43 5) (opX I (I 43 5)) (fun m => I (200 + m) 0)) i (vX J i) = vX J i := cif_f (fun z => by
          obtain ⟨y1, y2, y3⟩ := z
          have y1 : J (200 + i) 5 = 0 := y1
          have y2 : J (200 + i) 6 = I (200 + i) 0 := y2
          omega)
        refine m_iinc dX6_giveWaiting_61 rfl (by decide) rfl rfl (by omega) ?_
        refine m_goto (tgt := 2) dX6_giveWaiting_64 (by decide) ?_
        exact ih (i + 1) _ _ (by omega) (by omega) (ewI_step hw hi (fun x hx => by first | rfl | simp only [upI_o hx]) (fun j hj => by first | rfl | (unfold upI; repeat rw [if_neg (by omega)])) (by rw [ev]; first | exact HV.symm | exact (show vX _ i = _ from HV.symm ▸ rfl) | (rw [HV]; simp [vX, upI]; done)))
      · refine m_aload_n dX6_giveWaiting_24 rfl ?_
        refine m_gi (z := 6) dX6_giveWaiting_25 fl_X6_45 hq rfl rfl ?_
        refine m_aload_n dX6_giveWaiting_28 rfl ?_
        refine m_gi (z := 0) dX6_giveWaiting_29 fl_X6_29 hq rfl rfl ?_
        refine m_icmp_ne (tgt := 61) dX6_giveWaiting_32 (by decide) (fun c32 => ?_) (fun c32 => ?_)
        · have HV : (givM (I 43 5) (opX I (I 43 5)) (fun m => I (200 + m) 0)) i (vX J i) = vX J i := cif_f (fun z => by
            obtain ⟨y1, y2, y3⟩ := z
            have y1 : J (200 + i) 5 = 0 := y1
            have y2 : J (200 + i) 6 = I (200 + i) 0 := y2
            omega)
          refine m_iinc dX6_giveWaiting_61 rfl (by decide) rfl rfl (by omega) ?_
          refine m_goto (tgt := 2) dX6_giveWaiting_64 (by decide) ?_
          exact ih (i + 1) _ _ (by omega) (by omega) (ewI_step hw hi (fun x hx => by first | rfl | simp only [upI_o hx]) (fun j hj => by first | rfl | (unfold upI; repeat rw [if_neg (by omega)])) (by rw [ev]; first | exact HV.symm | exact (show vX _ i = _ from HV.symm ▸ rfl) | (rw [HV]; simp [vX, upI]; done)))
        · refine m_aload_n dX6_giveWaiting_35 rfl ?_
          refine m_gr (z := 0) dX6_giveWaiting_36 fl_X6_20 oX_43 rfl rfl rX_43_0 ?_
          refine m_aload_n dX6_giveWaiting_39 rfl ?_
          refine m_gi (z := 0) dX6_giveWaiting_40 fl_X6_29 hq rfl rfl ?_
          refine m_aload_n dX6_giveWaiting_43 rfl ?_
          refine m_gi (z := 5) dX6_giveWaiting_44 fl_X6_39 oX_43 rfl rfl ?_
          refine m_Vi [_, _] dX6_giveWaiting_47 lk_X6_110 rfl oX_21 rfl (Nat.le_of_ble_eq_true rfl) (by omega) (x_isOpen (by omega) (by omega) (by rw [e43]; omega) (by omega)) ?_
          refine m_if_eq (tgt := 61) dX6_giveWaiting_50 (by decide) (fun c50 => ?_) (fun c50 => ?_)
          · have z1 := bI_eq0 c50
            have HV : (givM (I 43 5) (opX I (I 43 5)) (fun m => I (200 + m) 0)) i (vX J i) = vX J i := cif_f (fun z => by
              obtain ⟨y1, y2, y3⟩ := z
              have y1 : J (200 + i) 5 = 0 := y1
              have y2 : J (200 + i) 6 = I (200 + i) 0 := y2
              unfold opX at y3
              rw [e22, e23, e43, e0] at z1
              exact z1 y3)
            refine m_iinc dX6_giveWaiting_61 rfl (by decide) rfl rfl (by omega) ?_
            refine m_goto (tgt := 2) dX6_giveWaiting_64 (by decide) ?_
            exact ih (i + 1) _ _ (by omega) (by omega) (ewI_step hw hi (fun x hx => by first | rfl | simp only [upI_o hx]) (fun j hj => by first | rfl | (unfold upI; repeat rw [if_neg (by omega)])) (by rw [ev]; first | exact HV.symm | exact (show vX _ i = _ from HV.symm ▸ rfl) | (rw [HV]; simp [vX, upI]; done)))
          · have z1 := bI_ne0 c50
            have HV : (givM (I 43 5) (opX I (I 43 5)) (fun m => I (200 + m) 0)) i (vX J i) = mk6 2 (J (200 + i) 6) (J (200 + i) 7) (J (200 + i) 8) (I 43 5) (J (200 + i) 10) := cif_t ⟨show J (200 + i) 5 = 0 by omega, show J (200 + i) 6 = I (200 + i) 0 by omega, by
              unfold opX
              rw [e22, e23, e43, e0] at z1
              exact z1⟩
            refine m_aload_n dX6_giveWaiting_53 rfl ?_
            refine m_aload_n dX6_giveWaiting_54 rfl ?_
            refine m_gi (z := 5) dX6_giveWaiting_55 fl_X6_39 oX_43 rfl rfl ?_
            rw [e43]
            refine m_Vv [_] dX6_giveWaiting_58 lk_X6_113 rfl hq rfl (Nat.le_of_ble_eq_true rfl) (by omega) (x_give hq) ?_
            refine m_iinc dX6_giveWaiting_61 rfl (by decide) rfl rfl (by omega) ?_
            refine m_goto (tgt := 2) dX6_giveWaiting_64 (by decide) ?_
            exact ih (i + 1) _ _ (by omega) (by omega) (ewI_step hw hi (fun x hx => by first | rfl | simp only [upI_o hx]) (fun j hj => by first | rfl | (unfold upI; repeat rw [if_neg (by omega)])) (by rw [ev]; first | exact HV.symm | exact (show vX _ i = _ from HV.symm ▸ rfl) | (rw [HV]; simp [vX, upI]; done)))
theorem x_giveWaiting (hd : 2 ≤ d) (hc : I 43 4 = nm) (hm : nm ≤ 24) (hS : ∀ m, m < nm → MsgS I (200 + m)) (ht : 0 ≤ I 43 5 ∧ I 43 5 ≤ 9000) : SV g d mX6_giveWaiting [vr 43] (shX nm no) (RX nm no) I (fun I' => ewI I I' nm nm (givM (I 43 5) (opX I (I 43 5)) (fun m => I (200 + m) 0))) := by
  intro Q h
  refine C_of rfl (Nat.le_of_ble_eq_true rfl) rfl ?_
  refine m_iconst dX6_giveWaiting_0 (by decide) ?_
  refine m_istore_n dX6_giveWaiting_1 (by decide) rfl rfl ?_
  exact x_give_loop hd hc hm hS ht h (nm + 1) 0 I none (by omega) (by omega) ewI_0
end
