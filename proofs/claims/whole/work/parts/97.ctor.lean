/-! CONSTRUCTORS -/
section
variable {g : GH} {d : Nat} {sh : SH} {R : RR} {I : II}
abbrev s5a (sh : SH) : SH := nOs sh 39 40 41
abbrev r5a (R : RR) : RR := nOr R 38 39 40 41
abbrev i5a (g : GH) (I : II) : II := nOi I 38 39 40 41 (fun j => (gX g 2).2 j.toNat)
theorem x_init5a (hG : GvI g) (hd : 3 ≤ d) (h0 : (sh 38).1 = 5 + 1) (z39 : (sh 39).1 = 0) (z40 : (sh 40).1 = 0) (z41 : (sh 41).1 = 0) : SP g d mX5_init 3 18 [vr 38] sh R I none (s5a sh) (r5a R) (i5a g I) := x_init5 hG hd h0 z39 z40 z41 (by decide) (by decide) (by decide) (by unfold dsO; decide)
abbrev s5b (sh : SH) : SH := nOs sh 310 320 330
abbrev r5b (R : RR) : RR := nOr R 300 310 320 330
abbrev i5b (g : GH) (I : II) : II := nOi I 300 310 320 330 (fun j => (gX g 2).2 j.toNat)
theorem x_init5b (hG : GvI g) (hd : 3 ≤ d) (h0 : (sh 300).1 = 5 + 1) (z310 : (sh 310).1 = 0) (z320 : (sh 320).1 = 0) (z330 : (sh 330).1 = 0) : SP g d mX5_init 3 18 [vr 300] sh R I none (s5b sh) (r5b R) (i5b g I) := x_init5 hG hd h0 z310 z320 z330 (by decide) (by decide) (by decide) (by unfold dsO; decide)
abbrev s8a (sh : SH) : SH := (nwS (nwS (nwS sh 29 20 12) 30 20 12) 31 20 12)
abbrev r8a (R : RR) : RR := (upR (nwR (upR (nwR (upR (nwR R 29) 28 0 (some 29)) 30) 28 1 (some 30)) 31) 28 2 (some 31))
abbrev i8a (I : II) : II := (nwI (nwI (nwI I 29) 30) 31)
theorem x_init8a (hd : 1 ≤ d) (h0 : (sh 28).1 = 8 + 1) (z29 : (sh 29).1 = 0) (z30 : (sh 30).1 = 0) (z31 : (sh 31).1 = 0) : SP g d mX8_init 3 36 [vr 28, vi 12] sh R I none (s8a sh) (r8a R) (i8a I) := by
  intro Q h
  refine C_of rfl (Nat.le_of_ble_eq_true rfl) rfl ?_
  refine m_aload_n dX8_init_0 rfl ?_
  refine m_objInit dX8_init_1 lk_X8_3 (by omega) (Nat.le_of_ble_eq_true rfl) ?_
  refine m_aload_n dX8_init_4 rfl ?_
  refine m_iload_n dX8_init_5 rfl ?_
  refine m_newa (k := 0) 29 dX8_init_6 rfl aw_int ⟨by decide, rfl, rfl, by decide⟩ (by omega) (by omega) z29 (by omega) (by omega) (by decide) ?_
  refine m_putrF (k := 0) dX8_init_8 fl_X8_9 h0 rfl rfl rfl rfl (Or.inr ⟨_, rfl⟩) ?_
  refine m_aload_n dX8_init_11 rfl ?_
  refine m_iload_n dX8_init_12 rfl ?_
  refine m_newa (k := 0) 30 dX8_init_13 rfl aw_int ⟨by decide, rfl, rfl, by decide⟩ (by omega) (by omega) z30 (by omega) (by omega) (by decide) ?_
  refine m_putrF (k := 1) dX8_init_15 fl_X8_15 h0 rfl rfl rfl rfl (Or.inr ⟨_, rfl⟩) ?_
  refine m_aload_n dX8_init_18 rfl ?_
  refine m_iload_n dX8_init_19 rfl ?_
  refine m_newa (k := 0) 31 dX8_init_20 rfl aw_int ⟨by decide, rfl, rfl, by decide⟩ (by omega) (by omega) z31 (by omega) (by omega) (by decide) ?_
  refine m_putrF (k := 2) dX8_init_22 fl_X8_18 h0 rfl rfl rfl rfl (Or.inr ⟨_, rfl⟩) ?_
  refine m_vret dX8_init_25 rfl ?_
  exact h
abbrev s8b (sh : SH) : SH := (nwS (nwS (nwS sh 33 20 6) 34 20 6) 35 20 6)
abbrev r8b (R : RR) : RR := (upR (nwR (upR (nwR (upR (nwR R 33) 32 0 (some 33)) 34) 32 1 (some 34)) 35) 32 2 (some 35))
abbrev i8b (I : II) : II := (nwI (nwI (nwI I 33) 34) 35)
theorem x_init8b (hd : 1 ≤ d) (h0 : (sh 32).1 = 8 + 1) (z33 : (sh 33).1 = 0) (z34 : (sh 34).1 = 0) (z35 : (sh 35).1 = 0) : SP g d mX8_init 3 18 [vr 32, vi 6] sh R I none (s8b sh) (r8b R) (i8b I) := by
  intro Q h
  refine C_of rfl (Nat.le_of_ble_eq_true rfl) rfl ?_
  refine m_aload_n dX8_init_0 rfl ?_
  refine m_objInit dX8_init_1 lk_X8_3 (by omega) (Nat.le_of_ble_eq_true rfl) ?_
  refine m_aload_n dX8_init_4 rfl ?_
  refine m_iload_n dX8_init_5 rfl ?_
  refine m_newa (k := 0) 33 dX8_init_6 rfl aw_int ⟨by decide, rfl, rfl, by decide⟩ (by omega) (by omega) z33 (by omega) (by omega) (by decide) ?_
  refine m_putrF (k := 0) dX8_init_8 fl_X8_9 h0 rfl rfl rfl rfl (Or.inr ⟨_, rfl⟩) ?_
  refine m_aload_n dX8_init_11 rfl ?_
  refine m_iload_n dX8_init_12 rfl ?_
  refine m_newa (k := 0) 34 dX8_init_13 rfl aw_int ⟨by decide, rfl, rfl, by decide⟩ (by omega) (by omega) z34 (by omega) (by omega) (by decide) ?_
  refine m_putrF (k := 1) dX8_init_15 fl_X8_15 h0 rfl rfl rfl rfl (Or.inr ⟨_, rfl⟩) ?_
  refine m_aload_n dX8_init_18 rfl ?_
  refine m_iload_n dX8_init_19 rfl ?_
  refine m_newa (k := 0) 35 dX8_init_20 rfl aw_int ⟨by decide, rfl, rfl, by decide⟩ (by omega) (by omega) z35 (by omega) (by omega) (by decide) ?_
  refine m_putrF (k := 2) dX8_init_22 fl_X8_18 h0 rfl rfl rfl rfl (Or.inr ⟨_, rfl⟩) ?_
  refine m_vret dX8_init_25 rfl ?_
  exact h
abbrev s10 (sh : SH) : SH := (nwS sh 47 23 160)
abbrev r10 (R : RR) : RR := (upR (nwR R 47) 46 0 (some 47))
abbrev i10 (I : II) : II := (nwI I 47)
theorem x_init10 (hd : 1 ≤ d) (h0 : (sh 46).1 = 10 + 1) (z47 : (sh 47).1 = 0) : SP g d mX10_init 1 160 [vr 46] sh R I none (s10 sh) (r10 R) (i10 I) := by
  intro Q h
  refine C_of rfl (Nat.le_of_ble_eq_true rfl) rfl ?_
  refine m_aload_n dX10_init_0 rfl ?_
  refine m_objInit dX10_init_1 lk_X10_3 (by omega) (Nat.le_of_ble_eq_true rfl) ?_
  refine m_aload_n dX10_init_4 rfl ?_
  refine m_sipush dX10_init_5 rfl (by decide) ?_
  refine m_newa (k := 3) 47 dX10_init_8 rfl aw_char ⟨by decide, rfl, rfl, by decide⟩ (by omega) (by omega) z47 (by omega) (by omega) (by decide) ?_
  refine m_putrF (k := 0) dX10_init_10 fl_X10_9 h0 rfl rfl rfl rfl (Or.inr ⟨_, rfl⟩) ?_
  refine m_vret dX10_init_13 rfl ?_
  exact h
abbrev s0 (sh : SH) : SH := (nwS (nwS (nwS (nwS (nwS (nwS sh 49 24 16) 50 20 16) 51 22 39) 52 22 39) 53 20 40) 54 20 16)
abbrev r0 (R : RR) : RR := (upR (nwR (upR (nwR (upR (nwR (upR (nwR (upR (nwR (upR (nwR R 49) 48 0 (some 49)) 50) 48 1 (some 50)) 51) 48 2 (some 51)) 52) 48 3 (some 52)) 53) 48 4 (some 53)) 54) 48 5 (some 54))
abbrev i0 (I : II) : II := (nwI (nwI (nwI (nwI (nwI (nwI I 49) 50) 51) 52) 53) 54)
theorem x_init0 (hd : 1 ≤ d) (h0 : (sh 48).1 = 0 + 1) (z49 : (sh 49).1 = 0) (z50 : (sh 50).1 = 0) (z51 : (sh 51).1 = 0) (z52 : (sh 52).1 = 0) (z53 : (sh 53).1 = 0) (z54 : (sh 54).1 = 0) : SP g d mX0_init 6 166 [vr 48] sh R I none (s0 sh) (r0 R) (i0 I) := by
  intro Q h
  refine C_of rfl (Nat.le_of_ble_eq_true rfl) rfl ?_
  refine m_aload_n dX0_init_0 rfl ?_
  refine m_objInit dX0_init_1 lk_X0_3 (by omega) (Nat.le_of_ble_eq_true rfl) ?_
  refine m_aload_n dX0_init_4 rfl ?_
  refine m_bipush dX0_init_5 rfl (by decide) ?_
  refine m_newl 49 dX0_init_7 rfl aw_long (by omega) (by omega) z49 (by omega) (by omega) (by decide) ?_
  refine m_putrF (k := 0) dX0_init_9 fl_X0_9 h0 rfl rfl rfl rfl (Or.inr ⟨_, rfl⟩) ?_
  refine m_aload_n dX0_init_12 rfl ?_
  refine m_bipush dX0_init_13 rfl (by decide) ?_
  refine m_newa (k := 0) 50 dX0_init_15 rfl aw_int ⟨by decide, rfl, rfl, by decide⟩ (by omega) (by omega) z50 (by omega) (by omega) (by decide) ?_
  refine m_putrF (k := 1) dX0_init_17 fl_X0_15 h0 rfl rfl rfl rfl (Or.inr ⟨_, rfl⟩) ?_
  refine m_aload_n dX0_init_20 rfl ?_
  refine m_bipush dX0_init_21 rfl (by decide) ?_
  refine m_newa (k := 2) 51 dX0_init_23 rfl aw_byte ⟨by decide, rfl, rfl, by decide⟩ (by omega) (by omega) z51 (by omega) (by omega) (by decide) ?_
  refine m_putrF (k := 2) dX0_init_25 fl_X0_19 h0 rfl rfl rfl rfl (Or.inr ⟨_, rfl⟩) ?_
  refine m_aload_n dX0_init_28 rfl ?_
  refine m_bipush dX0_init_29 rfl (by decide) ?_
  refine m_newa (k := 2) 52 dX0_init_31 rfl aw_byte ⟨by decide, rfl, rfl, by decide⟩ (by omega) (by omega) z52 (by omega) (by omega) (by decide) ?_
  refine m_putrF (k := 3) dX0_init_33 fl_X0_23 h0 rfl rfl rfl rfl (Or.inr ⟨_, rfl⟩) ?_
  refine m_aload_n dX0_init_36 rfl ?_
  refine m_bipush dX0_init_37 rfl (by decide) ?_
  refine m_newa (k := 0) 53 dX0_init_39 rfl aw_int ⟨by decide, rfl, rfl, by decide⟩ (by omega) (by omega) z53 (by omega) (by omega) (by decide) ?_
  refine m_putrF (k := 4) dX0_init_41 fl_X0_26 h0 rfl rfl rfl rfl (Or.inr ⟨_, rfl⟩) ?_
  refine m_aload_n dX0_init_44 rfl ?_
  refine m_bipush dX0_init_45 rfl (by decide) ?_
  refine m_newa (k := 0) 54 dX0_init_47 rfl aw_int ⟨by decide, rfl, rfl, by decide⟩ (by omega) (by omega) z54 (by omega) (by omega) (by decide) ?_
  refine m_putrF (k := 5) dX0_init_49 fl_X0_29 h0 rfl rfl rfl rfl (Or.inr ⟨_, rfl⟩) ?_
  refine m_vret dX0_init_52 rfl ?_
  exact h
abbrev s7 (sh : SH) : SH := (nwS (nwS sh 77 20 72) 78 20 3)
abbrev r7 (R : RR) : RR := (upR (nwR (upR (nwR R 77) 76 0 (some 77)) 78) 76 1 (some 78))
abbrev i7 (I : II) : II := (upI (nwI (nwI I 77) 78) 76 4 (10))
theorem x_init7 (hd : 1 ≤ d) (h0 : (sh 76).1 = 7 + 1) (z77 : (sh 77).1 = 0) (z78 : (sh 78).1 = 0) : SP g d mX7_init 2 75 [vr 76] sh R I none (s7 sh) (r7 R) (i7 I) := by
  intro Q h
  refine C_of rfl (Nat.le_of_ble_eq_true rfl) rfl ?_
  refine m_aload_n dX7_init_0 rfl ?_
  refine m_objInit dX7_init_1 lk_X7_3 (by omega) (Nat.le_of_ble_eq_true rfl) ?_
  refine m_aload_n dX7_init_4 rfl ?_
  refine m_bipush dX7_init_5 rfl (by decide) ?_
  refine m_newa (k := 0) 77 dX7_init_7 rfl aw_int ⟨by decide, rfl, rfl, by decide⟩ (by omega) (by omega) z77 (by omega) (by omega) (by decide) ?_
  refine m_putrF (k := 0) dX7_init_9 fl_X7_9 h0 rfl rfl rfl rfl (Or.inr ⟨_, rfl⟩) ?_
  refine m_aload_n dX7_init_12 rfl ?_
  refine m_iconst dX7_init_13 (by decide) ?_
  refine m_newa (k := 0) 78 dX7_init_14 rfl aw_int ⟨by decide, rfl, rfl, by decide⟩ (by omega) (by omega) z78 (by omega) (by omega) (by decide) ?_
  refine m_putrF (k := 1) dX7_init_16 fl_X7_15 h0 rfl rfl rfl rfl (Or.inr ⟨_, rfl⟩) ?_
  refine m_aload_n dX7_init_19 rfl ?_
  refine m_bipush dX7_init_20 rfl (by decide) ?_
  refine m_pi (z := 4) dX7_init_22 fl_X7_18 h0 rfl rfl rfl ?_
  refine m_vret dX7_init_25 rfl ?_
  exact h
abbrev s1 (sh : SH) : SH := (nwS (nwS (nwS (nwS (nwS sh 80 20 6) 81 20 6) 82 20 6) 83 20 6) 84 20 6)
abbrev r1 (R : RR) : RR := (upR (nwR (upR (nwR (upR (nwR (upR (nwR (upR (nwR R 80) 79 0 (some 80)) 81) 79 1 (some 81)) 82) 79 2 (some 82)) 83) 79 3 (some 83)) 84) 79 4 (some 84))
abbrev i1 (I : II) : II := (nwI (nwI (nwI (nwI (nwI I 80) 81) 82) 83) 84)
theorem x_init1 (hd : 1 ≤ d) (h0 : (sh 79).1 = 1 + 1) (z80 : (sh 80).1 = 0) (z81 : (sh 81).1 = 0) (z82 : (sh 82).1 = 0) (z83 : (sh 83).1 = 0) (z84 : (sh 84).1 = 0) : SP g d mX1_init 5 30 [vr 79] sh R I none (s1 sh) (r1 R) (i1 I) := by
  intro Q h
  refine C_of rfl (Nat.le_of_ble_eq_true rfl) rfl ?_
  refine m_aload_n dX1_init_0 rfl ?_
  refine m_objInit dX1_init_1 lk_X1_3 (by omega) (Nat.le_of_ble_eq_true rfl) ?_
  refine m_aload_n dX1_init_4 rfl ?_
  refine m_bipush dX1_init_5 rfl (by decide) ?_
  refine m_newa (k := 0) 80 dX1_init_7 rfl aw_int ⟨by decide, rfl, rfl, by decide⟩ (by omega) (by omega) z80 (by omega) (by omega) (by decide) ?_
  refine m_putrF (k := 0) dX1_init_9 fl_X1_9 h0 rfl rfl rfl rfl (Or.inr ⟨_, rfl⟩) ?_
  refine m_aload_n dX1_init_12 rfl ?_
  refine m_bipush dX1_init_13 rfl (by decide) ?_
  refine m_newa (k := 0) 81 dX1_init_15 rfl aw_int ⟨by decide, rfl, rfl, by decide⟩ (by omega) (by omega) z81 (by omega) (by omega) (by decide) ?_
  refine m_putrF (k := 1) dX1_init_17 fl_X1_15 h0 rfl rfl rfl rfl (Or.inr ⟨_, rfl⟩) ?_
  refine m_aload_n dX1_init_20 rfl ?_
  refine m_bipush dX1_init_21 rfl (by decide) ?_
  refine m_newa (k := 0) 82 dX1_init_23 rfl aw_int ⟨by decide, rfl, rfl, by decide⟩ (by omega) (by omega) z82 (by omega) (by omega) (by decide) ?_
  refine m_putrF (k := 2) dX1_init_25 fl_X1_18 h0 rfl rfl rfl rfl (Or.inr ⟨_, rfl⟩) ?_
  refine m_aload_n dX1_init_28 rfl ?_
  refine m_bipush dX1_init_29 rfl (by decide) ?_
  refine m_newa (k := 0) 83 dX1_init_31 rfl aw_int ⟨by decide, rfl, rfl, by decide⟩ (by omega) (by omega) z83 (by omega) (by omega) (by decide) ?_
  refine m_putrF (k := 3) dX1_init_33 fl_X1_21 h0 rfl rfl rfl rfl (Or.inr ⟨_, rfl⟩) ?_
  refine m_aload_n dX1_init_36 rfl ?_
  refine m_bipush dX1_init_37 rfl (by decide) ?_
  refine m_newa (k := 0) 84 dX1_init_39 rfl aw_int ⟨by decide, rfl, rfl, by decide⟩ (by omega) (by omega) z84 (by omega) (by omega) (by decide) ?_
  refine m_putrF (k := 4) dX1_init_41 fl_X1_24 h0 rfl rfl rfl rfl (Or.inr ⟨_, rfl⟩) ?_
  refine m_vret dX1_init_44 rfl ?_
  exact h
abbrev s4 (sh : SH) : SH := (nwS (s8b (nwS (s8a (nwS (nwS (nwS (nwS (nwS (nwS (nwS sh 22 20 8) 23 20 8) 24 20 12) 25 20 12) 26 20 12) 27 21 12) 28 (8 + 1) 0)) 32 (8 + 1) 0)) 36 20 8)
abbrev r4 (R : RR) : RR := (upR (nwR (upR (r8b (nwR (upR (r8a (nwR (upR (nwR (upR (nwR (upR (nwR (upR (nwR (upR (nwR (upR (nwR R 22) 21 0 (some 22)) 23) 21 1 (some 23)) 24) 21 2 (some 24)) 25) 21 3 (some 25)) 26) 21 4 (some 26)) 27) 21 5 (some 27)) 28)) 21 6 (some 28)) 32)) 21 7 (some 32)) 36) 21 8 (some 36))
abbrev i4 (I : II) : II := (cpI (nwI (i8b (nwI (i8a (nwI (nwI (nwI (nwI (nwI (nwI (nwI I 22) 23) 24) 25) 26) 27) 28)) 32)) 36) 23 (fun _ => 1439) (8 : Nat))
theorem x_init4 (hd : 2 ≤ d) (h0 : (sh 21).1 = 4 + 1) (z22 : (sh 22).1 = 0) (z23 : (sh 23).1 = 0) (z24 : (sh 24).1 = 0) (z25 : (sh 25).1 = 0) (z26 : (sh 26).1 = 0) (z27 : (sh 27).1 = 0) (z28 : (sh 28).1 = 0) (z29 : (sh 29).1 = 0) (z30 : (sh 30).1 = 0) (z31 : (sh 31).1 = 0) (z32 : (sh 32).1 = 0) (z33 : (sh 33).1 = 0) (z34 : (sh 34).1 = 0) (z35 : (sh 35).1 = 0) (z36 : (sh 36).1 = 0) : SP g d mX4_init 15 134 [vr 21] sh R I none (s4 sh) (r4 R) (i4 I) := by
  intro Q h
  refine C_of rfl (Nat.le_of_ble_eq_true rfl) rfl ?_
  refine m_aload_n dX4_init_0 rfl ?_
  refine m_objInit dX4_init_1 lk_X4_3 (by omega) (Nat.le_of_ble_eq_true rfl) ?_
  refine m_aload_n dX4_init_4 rfl ?_
  refine m_bipush dX4_init_5 rfl (by decide) ?_
  refine m_newa (k := 0) 22 dX4_init_7 rfl aw_int ⟨by decide, rfl, rfl, by decide⟩ (by omega) (by omega) z22 (by omega) (by omega) (by decide) ?_
  refine m_putrF (k := 0) dX4_init_9 fl_X4_9 h0 rfl rfl rfl rfl (Or.inr ⟨_, rfl⟩) ?_
  refine m_aload_n dX4_init_12 rfl ?_
  refine m_bipush dX4_init_13 rfl (by decide) ?_
  refine m_newa (k := 0) 23 dX4_init_15 rfl aw_int ⟨by decide, rfl, rfl, by decide⟩ (by omega) (by omega) z23 (by omega) (by omega) (by decide) ?_
  refine m_putrF (k := 1) dX4_init_17 fl_X4_15 h0 rfl rfl rfl rfl (Or.inr ⟨_, rfl⟩) ?_
  refine m_aload_n dX4_init_20 rfl ?_
  refine m_bipush dX4_init_21 rfl (by decide) ?_
  refine m_newa (k := 0) 24 dX4_init_23 rfl aw_int ⟨by decide, rfl, rfl, by decide⟩ (by omega) (by omega) z24 (by omega) (by omega) (by decide) ?_
  refine m_putrF (k := 2) dX4_init_25 fl_X4_18 h0 rfl rfl rfl rfl (Or.inr ⟨_, rfl⟩) ?_
  refine m_aload_n dX4_init_28 rfl ?_
  refine m_bipush dX4_init_29 rfl (by decide) ?_
  refine m_newa (k := 0) 25 dX4_init_31 rfl aw_int ⟨by decide, rfl, rfl, by decide⟩ (by omega) (by omega) z25 (by omega) (by omega) (by decide) ?_
  refine m_putrF (k := 3) dX4_init_33 fl_X4_21 h0 rfl rfl rfl rfl (Or.inr ⟨_, rfl⟩) ?_
  refine m_aload_n dX4_init_36 rfl ?_
  refine m_bipush dX4_init_37 rfl (by decide) ?_
  refine m_newa (k := 0) 26 dX4_init_39 rfl aw_int ⟨by decide, rfl, rfl, by decide⟩ (by omega) (by omega) z26 (by omega) (by omega) (by decide) ?_
  refine m_putrF (k := 4) dX4_init_41 fl_X4_24 h0 rfl rfl rfl rfl (Or.inr ⟨_, rfl⟩) ?_
  refine m_aload_n dX4_init_44 rfl ?_
  refine m_bipush dX4_init_45 rfl (by decide) ?_
  refine m_newa (k := 1) 27 dX4_init_47 rfl aw_boolean ⟨by decide, rfl, rfl, by decide⟩ (by omega) (by omega) z27 (by omega) (by omega) (by decide) ?_
  refine m_putrF (k := 5) dX4_init_49 fl_X4_27 h0 rfl rfl rfl rfl (Or.inr ⟨_, rfl⟩) ?_
  refine m_aload_n dX4_init_52 rfl ?_
  refine m_new (c := 8) 28 dX4_init_53 (by decide) ⟨nw_X4_31, ia_X8, iw_X8⟩ z28 (by omega) (by omega) (show clN 8 ≤ _ by first | decide | assumption) ?_
  refine m_dup dX4_init_56 (fun _ z => by cases z) ?_
  refine m_bipush dX4_init_57 rfl (by decide) ?_
  refine m_Ivb [_] dX4_init_59 lk_X4_33 rfl rfl (Nat.le_of_ble_eq_true rfl) (by omega) (by decide) (by decide) (x_init8a (by omega) rfl z29 z30 z31) ?_
  refine m_putrF (k := 6) dX4_init_62 fl_X4_36 h0 rfl rfl rfl rfl (Or.inl ⟨_, rfl⟩) ?_
  refine m_aload_n dX4_init_65 rfl ?_
  refine m_new (c := 8) 32 dX4_init_66 (by decide) ⟨nw_X4_31, ia_X8, iw_X8⟩ z32 (by omega) (by omega) (show clN 8 ≤ _ by first | decide | assumption) ?_
  refine m_dup dX4_init_69 (fun _ z => by cases z) ?_
  refine m_bipush dX4_init_70 rfl (by decide) ?_
  refine m_Ivb [_] dX4_init_72 lk_X4_33 rfl rfl (Nat.le_of_ble_eq_true rfl) (by omega) (by decide) (by decide) (x_init8b (by omega) rfl z33 z34 z35) ?_
  refine m_putrF (k := 7) dX4_init_75 fl_X4_40 h0 rfl rfl rfl rfl (Or.inl ⟨_, rfl⟩) ?_
  refine m_aload_n dX4_init_78 rfl ?_
  refine m_bipush dX4_init_79 rfl (by decide) ?_
  refine m_newa (k := 0) 36 dX4_init_81 rfl aw_int ⟨by decide, rfl, rfl, by decide⟩ (by omega) (by omega) z36 (by omega) (by omega) (by decide) ?_
  refine m_putrF (k := 8) dX4_init_83 fl_X4_43 h0 rfl rfl rfl rfl (Or.inr ⟨_, rfl⟩) ?_
  refine m_aload_n dX4_init_86 rfl ?_
  refine m_gr (z := 1) dX4_init_87 fl_X4_15 h0 rfl rfl (show _ = some 23 from rfl) ?_
  refine m_sipush dX4_init_90 rfl (by decide) ?_
  refine m_Sv [_, _] dX4_init_93 lk_X4_46 rfl rfl (Nat.le_of_ble_eq_true rfl) (by omega) (x_fill (N := 8) rfl (by decide)) ?_
  refine m_vret dX4_init_96 rfl ?_
  exact h
abbrev s6 (sh : SH) : SH := (nwS (nwS sh 44 25 24) 45 25 24)
abbrev r6 (R : RR) : RR := (upR (upR (upR (nwR (upR (nwR R 44) 43 2 (some 44)) 45) 43 3 (some 45)) 43 0 (some 21)) 43 1 (some 37))
abbrev i6 (I : II) : II := (nwI (nwI I 44) 45)
theorem x_init6 (hd : 1 ≤ d) (h0 : (sh 43).1 = 6 + 1) (z44 : (sh 44).1 = 0) (z45 : (sh 45).1 = 0) : SP g d mX6_init 2 48 [vr 43, vr 21, vr 37] sh R I none (s6 sh) (r6 R) (i6 I) := by
  intro Q h
  refine C_of rfl (Nat.le_of_ble_eq_true rfl) rfl ?_
  refine m_aload_n dX6_init_0 rfl ?_
  refine m_objInit dX6_init_1 lk_X6_3 (by omega) (Nat.le_of_ble_eq_true rfl) ?_
  refine m_aload_n dX6_init_4 rfl ?_
  refine m_bipush dX6_init_5 rfl (by decide) ?_
  refine m_newq (k := 5) 44 dX6_init_7 nw_X6_9 (Or.inl rfl) ⟨by decide, rfl⟩ (by omega) (by omega) z44 (by omega) (by omega) (by decide) ?_
  refine m_putrF (k := 2) dX6_init_10 fl_X6_11 h0 rfl rfl rfl rfl (Or.inr ⟨_, rfl⟩) ?_
  refine m_aload_n dX6_init_13 rfl ?_
  refine m_bipush dX6_init_14 rfl (by decide) ?_
  refine m_newq (k := 5) 45 dX6_init_16 nw_X6_9 (Or.inl rfl) ⟨by decide, rfl⟩ (by omega) (by omega) z45 (by omega) (by omega) (by decide) ?_
  refine m_putrF (k := 3) dX6_init_19 fl_X6_17 h0 rfl rfl rfl rfl (Or.inr ⟨_, rfl⟩) ?_
  refine m_aload_n dX6_init_22 rfl ?_
  refine m_aload_n dX6_init_23 rfl ?_
  refine m_putrF (k := 0) dX6_init_24 fl_X6_20 h0 rfl rfl rfl rfl (Or.inl ⟨_, rfl⟩) ?_
  refine m_aload_n dX6_init_27 rfl ?_
  refine m_aload_n dX6_init_28 rfl ?_
  refine m_putrF (k := 1) dX6_init_29 fl_X6_24 h0 rfl rfl rfl rfl (Or.inl ⟨_, rfl⟩) ?_
  refine m_vret dX6_init_32 rfl ?_
  exact h
abbrev s2 (sh : SH) : SH := (s5b (nwS (nwS (s5a (nwS sh 38 (5 + 1) 0)) 42 26 6) 300 (5 + 1) 0))
abbrev r2 (R : RR) : RR := (upR (r5b (nwR (upR (nwR (upR (r5a (nwR R 38)) 37 0 (some 38)) 42) 37 1 (some 42)) 300)) 37 2 (some 300))
abbrev i2 (g : GH) (I : II) : II := (upI (i5b g (nwI (nwI (i5a g (nwI I 38)) 42) 300)) 37 4 (5))
theorem x_init2 (hG : GvI g) (hd : 4 ≤ d) (h0 : (sh 37).1 = 2 + 1) (z38 : (sh 38).1 = 0) (z39 : (sh 39).1 = 0) (z40 : (sh 40).1 = 0) (z41 : (sh 41).1 = 0) (z42 : (sh 42).1 = 0) (z300 : (sh 300).1 = 0) (z310 : (sh 310).1 = 0) (z320 : (sh 320).1 = 0) (z330 : (sh 330).1 = 0) : SP g d mX2_init 9 58 [vr 37] sh R I none (s2 sh) (r2 R) (i2 g I) := by
  intro Q h
  refine C_of rfl (Nat.le_of_ble_eq_true rfl) rfl ?_
  refine m_aload_n dX2_init_0 rfl ?_
  refine m_objInit dX2_init_1 lk_X2_3 (by omega) (Nat.le_of_ble_eq_true rfl) ?_
  refine m_aload_n dX2_init_4 rfl ?_
  refine m_new (c := 5) 38 dX2_init_5 (by decide) ⟨nw_X2_9, ia_X5, iw_X5⟩ z38 (by omega) (by omega) (show clN 5 ≤ _ by first | decide | assumption) ?_
  refine m_dup dX2_init_8 (fun _ z => by cases z) ?_
  refine m_Ivb [] dX2_init_9 lk_X2_11 rfl rfl (Nat.le_of_ble_eq_true rfl) (by omega) (by decide) (by decide) (x_init5a hG (by omega) rfl z39 z40 z41) ?_
  refine m_putrF (k := 0) dX2_init_12 fl_X2_12 h0 rfl rfl rfl rfl (Or.inl ⟨_, rfl⟩) ?_
  refine m_aload_n dX2_init_15 rfl ?_
  refine m_bipush dX2_init_16 rfl (by decide) ?_
  refine m_newq (k := 6) 42 dX2_init_18 nw_X2_9 (Or.inr rfl) ⟨by decide, rfl⟩ (by omega) (by omega) z42 (by omega) (by omega) (by decide) ?_
  refine m_putrF (k := 1) dX2_init_21 fl_X2_18 h0 rfl rfl rfl rfl (Or.inr ⟨_, rfl⟩) ?_
  refine m_aload_n dX2_init_24 rfl ?_
  refine m_new (c := 5) 300 dX2_init_25 (by decide) ⟨nw_X2_9, ia_X5, iw_X5⟩ z300 (by omega) (by omega) (show clN 5 ≤ _ by first | decide | assumption) ?_
  refine m_dup dX2_init_28 (fun _ z => by cases z) ?_
  refine m_Ivb [] dX2_init_29 lk_X2_11 rfl rfl (Nat.le_of_ble_eq_true rfl) (by omega) (by decide) (by decide) (x_init5b hG (by omega) rfl z310 z320 z330) ?_
  refine m_putr (k := 2) dX2_init_32 fl_X2_22 h0 rfl rfl (Or.inl ⟨_, rfl⟩) ?_
  refine m_aload_n dX2_init_35 rfl ?_
  refine m_iconst dX2_init_36 (by decide) ?_
  refine m_pi (z := 4) dX2_init_37 fl_X2_25 h0 rfl rfl rfl ?_
  refine m_vret dX2_init_40 rfl ?_
  exact h
end
