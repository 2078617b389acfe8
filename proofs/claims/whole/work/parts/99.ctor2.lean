/-! CONSTRUCTORS: Tapes, WireOfLand, the reference -/
section
variable {g : GH} {d : Nat} {sh : SH} {R : RR} {I : II}
abbrev s9 (sh : SH) : SH := (nwS (grS (grS (nwS sh 56 20 8) 57) 66) 75 20 8)
abbrev r9 (R : RR) : RR := (upR (nwR (upR (grR (upR (grR (upR (nwR R 56) 55 0 (some 56)) 57) 55 1 (some 57)) 66) 55 2 (some 66)) 75) 55 3 (some 75))
abbrev i9 (I : II) : II := (nwI (grI (grI (nwI I 56) 57) 66) 75)
theorem x_init9 (hd : 1 ≤ d) (h0 : (sh 55).1 = 9 + 1) (z56 : (sh 56).1 = 0) (z57 : (sh 57).1 = 0) (z58 : (sh 58).1 = 0) (z59 : (sh 59).1 = 0) (z60 : (sh 60).1 = 0) (z61 : (sh 61).1 = 0) (z62 : (sh 62).1 = 0) (z63 : (sh 63).1 = 0) (z64 : (sh 64).1 = 0) (z65 : (sh 65).1 = 0) (z66 : (sh 66).1 = 0) (z67 : (sh 67).1 = 0) (z68 : (sh 68).1 = 0) (z69 : (sh 69).1 = 0) (z70 : (sh 70).1 = 0) (z71 : (sh 71).1 = 0) (z72 : (sh 72).1 = 0) (z73 : (sh 73).1 = 0) (z74 : (sh 74).1 = 0) (z75 : (sh 75).1 = 0) : SP g d mX9_init 20 144 [vr 55] sh R I none (s9 sh) (r9 R) (i9 I) := by
  intro Q h
  refine C_of rfl (Nat.le_of_ble_eq_true rfl) rfl ?_
  refine m_aload_n dX9_init_0 rfl ?_
  refine m_objInit dX9_init_1 lk_X9_3 (by omega) (Nat.le_of_ble_eq_true rfl) ?_
  refine m_aload_n dX9_init_4 rfl ?_
  refine m_bipush dX9_init_5 rfl (by decide) ?_
  refine m_newa (k := 0) 56 dX9_init_7 rfl aw_int ⟨by decide, rfl, rfl, by decide⟩ (by omega) (by omega) z56 (by omega) (by omega) (by decide) ?_
  refine m_putrF (k := 0) dX9_init_9 fl_X9_9 h0 rfl rfl rfl rfl (Or.inr ⟨_, rfl⟩) ?_
  refine m_aload_n dX9_init_12 rfl ?_
  refine m_bipush dX9_init_13 rfl (by decide) ?_
  refine m_bipush dX9_init_15 rfl (by decide) ?_
  refine m_grid 57 dX9_init_17 nw_X9_15 (fun j hj => by rcases (show j = 0 ∨ j = 1 ∨ j = 2 ∨ j = 3 ∨ j = 4 ∨ j = 5 ∨ j = 6 ∨ j = 7 ∨ j = 8 by omega) with e | e | e | e | e | e | e | e | e <;> subst e <;> first | exact z57 | exact z58 | exact z59 | exact z60 | exact z61 | exact z62 | exact z63 | exact z64 | exact z65) (by decide) (by omega) (by omega) ?_
  refine m_putrF (k := 1) dX9_init_21 fl_X9_17 h0 rfl rfl rfl rfl (Or.inr ⟨_, rfl⟩) ?_
  refine m_aload_n dX9_init_24 rfl ?_
  refine m_bipush dX9_init_25 rfl (by decide) ?_
  refine m_bipush dX9_init_27 rfl (by decide) ?_
  refine m_grid 66 dX9_init_29 nw_X9_15 (fun j hj => by rcases (show j = 0 ∨ j = 1 ∨ j = 2 ∨ j = 3 ∨ j = 4 ∨ j = 5 ∨ j = 6 ∨ j = 7 ∨ j = 8 by omega) with e | e | e | e | e | e | e | e | e <;> subst e <;> first | exact z66 | exact z67 | exact z68 | exact z69 | exact z70 | exact z71 | exact z72 | exact z73 | exact z74) (by decide) (by omega) (by omega) ?_
  refine m_putrF (k := 2) dX9_init_33 fl_X9_20 h0 rfl rfl rfl rfl (Or.inr ⟨_, rfl⟩) ?_
  refine m_aload_n dX9_init_36 rfl ?_
  refine m_bipush dX9_init_37 rfl (by decide) ?_
  refine m_newa (k := 0) 75 dX9_init_39 rfl aw_int ⟨by decide, rfl, rfl, by decide⟩ (by omega) (by omega) z75 (by omega) (by omega) (by decide) ?_
  refine m_putrF (k := 3) dX9_init_41 fl_X9_23 h0 rfl rfl rfl rfl (Or.inr ⟨_, rfl⟩) ?_
  refine m_vret dX9_init_44 rfl ?_
  exact h
abbrev s11 (sh : SH) : SH := (s1 (nwS (s7 (nwS (s9 (nwS (s0 (nwS (s10 (nwS (s6 (nwS (s2 (nwS (s4 (nwS sh 21 (4 + 1) 0)) 37 (2 + 1) 0)) 43 (6 + 1) 0)) 46 (10 + 1) 0)) 48 (0 + 1) 0)) 55 (9 + 1) 0)) 76 (7 + 1) 0)) 79 (1 + 1) 0))
abbrev r11 (R : RR) : RR := (upR (r1 (nwR (upR (r7 (nwR (upR (r9 (nwR (upR (r0 (nwR (upR (r10 (nwR (upR (r6 (nwR (upR (r2 (nwR (upR (r4 (nwR R 21)) 20 0 (some 21)) 37)) 20 1 (some 37)) 43)) 20 2 (some 43)) 46)) 20 3 (some 46)) 48)) 20 4 (some 48)) 55)) 20 5 (some 55)) 76)) 20 6 (some 76)) 79)) 20 7 (some 79))
abbrev i11 (g : GH) (I : II) : II := (i1 (nwI (i7 (nwI (i9 (nwI (i0 (nwI (i10 (nwI (i6 (nwI (i2 g (nwI (i4 (nwI I 21)) 37)) 43)) 46)) 48)) 55)) 76)) 79))
theorem x_init11 (hG : GvI g) (hd : 5 ≤ d) (h0 : (sh 20).1 = 11 + 1) (z21 : (sh 21).1 = 0) (z22 : (sh 22).1 = 0) (z23 : (sh 23).1 = 0) (z24 : (sh 24).1 = 0) (z25 : (sh 25).1 = 0) (z26 : (sh 26).1 = 0) (z27 : (sh 27).1 = 0) (z28 : (sh 28).1 = 0) (z29 : (sh 29).1 = 0) (z30 : (sh 30).1 = 0) (z31 : (sh 31).1 = 0) (z32 : (sh 32).1 = 0) (z33 : (sh 33).1 = 0) (z34 : (sh 34).1 = 0) (z35 : (sh 35).1 = 0) (z36 : (sh 36).1 = 0) (z37 : (sh 37).1 = 0) (z38 : (sh 38).1 = 0) (z39 : (sh 39).1 = 0) (z40 : (sh 40).1 = 0) (z41 : (sh 41).1 = 0) (z42 : (sh 42).1 = 0) (z300 : (sh 300).1 = 0) (z310 : (sh 310).1 = 0) (z320 : (sh 320).1 = 0) (z330 : (sh 330).1 = 0) (z43 : (sh 43).1 = 0) (z44 : (sh 44).1 = 0) (z45 : (sh 45).1 = 0) (z46 : (sh 46).1 = 0) (z47 : (sh 47).1 = 0) (z48 : (sh 48).1 = 0) (z49 : (sh 49).1 = 0) (z50 : (sh 50).1 = 0) (z51 : (sh 51).1 = 0) (z52 : (sh 52).1 = 0) (z53 : (sh 53).1 = 0) (z54 : (sh 54).1 = 0) (z55 : (sh 55).1 = 0) (z56 : (sh 56).1 = 0) (z57 : (sh 57).1 = 0) (z58 : (sh 58).1 = 0) (z59 : (sh 59).1 = 0) (z60 : (sh 60).1 = 0) (z61 : (sh 61).1 = 0) (z62 : (sh 62).1 = 0) (z63 : (sh 63).1 = 0) (z64 : (sh 64).1 = 0) (z65 : (sh 65).1 = 0) (z66 : (sh 66).1 = 0) (z67 : (sh 67).1 = 0) (z68 : (sh 68).1 = 0) (z69 : (sh 69).1 = 0) (z70 : (sh 70).1 = 0) (z71 : (sh 71).1 = 0) (z72 : (sh 72).1 = 0) (z73 : (sh 73).1 = 0) (z74 : (sh 74).1 = 0) (z75 : (sh 75).1 = 0) (z76 : (sh 76).1 = 0) (z77 : (sh 77).1 = 0) (z78 : (sh 78).1 = 0) (z79 : (sh 79).1 = 0) (z80 : (sh 80).1 = 0) (z81 : (sh 81).1 = 0) (z82 : (sh 82).1 = 0) (z83 : (sh 83).1 = 0) (z84 : (sh 84).1 = 0) : SP g d mX11_init 68 869 [vr 20] sh R I none (s11 sh) (r11 R) (i11 g I) := by
  intro Q h
  refine C_of rfl (Nat.le_of_ble_eq_true rfl) rfl ?_
  refine m_aload_n dX11_init_0 rfl ?_
  refine m_objInit dX11_init_1 lk_X11_1 (by omega) (Nat.le_of_ble_eq_true rfl) ?_
  refine m_aload_n dX11_init_4 rfl ?_
  refine m_new (c := 4) 21 dX11_init_5 (by decide) ⟨nw_X11_7, ia_X4, iw_X4⟩ z21 (by omega) (by omega) (show clN 4 ≤ _ by first | decide | assumption) ?_
  refine m_dup dX11_init_8 (fun _ z => by cases z) ?_
  refine m_Ivb [] dX11_init_9 lk_X11_9 rfl rfl (Nat.le_of_ble_eq_true rfl) (by omega) (by decide) (by decide) (x_init4 (by omega) rfl z22 z23 z24 z25 z26 z27 z28 z29 z30 z31 z32 z33 z34 z35 z36) ?_
  refine m_putrF (k := 0) dX11_init_12 fl_X11_10 h0 rfl rfl rfl rfl (Or.inl ⟨_, rfl⟩) ?_
  refine m_aload_n dX11_init_15 rfl ?_
  refine m_new (c := 2) 37 dX11_init_16 (by decide) ⟨nw_X11_16, ia_X2, iw_X2⟩ z37 (by omega) (by omega) (show clN 2 ≤ _ by first | decide | assumption) ?_
  refine m_dup dX11_init_19 (fun _ z => by cases z) ?_
  refine m_Jvb [] dX11_init_20 lk_X11_18 rfl rfl (Nat.le_of_ble_eq_true rfl) (by omega) (by decide) (by decide) (x_init2 hG (by omega) rfl z38 z39 z40 z41 z42 z300 z310 z320 z330) ?_
  refine m_putrF (k := 1) dX11_init_23 fl_X11_19 h0 rfl rfl rfl rfl (Or.inl ⟨_, rfl⟩) ?_
  refine m_aload_n dX11_init_26 rfl ?_
  refine m_new (c := 6) 43 dX11_init_27 (by decide) ⟨nw_X11_23, ia_X6, iw_X6⟩ z43 (by omega) (by omega) (show clN 6 ≤ _ by first | decide | assumption) ?_
  refine m_dup dX11_init_30 (fun _ z => by cases z) ?_
  refine m_aload_n dX11_init_31 rfl ?_
  refine m_gr (z := 0) dX11_init_32 fl_X11_10 h0 rfl rfl (show _ = some 21 from rfl) ?_
  refine m_aload_n dX11_init_35 rfl ?_
  refine m_gr (z := 1) dX11_init_36 fl_X11_19 h0 rfl rfl (show _ = some 37 from rfl) ?_
  refine m_Ivb [_, _] dX11_init_39 lk_X11_25 rfl rfl (Nat.le_of_ble_eq_true rfl) (by omega) (by decide) (by decide) (x_init6 (by omega) rfl z44 z45) ?_
  refine m_putrF (k := 2) dX11_init_42 fl_X11_28 h0 rfl rfl rfl rfl (Or.inl ⟨_, rfl⟩) ?_
  refine m_aload_n dX11_init_45 rfl ?_
  refine m_new (c := 10) 46 dX11_init_46 (by decide) ⟨nw_X11_32, ia_X10, iw_X10⟩ z46 (by omega) (by omega) (show clN 10 ≤ _ by first | decide | assumption) ?_
  refine m_dup dX11_init_49 (fun _ z => by cases z) ?_
  refine m_Jvb [] dX11_init_50 lk_X11_34 rfl rfl (Nat.le_of_ble_eq_true rfl) (by omega) (by decide) (by decide) (x_init10 (by omega) rfl z47) ?_
  refine m_putrF (k := 3) dX11_init_53 fl_X11_35 h0 rfl rfl rfl rfl (Or.inl ⟨_, rfl⟩) ?_
  refine m_aload_n dX11_init_56 rfl ?_
  refine m_new (c := 0) 48 dX11_init_57 (by decide) ⟨nw_X11_39, ia_X0, iw_X0⟩ z48 (by omega) (by omega) (show clN 0 ≤ _ by first | decide | assumption) ?_
  refine m_dup dX11_init_60 (fun _ z => by cases z) ?_
  refine m_Jvb [] dX11_init_61 lk_X11_41 rfl rfl (Nat.le_of_ble_eq_true rfl) (by omega) (by decide) (by decide) (x_init0 (by omega) rfl z49 z50 z51 z52 z53 z54) ?_
  refine m_putrF (k := 4) dX11_init_64 fl_X11_42 h0 rfl rfl rfl rfl (Or.inl ⟨_, rfl⟩) ?_
  refine m_aload_n dX11_init_67 rfl ?_
  refine m_new (c := 9) 55 dX11_init_68 (by decide) ⟨nw_X11_46, ia_X9, iw_X9⟩ z55 (by omega) (by omega) (show clN 9 ≤ _ by first | decide | assumption) ?_
  refine m_dup dX11_init_71 (fun _ z => by cases z) ?_
  refine m_Jvb [] dX11_init_72 lk_X11_48 rfl rfl (Nat.le_of_ble_eq_true rfl) (by omega) (by decide) (by decide) (x_init9 (by omega) rfl z56 z57 z58 z59 z60 z61 z62 z63 z64 z65 z66 z67 z68 z69 z70 z71 z72 z73 z74 z75) ?_
  refine m_putrF (k := 5) dX11_init_75 fl_X11_49 h0 rfl rfl rfl rfl (Or.inl ⟨_, rfl⟩) ?_
  refine m_aload_n dX11_init_78 rfl ?_
  refine m_new (c := 7) 76 dX11_init_79 (by decide) ⟨nw_X11_53, ia_X7, iw_X7⟩ z76 (by omega) (by omega) (show clN 7 ≤ _ by first | decide | assumption) ?_
  refine m_dup dX11_init_82 (fun _ z => by cases z) ?_
  refine m_Jvb [] dX11_init_83 lk_X11_55 rfl rfl (Nat.le_of_ble_eq_true rfl) (by omega) (by decide) (by decide) (x_init7 (by omega) rfl z77 z78) ?_
  refine m_putrF (k := 6) dX11_init_86 fl_X11_56 h0 rfl rfl rfl rfl (Or.inl ⟨_, rfl⟩) ?_
  refine m_aload_n dX11_init_89 rfl ?_
  refine m_new (c := 1) 79 dX11_init_90 (by decide) ⟨nw_X11_60, ia_X1, iw_X1⟩ z79 (by omega) (by omega) (show clN 1 ≤ _ by first | decide | assumption) ?_
  refine m_dup dX11_init_93 (fun _ z => by cases z) ?_
  refine m_Jvb [] dX11_init_94 lk_X11_62 rfl rfl (Nat.le_of_ble_eq_true rfl) (by omega) (by decide) (by decide) (x_init1 (by omega) rfl z80 z81 z82 z83 z84) ?_
  refine m_putrF (k := 7) dX11_init_97 fl_X11_63 h0 rfl rfl rfl rfl (Or.inl ⟨_, rfl⟩) ?_
  refine m_vret dX11_init_100 rfl ?_
  exact h
theorem x_i12_loop {M : II} {Q : QT} (h2 : sh 102 = (20, 8)) (h0 : (sh 100).1 = 12 + 1) (hr : R 100 2 = some 102) {bc bs : Nat} (hk : Q none sh R (cpI M 102 (fun _ => 1439) 8)) :
    ∀ (m : Nat) (i : Int), (8 - i).toNat < m → 0 ≤ i → i ≤ 8 → T g d mX12_init bc bs 447 [some (vr 100), some (vi i)] [] sh R (cpI M 102 (fun _ => 1439) i) Q := by
  intro m
  induction m with
  | zero => intro i hm; omega
  | succ m ih =>
    intro i hm i0 i1
    refine m_iload_n dX12_init_447 rfl ?_
    refine m_bipush dX12_init_448 rfl (by decide) ?_
    refine m_icmp_ge (tgt := 468) dX12_init_450 (by decide) (fun c450 => ?_) (fun c450 => ?_)
    · have ei : i = 8 := by omega
      subst ei
      exact m_vret dX12_init_468 rfl hk
    · refine m_aload_n dX12_init_453 rfl ?_
      refine m_gr (z := 2) dX12_init_454 fl_X12_13 h0 rfl rfl hr ?_
      refine m_iload_n dX12_init_457 rfl ?_
      refine m_sipush dX12_init_458 rfl (by decide) ?_
      refine m_iast dX12_init_461 h2 (by omega) (by omega) ?_
      refine m_iinc dX12_init_462 rfl (by decide) rfl rfl (by omega) ?_
      refine m_goto (tgt := 447) dX12_init_465 (by decide) ?_
      rw [cpI_up i0]
      exact ih (i + 1) (by omega) (by omega) (by omega)
abbrev i12a (I : II) : II := (nwI (nwI (nwI (nwI (nwI (upI (nwI (nwI (nwI (nwI (upI (upI (upI (upI (upI (upI (upI (upI (upI (upI (upI (upI (upI (upI (upI (upI (upI (upI (upI (upI (upI (upI (upI (upI (upI (upI (nwI (nwI (nwI (nwI (nwI (nwI (nwI (nwI (nwI (nwI (nwI (nwI (upI (nwI (nwI (nwI (nwI (nwI (upI (nwI (nwI (nwI (nwI (nwI (nwI (nwI (nwI I 101) 102) 103) 104) 105) 106) 107) 108) 100 12 (-9)) 109) 110) 111) 112) 113) 100 26 (5)) 114) 115) 116) 117) 118) 119) 120) 121) 122) 123) 124) 125) 125 0 5) 125 1 24) 125 2 26) 125 3 12) 125 4 2) 125 5 18) 125 6 14) 125 7 16) 125 8 4) 125 9 23) 125 10 13) 125 11 20) 125 12 7) 125 13 6) 125 14 15) 125 15 22) 125 16 29) 125 17 10) 125 18 8) 125 19 3) 125 20 9) 125 21 17) 125 22 11) 125 23 25) 125 24 27) 125 25 28) 126) 127) 128) 129) 100 46 (10)) 130) 131) 132) 133) 134)
abbrev s12 (sh : SH) : SH := (nwS (nwS (nwS (nwS (nwS (nwS (nwS (nwS (nwS (nwS (nwS (nwS (nwS (nwS (nwS (nwS (nwS (nwS (nwS (nwS (nwS (nwS (nwS (nwS (nwS (nwS (nwS (nwS (nwS (nwS (nwS (nwS (nwS (nwS sh 101 20 8) 102 20 8) 103 20 12) 104 20 12) 105 20 12) 106 21 12) 107 20 36) 108 20 18) 109 20 144) 110 20 144) 111 20 144) 112 20 8) 113 20 160) 114 20 30) 115 20 6) 116 20 180) 117 20 48) 118 20 16) 119 20 128) 120 20 8) 121 20 40) 122 20 40) 123 20 41) 124 20 41) 125 20 26) 126 20 8) 127 20 56) 128 20 56) 129 20 72) 130 20 6) 131 20 6) 132 20 6) 133 20 6) 134 20 6)
abbrev r12 (R : RR) : RR := (upR (nwR (upR (nwR (upR (nwR (upR (nwR (upR (nwR (upR (nwR (upR (nwR (upR (nwR (upR (nwR (upR (nwR (upR (nwR (upR (nwR (upR (nwR (upR (nwR (upR (nwR (upR (nwR (upR (nwR (upR (nwR (upR (nwR (upR (nwR (upR (nwR (upR (nwR (upR (nwR (upR (nwR (upR (nwR (upR (nwR (upR (nwR (upR (nwR (upR (nwR (upR (nwR (upR (nwR (upR (nwR (upR (nwR (upR (nwR R 101) 100 1 (some 101)) 102) 100 2 (some 102)) 103) 100 4 (some 103)) 104) 100 5 (some 104)) 105) 100 6 (some 105)) 106) 100 7 (some 106)) 107) 100 9 (some 107)) 108) 100 11 (some 108)) 109) 100 14 (some 109)) 110) 100 15 (some 110)) 111) 100 16 (some 111)) 112) 100 17 (some 112)) 113) 100 19 (some 113)) 114) 100 29 (some 114)) 115) 100 30 (some 115)) 116) 100 31 (some 116)) 117) 100 32 (some 117)) 118) 100 33 (some 118)) 119) 100 34 (some 119)) 120) 100 35 (some 120)) 121) 100 36 (some 121)) 122) 100 37 (some 122)) 123) 100 38 (some 123)) 124) 100 39 (some 124)) 125) 100 40 (some 125)) 126) 100 42 (some 126)) 127) 100 43 (some 127)) 128) 100 44 (some 128)) 129) 100 45 (some 129)) 130) 100 49 (some 130)) 131) 100 50 (some 131)) 132) 100 51 (some 132)) 133) 100 52 (some 133)) 134) 100 53 (some 134))
abbrev i12 (I : II) : II := (cpI (i12a I) 102 (fun _ => 1439) 8)
theorem x_init12 (hd : 1 ≤ d) (h0 : (sh 100).1 = 12 + 1) (z101 : (sh 101).1 = 0) (z102 : (sh 102).1 = 0) (z103 : (sh 103).1 = 0) (z104 : (sh 104).1 = 0) (z105 : (sh 105).1 = 0) (z106 : (sh 106).1 = 0) (z107 : (sh 107).1 = 0) (z108 : (sh 108).1 = 0) (z109 : (sh 109).1 = 0) (z110 : (sh 110).1 = 0) (z111 : (sh 111).1 = 0) (z112 : (sh 112).1 = 0) (z113 : (sh 113).1 = 0) (z114 : (sh 114).1 = 0) (z115 : (sh 115).1 = 0) (z116 : (sh 116).1 = 0) (z117 : (sh 117).1 = 0) (z118 : (sh 118).1 = 0) (z119 : (sh 119).1 = 0) (z120 : (sh 120).1 = 0) (z121 : (sh 121).1 = 0) (z122 : (sh 122).1 = 0) (z123 : (sh 123).1 = 0) (z124 : (sh 124).1 = 0) (z125 : (sh 125).1 = 0) (z126 : (sh 126).1 = 0) (z127 : (sh 127).1 = 0) (z128 : (sh 128).1 = 0) (z129 : (sh 129).1 = 0) (z130 : (sh 130).1 = 0) (z131 : (sh 131).1 = 0) (z132 : (sh 132).1 = 0) (z133 : (sh 133).1 = 0) (z134 : (sh 134).1 = 0) : SP g d mX12_init 34 1544 [vr 100] sh R I none (s12 sh) (r12 R) (i12 I) := by
  intro Q h
  refine C_of rfl (Nat.le_of_ble_eq_true rfl) rfl ?_
  refine m_aload_n dX12_init_0 rfl ?_
  refine m_objInit dX12_init_1 lk_X12_1 (by omega) (Nat.le_of_ble_eq_true rfl) ?_
  refine m_aload_n dX12_init_4 rfl ?_
  refine m_bipush dX12_init_5 rfl (by decide) ?_
  refine m_newa (k := 0) 101 dX12_init_7 rfl aw_int ⟨by decide, rfl, rfl, by decide⟩ (by omega) (by omega) z101 (by omega) (by omega) (by decide) ?_
  refine m_putrF (k := 1) dX12_init_9 fl_X12_7 h0 rfl rfl rfl rfl (Or.inr ⟨_, rfl⟩) ?_
  refine m_aload_n dX12_init_12 rfl ?_
  refine m_bipush dX12_init_13 rfl (by decide) ?_
  refine m_newa (k := 0) 102 dX12_init_15 rfl aw_int ⟨by decide, rfl, rfl, by decide⟩ (by omega) (by omega) z102 (by omega) (by omega) (by decide) ?_
  refine m_putrF (k := 2) dX12_init_17 fl_X12_13 h0 rfl rfl rfl rfl (Or.inr ⟨_, rfl⟩) ?_
  refine m_aload_n dX12_init_20 rfl ?_
  refine m_bipush dX12_init_21 rfl (by decide) ?_
  refine m_newa (k := 0) 103 dX12_init_23 rfl aw_int ⟨by decide, rfl, rfl, by decide⟩ (by omega) (by omega) z103 (by omega) (by omega) (by decide) ?_
  refine m_putrF (k := 4) dX12_init_25 fl_X12_16 h0 rfl rfl rfl rfl (Or.inr ⟨_, rfl⟩) ?_
  refine m_aload_n dX12_init_28 rfl ?_
  refine m_bipush dX12_init_29 rfl (by decide) ?_
  refine m_newa (k := 0) 104 dX12_init_31 rfl aw_int ⟨by decide, rfl, rfl, by decide⟩ (by omega) (by omega) z104 (by omega) (by omega) (by decide) ?_
  refine m_putrF (k := 5) dX12_init_33 fl_X12_19 h0 rfl rfl rfl rfl (Or.inr ⟨_, rfl⟩) ?_
  refine m_aload_n dX12_init_36 rfl ?_
  refine m_bipush dX12_init_37 rfl (by decide) ?_
  refine m_newa (k := 0) 105 dX12_init_39 rfl aw_int ⟨by decide, rfl, rfl, by decide⟩ (by omega) (by omega) z105 (by omega) (by omega) (by decide) ?_
  refine m_putrF (k := 6) dX12_init_41 fl_X12_22 h0 rfl rfl rfl rfl (Or.inr ⟨_, rfl⟩) ?_
  refine m_aload_n dX12_init_44 rfl ?_
  refine m_bipush dX12_init_45 rfl (by decide) ?_
  refine m_newa (k := 1) 106 dX12_init_47 rfl aw_boolean ⟨by decide, rfl, rfl, by decide⟩ (by omega) (by omega) z106 (by omega) (by omega) (by decide) ?_
  refine m_putrF (k := 7) dX12_init_49 fl_X12_25 h0 rfl rfl rfl rfl (Or.inr ⟨_, rfl⟩) ?_
  refine m_aload_n dX12_init_52 rfl ?_
  refine m_bipush dX12_init_53 rfl (by decide) ?_
  refine m_newa (k := 0) 107 dX12_init_55 rfl aw_int ⟨by decide, rfl, rfl, by decide⟩ (by omega) (by omega) z107 (by omega) (by omega) (by decide) ?_
  refine m_putrF (k := 9) dX12_init_57 fl_X12_29 h0 rfl rfl rfl rfl (Or.inr ⟨_, rfl⟩) ?_
  refine m_aload_n dX12_init_60 rfl ?_
  refine m_bipush dX12_init_61 rfl (by decide) ?_
  refine m_newa (k := 0) 108 dX12_init_63 rfl aw_int ⟨by decide, rfl, rfl, by decide⟩ (by omega) (by omega) z108 (by omega) (by omega) (by decide) ?_
  refine m_putrF (k := 11) dX12_init_65 fl_X12_32 h0 rfl rfl rfl rfl (Or.inr ⟨_, rfl⟩) ?_
  refine m_aload_n dX12_init_68 rfl ?_
  refine m_bipush dX12_init_69 rfl (by decide) ?_
  refine m_pi (z := 12) dX12_init_71 fl_X12_35 h0 rfl rfl rfl ?_
  refine m_aload_n dX12_init_74 rfl ?_
  refine m_sipush dX12_init_75 rfl (by decide) ?_
  refine m_newa (k := 0) 109 dX12_init_78 rfl aw_int ⟨by decide, rfl, rfl, by decide⟩ (by omega) (by omega) z109 (by omega) (by omega) (by decide) ?_
  refine m_putrF (k := 14) dX12_init_80 fl_X12_39 h0 rfl rfl rfl rfl (Or.inr ⟨_, rfl⟩) ?_
  refine m_aload_n dX12_init_83 rfl ?_
  refine m_sipush dX12_init_84 rfl (by decide) ?_
  refine m_newa (k := 0) 110 dX12_init_87 rfl aw_int ⟨by decide, rfl, rfl, by decide⟩ (by omega) (by omega) z110 (by omega) (by omega) (by decide) ?_
  refine m_putrF (k := 15) dX12_init_89 fl_X12_42 h0 rfl rfl rfl rfl (Or.inr ⟨_, rfl⟩) ?_
  refine m_aload_n dX12_init_92 rfl ?_
  refine m_sipush dX12_init_93 rfl (by decide) ?_
  refine m_newa (k := 0) 111 dX12_init_96 rfl aw_int ⟨by decide, rfl, rfl, by decide⟩ (by omega) (by omega) z111 (by omega) (by omega) (by decide) ?_
  refine m_putrF (k := 16) dX12_init_98 fl_X12_45 h0 rfl rfl rfl rfl (Or.inr ⟨_, rfl⟩) ?_
  refine m_aload_n dX12_init_101 rfl ?_
  refine m_bipush dX12_init_102 rfl (by decide) ?_
  refine m_newa (k := 0) 112 dX12_init_104 rfl aw_int ⟨by decide, rfl, rfl, by decide⟩ (by omega) (by omega) z112 (by omega) (by omega) (by decide) ?_
  refine m_putrF (k := 17) dX12_init_106 fl_X12_48 h0 rfl rfl rfl rfl (Or.inr ⟨_, rfl⟩) ?_
  refine m_aload_n dX12_init_109 rfl ?_
  refine m_sipush dX12_init_110 rfl (by decide) ?_
  refine m_newa (k := 0) 113 dX12_init_113 rfl aw_int ⟨by decide, rfl, rfl, by decide⟩ (by omega) (by omega) z113 (by omega) (by omega) (by decide) ?_
  refine m_putrF (k := 19) dX12_init_115 fl_X12_51 h0 rfl rfl rfl rfl (Or.inr ⟨_, rfl⟩) ?_
  refine m_aload_n dX12_init_118 rfl ?_
  refine m_iconst dX12_init_119 (by decide) ?_
  refine m_pi (z := 26) dX12_init_120 fl_X12_54 h0 rfl rfl rfl ?_
  refine m_aload_n dX12_init_123 rfl ?_
  refine m_bipush dX12_init_124 rfl (by decide) ?_
  refine m_newa (k := 0) 114 dX12_init_126 rfl aw_int ⟨by decide, rfl, rfl, by decide⟩ (by omega) (by omega) z114 (by omega) (by omega) (by decide) ?_
  refine m_putrF (k := 29) dX12_init_128 fl_X12_57 h0 rfl rfl rfl rfl (Or.inr ⟨_, rfl⟩) ?_
  refine m_aload_n dX12_init_131 rfl ?_
  refine m_bipush dX12_init_132 rfl (by decide) ?_
  refine m_newa (k := 0) 115 dX12_init_134 rfl aw_int ⟨by decide, rfl, rfl, by decide⟩ (by omega) (by omega) z115 (by omega) (by omega) (by decide) ?_
  refine m_putrF (k := 30) dX12_init_136 fl_X12_60 h0 rfl rfl rfl rfl (Or.inr ⟨_, rfl⟩) ?_
  refine m_aload_n dX12_init_139 rfl ?_
  refine m_sipush dX12_init_140 rfl (by decide) ?_
  refine m_newa (k := 0) 116 dX12_init_143 rfl aw_int ⟨by decide, rfl, rfl, by decide⟩ (by omega) (by omega) z116 (by omega) (by omega) (by decide) ?_
  refine m_putrF (k := 31) dX12_init_145 fl_X12_63 h0 rfl rfl rfl rfl (Or.inr ⟨_, rfl⟩) ?_
  refine m_aload_n dX12_init_148 rfl ?_
  refine m_bipush dX12_init_149 rfl (by decide) ?_
  refine m_newa (k := 0) 117 dX12_init_151 rfl aw_int ⟨by decide, rfl, rfl, by decide⟩ (by omega) (by omega) z117 (by omega) (by omega) (by decide) ?_
  refine m_putrF (k := 32) dX12_init_153 fl_X12_66 h0 rfl rfl rfl rfl (Or.inr ⟨_, rfl⟩) ?_
  refine m_aload_n dX12_init_156 rfl ?_
  refine m_bipush dX12_init_157 rfl (by decide) ?_
  refine m_newa (k := 0) 118 dX12_init_159 rfl aw_int ⟨by decide, rfl, rfl, by decide⟩ (by omega) (by omega) z118 (by omega) (by omega) (by decide) ?_
  refine m_putrF (k := 33) dX12_init_161 fl_X12_69 h0 rfl rfl rfl rfl (Or.inr ⟨_, rfl⟩) ?_
  refine m_aload_n dX12_init_164 rfl ?_
  refine m_sipush dX12_init_165 rfl (by decide) ?_
  refine m_newa (k := 0) 119 dX12_init_168 rfl aw_int ⟨by decide, rfl, rfl, by decide⟩ (by omega) (by omega) z119 (by omega) (by omega) (by decide) ?_
  refine m_putrF (k := 34) dX12_init_170 fl_X12_72 h0 rfl rfl rfl rfl (Or.inr ⟨_, rfl⟩) ?_
  refine m_aload_n dX12_init_173 rfl ?_
  refine m_bipush dX12_init_174 rfl (by decide) ?_
  refine m_newa (k := 0) 120 dX12_init_176 rfl aw_int ⟨by decide, rfl, rfl, by decide⟩ (by omega) (by omega) z120 (by omega) (by omega) (by decide) ?_
  refine m_putrF (k := 35) dX12_init_178 fl_X12_75 h0 rfl rfl rfl rfl (Or.inr ⟨_, rfl⟩) ?_
  refine m_aload_n dX12_init_181 rfl ?_
  refine m_bipush dX12_init_182 rfl (by decide) ?_
  refine m_newa (k := 0) 121 dX12_init_184 rfl aw_int ⟨by decide, rfl, rfl, by decide⟩ (by omega) (by omega) z121 (by omega) (by omega) (by decide) ?_
  refine m_putrF (k := 36) dX12_init_186 fl_X12_78 h0 rfl rfl rfl rfl (Or.inr ⟨_, rfl⟩) ?_
  refine m_aload_n dX12_init_189 rfl ?_
  refine m_bipush dX12_init_190 rfl (by decide) ?_
  refine m_newa (k := 0) 122 dX12_init_192 rfl aw_int ⟨by decide, rfl, rfl, by decide⟩ (by omega) (by omega) z122 (by omega) (by omega) (by decide) ?_
  refine m_putrF (k := 37) dX12_init_194 fl_X12_81 h0 rfl rfl rfl rfl (Or.inr ⟨_, rfl⟩) ?_
  refine m_aload_n dX12_init_197 rfl ?_
  refine m_bipush dX12_init_198 rfl (by decide) ?_
  refine m_newa (k := 0) 123 dX12_init_200 rfl aw_int ⟨by decide, rfl, rfl, by decide⟩ (by omega) (by omega) z123 (by omega) (by omega) (by decide) ?_
  refine m_putrF (k := 38) dX12_init_202 fl_X12_84 h0 rfl rfl rfl rfl (Or.inr ⟨_, rfl⟩) ?_
  refine m_aload_n dX12_init_205 rfl ?_
  refine m_bipush dX12_init_206 rfl (by decide) ?_
  refine m_newa (k := 0) 124 dX12_init_208 rfl aw_int ⟨by decide, rfl, rfl, by decide⟩ (by omega) (by omega) z124 (by omega) (by omega) (by decide) ?_
  refine m_putrF (k := 39) dX12_init_210 fl_X12_87 h0 rfl rfl rfl rfl (Or.inr ⟨_, rfl⟩) ?_
  refine m_aload_n dX12_init_213 rfl ?_
  refine m_bipush dX12_init_214 rfl (by decide) ?_
  refine m_newa (k := 0) 125 dX12_init_216 rfl aw_int ⟨by decide, rfl, rfl, by decide⟩ (by omega) (by omega) z125 (by omega) (by omega) (by decide) ?_
  refine m_dup dX12_init_218 (fun _ z => by cases z) ?_
  refine m_iconst dX12_init_219 (by decide) ?_
  refine m_iconst dX12_init_220 (by decide) ?_
  refine m_iast dX12_init_221 (show _ = (20, 26) from rfl) (by omega) (by omega) ?_
  refine m_dup dX12_init_222 (fun _ z => by cases z) ?_
  refine m_iconst dX12_init_223 (by decide) ?_
  refine m_bipush dX12_init_224 rfl (by decide) ?_
  refine m_iast dX12_init_226 (show _ = (20, 26) from rfl) (by omega) (by omega) ?_
  refine m_dup dX12_init_227 (fun _ z => by cases z) ?_
  refine m_iconst dX12_init_228 (by decide) ?_
  refine m_bipush dX12_init_229 rfl (by decide) ?_
  refine m_iast dX12_init_231 (show _ = (20, 26) from rfl) (by omega) (by omega) ?_
  refine m_dup dX12_init_232 (fun _ z => by cases z) ?_
  refine m_iconst dX12_init_233 (by decide) ?_
  refine m_bipush dX12_init_234 rfl (by decide) ?_
  refine m_iast dX12_init_236 (show _ = (20, 26) from rfl) (by omega) (by omega) ?_
  refine m_dup dX12_init_237 (fun _ z => by cases z) ?_
  refine m_iconst dX12_init_238 (by decide) ?_
  refine m_iconst dX12_init_239 (by decide) ?_
  refine m_iast dX12_init_240 (show _ = (20, 26) from rfl) (by omega) (by omega) ?_
  refine m_dup dX12_init_241 (fun _ z => by cases z) ?_
  refine m_iconst dX12_init_242 (by decide) ?_
  refine m_bipush dX12_init_243 rfl (by decide) ?_
  refine m_iast dX12_init_245 (show _ = (20, 26) from rfl) (by omega) (by omega) ?_
  refine m_dup dX12_init_246 (fun _ z => by cases z) ?_
  refine m_bipush dX12_init_247 rfl (by decide) ?_
  refine m_bipush dX12_init_249 rfl (by decide) ?_
  refine m_iast dX12_init_251 (show _ = (20, 26) from rfl) (by omega) (by omega) ?_
  refine m_dup dX12_init_252 (fun _ z => by cases z) ?_
  refine m_bipush dX12_init_253 rfl (by decide) ?_
  refine m_bipush dX12_init_255 rfl (by decide) ?_
  refine m_iast dX12_init_257 (show _ = (20, 26) from rfl) (by omega) (by omega) ?_
  refine m_dup dX12_init_258 (fun _ z => by cases z) ?_
  refine m_bipush dX12_init_259 rfl (by decide) ?_
  refine m_iconst dX12_init_261 (by decide) ?_
  refine m_iast dX12_init_262 (show _ = (20, 26) from rfl) (by omega) (by omega) ?_
  refine m_dup dX12_init_263 (fun _ z => by cases z) ?_
  refine m_bipush dX12_init_264 rfl (by decide) ?_
  refine m_bipush dX12_init_266 rfl (by decide) ?_
  refine m_iast dX12_init_268 (show _ = (20, 26) from rfl) (by omega) (by omega) ?_
  refine m_dup dX12_init_269 (fun _ z => by cases z) ?_
  refine m_bipush dX12_init_270 rfl (by decide) ?_
  refine m_bipush dX12_init_272 rfl (by decide) ?_
  refine m_iast dX12_init_274 (show _ = (20, 26) from rfl) (by omega) (by omega) ?_
  refine m_dup dX12_init_275 (fun _ z => by cases z) ?_
  refine m_bipush dX12_init_276 rfl (by decide) ?_
  refine m_bipush dX12_init_278 rfl (by decide) ?_
  refine m_iast dX12_init_280 (show _ = (20, 26) from rfl) (by omega) (by omega) ?_
  refine m_dup dX12_init_281 (fun _ z => by cases z) ?_
  refine m_bipush dX12_init_282 rfl (by decide) ?_
  refine m_bipush dX12_init_284 rfl (by decide) ?_
  refine m_iast dX12_init_286 (show _ = (20, 26) from rfl) (by omega) (by omega) ?_
  refine m_dup dX12_init_287 (fun _ z => by cases z) ?_
  refine m_bipush dX12_init_288 rfl (by decide) ?_
  refine m_bipush dX12_init_290 rfl (by decide) ?_
  refine m_iast dX12_init_292 (show _ = (20, 26) from rfl) (by omega) (by omega) ?_
  refine m_dup dX12_init_293 (fun _ z => by cases z) ?_
  refine m_bipush dX12_init_294 rfl (by decide) ?_
  refine m_bipush dX12_init_296 rfl (by decide) ?_
  refine m_iast dX12_init_298 (show _ = (20, 26) from rfl) (by omega) (by omega) ?_
  refine m_dup dX12_init_299 (fun _ z => by cases z) ?_
  refine m_bipush dX12_init_300 rfl (by decide) ?_
  refine m_bipush dX12_init_302 rfl (by decide) ?_
  refine m_iast dX12_init_304 (show _ = (20, 26) from rfl) (by omega) (by omega) ?_
  refine m_dup dX12_init_305 (fun _ z => by cases z) ?_
  refine m_bipush dX12_init_306 rfl (by decide) ?_
  refine m_bipush dX12_init_308 rfl (by decide) ?_
  refine m_iast dX12_init_310 (show _ = (20, 26) from rfl) (by omega) (by omega) ?_
  refine m_dup dX12_init_311 (fun _ z => by cases z) ?_
  refine m_bipush dX12_init_312 rfl (by decide) ?_
  refine m_bipush dX12_init_314 rfl (by decide) ?_
  refine m_iast dX12_init_316 (show _ = (20, 26) from rfl) (by omega) (by omega) ?_
  refine m_dup dX12_init_317 (fun _ z => by cases z) ?_
  refine m_bipush dX12_init_318 rfl (by decide) ?_
  refine m_bipush dX12_init_320 rfl (by decide) ?_
  refine m_iast dX12_init_322 (show _ = (20, 26) from rfl) (by omega) (by omega) ?_
  refine m_dup dX12_init_323 (fun _ z => by cases z) ?_
  refine m_bipush dX12_init_324 rfl (by decide) ?_
  refine m_iconst dX12_init_326 (by decide) ?_
  refine m_iast dX12_init_327 (show _ = (20, 26) from rfl) (by omega) (by omega) ?_
  refine m_dup dX12_init_328 (fun _ z => by cases z) ?_
  refine m_bipush dX12_init_329 rfl (by decide) ?_
  refine m_bipush dX12_init_331 rfl (by decide) ?_
  refine m_iast dX12_init_333 (show _ = (20, 26) from rfl) (by omega) (by omega) ?_
  refine m_dup dX12_init_334 (fun _ z => by cases z) ?_
  refine m_bipush dX12_init_335 rfl (by decide) ?_
  refine m_bipush dX12_init_337 rfl (by decide) ?_
  refine m_iast dX12_init_339 (show _ = (20, 26) from rfl) (by omega) (by omega) ?_
  refine m_dup dX12_init_340 (fun _ z => by cases z) ?_
  refine m_bipush dX12_init_341 rfl (by decide) ?_
  refine m_bipush dX12_init_343 rfl (by decide) ?_
  refine m_iast dX12_init_345 (show _ = (20, 26) from rfl) (by omega) (by omega) ?_
  refine m_dup dX12_init_346 (fun _ z => by cases z) ?_
  refine m_bipush dX12_init_347 rfl (by decide) ?_
  refine m_bipush dX12_init_349 rfl (by decide) ?_
  refine m_iast dX12_init_351 (show _ = (20, 26) from rfl) (by omega) (by omega) ?_
  refine m_dup dX12_init_352 (fun _ z => by cases z) ?_
  refine m_bipush dX12_init_353 rfl (by decide) ?_
  refine m_bipush dX12_init_355 rfl (by decide) ?_
  refine m_iast dX12_init_357 (show _ = (20, 26) from rfl) (by omega) (by omega) ?_
  refine m_dup dX12_init_358 (fun _ z => by cases z) ?_
  refine m_bipush dX12_init_359 rfl (by decide) ?_
  refine m_bipush dX12_init_361 rfl (by decide) ?_
  refine m_iast dX12_init_363 (show _ = (20, 26) from rfl) (by omega) (by omega) ?_
  refine m_putrF (k := 40) dX12_init_364 fl_X12_90 h0 rfl rfl rfl rfl (Or.inr ⟨_, rfl⟩) ?_
  refine m_aload_n dX12_init_367 rfl ?_
  refine m_bipush dX12_init_368 rfl (by decide) ?_
  refine m_newa (k := 0) 126 dX12_init_370 rfl aw_int ⟨by decide, rfl, rfl, by decide⟩ (by omega) (by omega) z126 (by omega) (by omega) (by decide) ?_
  refine m_putrF (k := 42) dX12_init_372 fl_X12_93 h0 rfl rfl rfl rfl (Or.inr ⟨_, rfl⟩) ?_
  refine m_aload_n dX12_init_375 rfl ?_
  refine m_bipush dX12_init_376 rfl (by decide) ?_
  refine m_newa (k := 0) 127 dX12_init_378 rfl aw_int ⟨by decide, rfl, rfl, by decide⟩ (by omega) (by omega) z127 (by omega) (by omega) (by decide) ?_
  refine m_putrF (k := 43) dX12_init_380 fl_X12_96 h0 rfl rfl rfl rfl (Or.inr ⟨_, rfl⟩) ?_
  refine m_aload_n dX12_init_383 rfl ?_
  refine m_bipush dX12_init_384 rfl (by decide) ?_
  refine m_newa (k := 0) 128 dX12_init_386 rfl aw_int ⟨by decide, rfl, rfl, by decide⟩ (by omega) (by omega) z128 (by omega) (by omega) (by decide) ?_
  refine m_putrF (k := 44) dX12_init_388 fl_X12_99 h0 rfl rfl rfl rfl (Or.inr ⟨_, rfl⟩) ?_
  refine m_aload_n dX12_init_391 rfl ?_
  refine m_bipush dX12_init_392 rfl (by decide) ?_
  refine m_newa (k := 0) 129 dX12_init_394 rfl aw_int ⟨by decide, rfl, rfl, by decide⟩ (by omega) (by omega) z129 (by omega) (by omega) (by decide) ?_
  refine m_putrF (k := 45) dX12_init_396 fl_X12_102 h0 rfl rfl rfl rfl (Or.inr ⟨_, rfl⟩) ?_
  refine m_aload_n dX12_init_399 rfl ?_
  refine m_bipush dX12_init_400 rfl (by decide) ?_
  refine m_pi (z := 46) dX12_init_402 fl_X12_105 h0 rfl rfl rfl ?_
  refine m_aload_n dX12_init_405 rfl ?_
  refine m_bipush dX12_init_406 rfl (by decide) ?_
  refine m_newa (k := 0) 130 dX12_init_408 rfl aw_int ⟨by decide, rfl, rfl, by decide⟩ (by omega) (by omega) z130 (by omega) (by omega) (by decide) ?_
  refine m_putrF (k := 49) dX12_init_410 fl_X12_108 h0 rfl rfl rfl rfl (Or.inr ⟨_, rfl⟩) ?_
  refine m_aload_n dX12_init_413 rfl ?_
  refine m_bipush dX12_init_414 rfl (by decide) ?_
  refine m_newa (k := 0) 131 dX12_init_416 rfl aw_int ⟨by decide, rfl, rfl, by decide⟩ (by omega) (by omega) z131 (by omega) (by omega) (by decide) ?_
  refine m_putrF (k := 50) dX12_init_418 fl_X12_111 h0 rfl rfl rfl rfl (Or.inr ⟨_, rfl⟩) ?_
  refine m_aload_n dX12_init_421 rfl ?_
  refine m_bipush dX12_init_422 rfl (by decide) ?_
  refine m_newa (k := 0) 132 dX12_init_424 rfl aw_int ⟨by decide, rfl, rfl, by decide⟩ (by omega) (by omega) z132 (by omega) (by omega) (by decide) ?_
  refine m_putrF (k := 51) dX12_init_426 fl_X12_114 h0 rfl rfl rfl rfl (Or.inr ⟨_, rfl⟩) ?_
  refine m_aload_n dX12_init_429 rfl ?_
  refine m_bipush dX12_init_430 rfl (by decide) ?_
  refine m_newa (k := 0) 133 dX12_init_432 rfl aw_int ⟨by decide, rfl, rfl, by decide⟩ (by omega) (by omega) z133 (by omega) (by omega) (by decide) ?_
  refine m_putrF (k := 52) dX12_init_434 fl_X12_117 h0 rfl rfl rfl rfl (Or.inr ⟨_, rfl⟩) ?_
  refine m_aload_n dX12_init_437 rfl ?_
  refine m_bipush dX12_init_438 rfl (by decide) ?_
  refine m_newa (k := 0) 134 dX12_init_440 rfl aw_int ⟨by decide, rfl, rfl, by decide⟩ (by omega) (by omega) z134 (by omega) (by omega) (by decide) ?_
  refine m_putrF (k := 53) dX12_init_442 fl_X12_120 h0 rfl rfl rfl rfl (Or.inr ⟨_, rfl⟩) ?_
  refine m_iconst dX12_init_445 (by decide) ?_
  refine m_istore_n dX12_init_446 (by decide) rfl rfl ?_
  have z := x_i12_loop (g := g) (d := d) (sh := s12 sh) (R := r12 R) (M := i12a I) (Q := Q) (bc := 0) (bs := 0) rfl h0 rfl h 9 0 (by decide) (by decide) (by decide)
  rw [cpI_0] at z
  exact z
end
