/-! CLASS: handIn, message -/
section
variable {g : GH} {d nm no : Nat} {I : II}
noncomputable abbrev prX (I : II) (no : Nat) (fr t wo kd : Int) : Int := max (wo * I (orw (goX I no fr t) 1) kd) (I (goX I no fr t) 4)
def HIP (nm no : Nat) (fr to wo kd : Int) (I J : II) : Prop := (∀ x, x ≠ 43 → x ≠ 200 + nm → x ≠ 230 + nm → J x = I x) ∧ (∀ j : Int, j ≠ 4 → J 43 j = I 43 j) ∧ J 43 4 = (nm : Int) + 1 ∧ (J (200 + nm) 0 = to ∧ J (200 + nm) 1 = wo ∧ J (200 + nm) 2 = kd ∧ J (200 + nm) 3 = prX I no fr (I 43 5) wo kd ∧ J (200 + nm) 4 = I 43 5) ∧ vX J nm = mk6 0 fr (-1) (-1) (-1) 0 ∧ J (200 + nm) 12 = -1
theorem fr_msg {nm no : Nat} (hm : nm < 24) : (shX nm no (200 + nm)).1 = 0 ∧ (shX nm no (230 + nm)).1 = 0 := by
  unfold shX
  refine ⟨?_, ?_⟩ <;> rw [if_neg (by omega), if_neg (by omega), if_neg (by omega), if_neg (by omega), if_neg (by omega), if_neg (by omega), if_neg (by omega), if_neg (by omega)]
theorem gbF_mo {I J : II} {no : Nat} {o t : Int} (e : ∀ x, 300 ≤ x → J x = I x) : gbF J o t no = gbF I o t no := gbF_eq e o t no
theorem x_hi_43 {M : II} {fr to wo kd : Int} {bc bs : Nat} {Q : QT} (hd : 4 ≤ d) (hm : nm < 24) (hL : LawI I no) (h3 : I 43 4 = nm) (hf : 0 ≤ fr ∧ fr < 8) (hw : 1 ≤ wo ∧ wo ≤ 99) (hk : 0 ≤ kd ∧ kd < 5) (hb1 : 1 ≤ bc) (hb2 : clN 3 ≤ bs)
    (mo : ∀ x, x ≠ 200 + nm → M x = I x) (m0 : M (200 + nm) 0 = to) (m1 : M (200 + nm) 1 = wo) (m2 : M (200 + nm) 2 = kd) (m4 : M (200 + nm) 4 = I 43 5) (mv : vX M nm = mk6 0 fr (-1) (-1) (-1) 0) (m12 : M (200 + nm) 12 = -1)
    (h : ∀ J, HIP nm no fr to wo kd I J → Q (some (vi nm)) (shX (nm + 1) no) (RX (nm + 1) no) J) : T g d mX6_handIn bc bs 43 [some (vr 43), some (vi fr), some (vi to), some (vi wo), some (vi kd), some (vr (200 + nm))] [] (nwS (shX nm no) (200 + nm) (3 + 1) 0) (nwR (RX nm no) (200 + nm)) M Q := by
  have hno := hL.2.1
  have hlw := lwA_hand (nm := nm) (no := no) hm hno
  have e43 : M 43 = I 43 := mo 43 (by omega)
  have e37 : M 37 3 = no := by rw [mo 37 (by omega)]; exact hL.1
  have hO := ordAt_go hlw (gbF M fr (I 43 5) no)
  have eg : goX M no fr (I 43 5) = goX I no fr (I 43 5) := by unfold goX; rw [gbF_mo (fun x hx => mo x (by omega))]
  have oi := oid_ge no (gbF M fr (I 43 5) no)
  have hr := orw_ge (goX M no fr (I 43 5)) 1 oi (by decide)
  have er : M (orw (goX M no fr (I 43 5)) 1) = I (orw (goX M no fr (I 43 5)) 1) := mo _ (by omega)
  have eq : M (goX M no fr (I 43 5)) = I (goX M no fr (I 43 5)) := mo _ (by have z : goX M no fr (I 43 5) = 38 ∨ 300 ≤ goX M no fr (I 43 5) := oi; omega)
  have hI := hL.2.2 (gbF M fr (I 43 5) no)
  have hp : 0 ≤ M (orw (goX M no fr (I 43 5)) 1) kd ∧ M (orw (goX M no fr (I 43 5)) 1) kd ≤ 99 := by
    rw [er]; exact (hI.2.2.2.2.2 kd hk.1 hk.2).2
  obtain ⟨fr0, fr1⟩ := fr_msg (nm := nm) (no := no) hm
  refine m_aload dX6_handIn_43 rfl ?_
  refine m_aload_n dX6_handIn_45 rfl ?_
  refine m_gr (z := 1) dX6_handIn_46 fl_X6_24 (by first | (rw [nwS_o (by omega)]; rfl) | (rw [nwS_o (by omega), nwS_o (by omega)]; rfl)) rfl rfl (show _ = some 37 by first | (rw [nwR_o (by omega)]; rfl) | (rw [upR_o (by decide), nwR_o (by omega)]; rfl)) ?_
  refine m_iload_n dX6_handIn_49 rfl ?_
  refine m_aload_n dX6_handIn_50 rfl ?_
  refine m_gi (z := 5) dX6_handIn_51 fl_X6_39 (by first | (rw [nwS_o (by omega)]; rfl) | (rw [nwS_o (by omega), nwS_o (by omega)]; rfl)) rfl rfl ?_
  rw [e43]
  refine m_Vr [_, _] dX6_handIn_54 lk_X6_48 rfl (by first | (rw [nwS_o (by omega)]; rfl) | (rw [nwS_o (by omega), nwS_o (by omega)]; rfl)) rfl (Nat.le_of_ble_eq_true rfl) (by omega) (g_goneBy (no := no) (by omega) hlw e37 hf.1 hf.2) ?_
  refine m_iload_n dX6_handIn_57 rfl ?_
  refine m_iload dX6_handIn_58 rfl ?_
  refine m_Vi [_, _] dX6_handIn_60 lk_X6_54 rfl hO.1 rfl (Nat.le_of_ble_eq_true rfl) (by omega) (x_price (by omega) hO hk.1 hk.2 ⟨by omega, hw.2⟩ hp) ?_
  refine m_pi (z := 3) dX6_handIn_63 fl_X6_60 (by rw [nwS_s]) rfl rfl rfl ?_
  have epr : max (wo * M (orw (goX M no fr (I 43 5)) 1) kd) (M (goX M no fr (I 43 5)) 4) = prX I no fr (I 43 5) wo kd := by rw [er, eq, eg]
  rw [epr]
  refine m_aload_n dX6_handIn_66 rfl ?_
  refine m_gr (z := 2) dX6_handIn_67 fl_X6_11 (by first | (rw [nwS_o (by omega)]; rfl) | (rw [nwS_o (by omega), nwS_o (by omega)]; rfl)) rfl rfl (show _ = some 44 by first | (rw [nwR_o (by omega)]; rfl) | (rw [upR_o (by decide), nwR_o (by omega)]; rfl)) ?_
  refine m_aload_n dX6_handIn_70 rfl ?_
  refine m_gi (z := 4) dX6_handIn_71 fl_X6_62 (by first | (rw [nwS_o (by omega)]; rfl) | (rw [nwS_o (by omega), nwS_o (by omega)]; rfl)) rfl rfl ?_
  rw [upI_o (show (43 : Nat) ≠ (200 + nm) by omega)]
  rw [e43, h3]
  refine m_aload dX6_handIn_74 rfl ?_
  refine m_aast dX6_handIn_76 (show _ = (25, 24) by rw [nwS_o (by omega)]; rfl) (Or.inl ⟨rfl, rfl⟩) (by rw [nwS_s]) (by omega) (by omega) ?_
  refine m_aload_n dX6_handIn_77 rfl ?_
  refine m_gr (z := 3) dX6_handIn_78 fl_X6_17 (by first | (rw [nwS_o (by omega)]; rfl) | (rw [nwS_o (by omega), nwS_o (by omega)]; rfl)) rfl rfl (show _ = some 45 by first | (rw [nwR_o (by omega)]; rfl) | (rw [upR_o (by decide), nwR_o (by omega)]; rfl)) ?_
  refine m_aload_n dX6_handIn_81 rfl ?_
  refine m_gi (z := 4) dX6_handIn_82 fl_X6_62 (by first | (rw [nwS_o (by omega)]; rfl) | (rw [nwS_o (by omega), nwS_o (by omega)]; rfl)) rfl rfl ?_
  rw [upI_o (show (43 : Nat) ≠ (200 + nm) by omega)]
  rw [e43, h3]
  refine m_new (c := 3) (230 + nm) dX6_handIn_85 (by decide) ⟨nw_X6_9, ia_X3, iw_X3⟩ (by rw [nwS_o (by omega)]; exact fr1) (by omega) (by omega) (show clN 3 ≤ _ by first | decide | assumption) ?_
  refine m_dup dX6_handIn_88 (fun _ z => by cases z) ?_
  refine m_Jv [] dX6_handIn_89 lk_X6_28 rfl rfl (Nat.le_of_ble_eq_true rfl) (by omega) (x_init3 (by omega) (by rw [nwS_s])) ?_
  refine m_aast dX6_handIn_92 (show _ = (25, 24) by rw [nwS_o (by omega), nwS_o (by omega)]; rfl) (Or.inl ⟨rfl, rfl⟩) (by rw [nwS_s]) (by omega) (by omega) ?_
  rw [shX_hand hm, RX_hand hm]
  have k43 : nMi (nwI (upI M (200 + nm) 3 (prX I no fr (I 43 5) wo kd)) (230 + nm)) (230 + nm) 43 = I 43 := by rw [nMi_o (by omega), nwI_o (by omega), upI_o (by omega), e43]
  have k2 : ∀ j : Int, nMi (nwI (upI M (200 + nm) 3 (prX I no fr (I 43 5) wo kd)) (230 + nm)) (230 + nm) (200 + nm) j = upI M (200 + nm) 3 (prX I no fr (I 43 5) wo kd) (200 + nm) j := fun j => by rw [nMi_o (by omega), nwI_o (by omega)]
  refine m_aload_n dX6_handIn_93 rfl ?_
  refine m_dup dX6_handIn_94 (fun _ z => by cases z) ?_
  refine m_gi (z := 4) dX6_handIn_95 fl_X6_62 oX_43 rfl rfl ?_
  rw [k43, h3]
  refine m_iconst dX6_handIn_98 (by decide) ?_
  refine m_iadd dX6_handIn_99 (by omega) ?_
  refine m_pi (z := 4) dX6_handIn_100 fl_X6_62 oX_43 rfl rfl rfl ?_
  refine m_aload_n dX6_handIn_103 rfl ?_
  refine m_gi (z := 4) dX6_handIn_104 fl_X6_62 oX_43 rfl rfl ?_
  rw [upI_s]
  refine m_iconst dX6_handIn_107 (by decide) ?_
  refine m_isub dX6_handIn_108 (by omega) ?_
  refine m_iret dX6_handIn_109 rfl ?_
  rw [show (nm : Int) + 1 - 1 = nm by omega]
  refine h _ ⟨fun x x1 x2 x3 => ?_, fun j hj => ?_, upI_s, ⟨?_, ?_, ?_, ?_, ?_⟩, ?_, ?_⟩
  · rw [upI_o x1, nMi_o x3, nwI_o x3, upI_o x2]; exact mo x x2
  · rw [upI_j hj, k43]
  · rw [upI_o (by omega), k2, upI_j (by decide)]; exact m0
  · rw [upI_o (by omega), k2, upI_j (by decide)]; exact m1
  · rw [upI_o (by omega), k2, upI_j (by decide)]; exact m2
  · rw [upI_o (by omega), k2, upI_s]
  · rw [upI_o (by omega), k2, upI_j (by decide)]; exact m4
  · rw [← mv]
    unfold vX
    rw [upI_o (show 200 + nm ≠ 43 by omega), k2, k2, k2, k2, k2, k2, upI_j (by decide), upI_j (by decide), upI_j (by decide), upI_j (by decide), upI_j (by decide), upI_j (by decide)]
  · rw [upI_o (by omega), k2, upI_j (by decide)]; exact m12
theorem x_handIn {fr to wo kd : Int} (hd : 4 ≤ d) (hm : nm < 24) (hL : LawI I no) (h3 : I 43 4 = nm) (hf : 0 ≤ fr ∧ fr < 8) (hw : 1 ≤ wo ∧ wo ≤ 99) (hk : 0 ≤ kd ∧ kd < 5) : ∀ Q : QT, (∀ J, HIP nm no fr to wo kd I J → Q (some (vi nm)) (shX (nm + 1) no) (RX (nm + 1) no) J) → C g d mX6_handIn 2 30 [vr 43, vi fr, vi to, vi wo, vi kd] (shX nm no) (RX nm no) I Q := by
  intro Q h
  refine C_of rfl (Nat.le_of_ble_eq_true rfl) rfl ?_
  refine m_new (c := 3) (200 + nm) dX6_handIn_0 (by decide) ⟨nw_X6_9, ia_X3, iw_X3⟩ (fr_msg hm).1 (by omega) (by omega) (show clN 3 ≤ _ by first | decide | assumption) ?_
  refine m_dup dX6_handIn_3 (fun _ z => by cases z) ?_
  refine m_Jv [] dX6_handIn_4 lk_X6_28 rfl rfl (Nat.le_of_ble_eq_true rfl) (by omega) (x_init3 (by omega) (by rw [nwS_s])) ?_
  refine m_astore dX6_handIn_7 (by decide) rfl rfl ?_
  refine m_aload dX6_handIn_9 rfl ?_
  refine m_iload_n dX6_handIn_11 rfl ?_
  refine m_pi (z := 0) dX6_handIn_12 fl_X6_29 (by rw [nwS_s]) rfl rfl rfl ?_
  refine m_aload dX6_handIn_15 rfl ?_
  refine m_iload_n dX6_handIn_17 rfl ?_
  refine m_pi (z := 1) dX6_handIn_18 fl_X6_33 (by rw [nwS_s]) rfl rfl rfl ?_
  refine m_aload dX6_handIn_21 rfl ?_
  refine m_iload dX6_handIn_23 rfl ?_
  refine m_pi (z := 2) dX6_handIn_25 fl_X6_36 (by rw [nwS_s]) rfl rfl rfl ?_
  refine m_aload dX6_handIn_28 rfl ?_
  refine m_aload_n dX6_handIn_30 rfl ?_
  refine m_gi (z := 5) dX6_handIn_31 fl_X6_39 (by first | (rw [nwS_o (by omega)]; rfl) | (rw [nwS_o (by omega), nwS_o (by omega)]; rfl)) rfl rfl ?_
  rw [upI_o (show (43 : Nat) ≠ (200 + nm) by omega), upI_o (show (43 : Nat) ≠ (200 + nm) by omega), upI_o (show (43 : Nat) ≠ (200 + nm) by omega)]
  rw [nMi_o (by omega), nwI_o (by omega)]
  refine m_pi (z := 4) dX6_handIn_34 fl_X6_42 (by rw [nwS_s]) rfl rfl rfl ?_
  refine m_aload dX6_handIn_37 rfl ?_
  refine m_iload_n dX6_handIn_39 rfl ?_
  refine m_pi (z := 6) dX6_handIn_40 fl_X6_45 (by rw [nwS_s]) rfl rfl rfl ?_
  refine x_hi_43 hd hm hL h3 hf hw hk (by decide) (by decide) (fun x hx => ?_) ?_ ?_ ?_ ?_ ?_ ?_ h
  · rw [upI_o hx, upI_o hx, upI_o hx, upI_o hx, upI_o hx, nMi_o hx, nwI_o hx]
  · rw [upI_j (by decide), upI_j (by decide), upI_j (by decide), upI_j (by decide), upI_s]
  · rw [upI_j (by decide), upI_j (by decide), upI_j (by decide), upI_s]
  · rw [upI_j (by decide), upI_j (by decide), upI_s]
  · rw [upI_j (by decide), upI_s]
  · unfold vX nMi
    have e0 : nwI I (200 + nm) (200 + nm) 10 = 0 := if_pos rfl
    simp only [upI, true_and]
    rw [e0]
    rfl
  · unfold nMi
    simp only [upI, true_and]
    rfl
end
