/-! SHIFTS: plan -/
def FrS (I J : II) : Prop := (∀ x, x ≠ 76 → x ≠ 78 → J x = I x) ∧ ∀ j : Int, j ≠ 2 → j ≠ 3 → J 76 j = I 76 j
theorem FrS_rf {I : II} : FrS I I := ⟨fun _ _ _ => rfl, fun _ _ _ => rfl⟩
theorem FrW_S {I J : II} (h : FrW I J) : FrS I J := ⟨h.1, fun j _ y => h.2 j y⟩
theorem FrS_tr {I J K : II} (h : FrS I J) (h2 : FrS J K) : FrS I K := ⟨fun x a b => (h2.1 x a b).trans (h.1 x a b), fun j a b => (h2.2 j a b).trans (h.2 j a b)⟩
theorem okS_frS {I J : II} (h : FrS I J) : okS J = okS I := by
  funext a b c
  unfold okS
  rw [h.1 77 (by decide) (by decide), h.2 4 (by decide) (by decide), h.2 5 (by decide) (by decide)]
theorem ShI_frS {I J : II} (h : FrS I J) (hI : ShI I) : ShI J := by
  unfold ShI
  rw [h.1 77 (by decide) (by decide), h.2 4 (by decide) (by decide), h.2 5 (by decide) (by decide)]
  exact hI
theorem BpM_fr {I J M : II} {K : Int} (h : FrS I J) : BpM J K M = BpM I K M := by
  unfold BpM
  rw [okS_frS h]
theorem okS_up {I : II} (hI : ShI I) {a b c a' b' c' : Int} (ha : a ≤ a') (hb : b ≤ b') (hc : c ≤ c') (h : okS I a b c) : okS I a' b' c' :=
  Int.le_trans (msD_mono (by have := hI.2.1; omega) ha hb hc 3) h
theorem lo2_le {I J : II} (hF : FrS I J) (hI : ShI I) : ∀ a b c, rg a → rg b → rg c → okS J a b c → loF (fun z => msD (I 77) (I 76 4) 15 z 15 3) (I 76 5) 16 15 ≤ b := by
  intro a b c ha hb hc h
  rw [okS_frS hF] at h
  refine loF_le (fun x y z => msD_mono (by have := hI.2.1; omega) (Int.le_refl _) z (Int.le_refl _) 3) 16 15 (fun b y1 y2 _ => by omega) b hb.1 hb.2 ?_
  exact okS_up hI ha.2 (Int.le_refl _) hc.2 h
theorem lo3_le {I J : II} (hF : FrS I J) (hI : ShI I) : ∀ a b c, rg a → rg b → rg c → okS J a b c → loF (fun z => msD (I 77) (I 76 4) 15 15 z 3) (I 76 5) 16 15 ≤ c := by
  intro a b c ha hb hc h
  rw [okS_frS hF] at h
  refine loF_le (fun x y z => msD_mono (by have := hI.2.1; omega) (Int.le_refl _) (Int.le_refl _) z 3) 16 15 (fun b y1 y2 _ => by omega) c hc.1 hc.2 ?_
  exact okS_up hI ha.2 hb.2 (Int.le_refl _) h
/-- together and crew are the plan of the loads there are -/
def PlnI (I : II) : Prop := (I 76 3 = -1 ∧ ¬ okS I 15 15 15) ∨ (okS I 15 15 15 ∧ I 76 3 ≠ 46 ∧ BpM I 4096 I)
section
variable {g : GH} {d nm no : Nat} {I : II}
theorem x_pl_loop {l2 l3 : Int} {Q : QT} (hd : 4 ≤ d) (hI : ShI I) (hl2 : 0 ≤ l2 ∧ l2 ≤ 15) (hl3 : 0 ≤ l3 ∧ l3 ≤ 15) (h2 : ∀ a b c, rg a → rg b → rg c → okS I a b c → l2 ≤ b) (h3 : ∀ a b c, rg a → rg b → rg c → okS I a b c → l3 ≤ c)
    (h : ∀ J : II, FrW I J → BpM I 4096 J → Q none (shX nm no) (RX nm no) J) :
    ∀ (k : Nat) (a : Int) (J : II), 16 - a < k → 0 ≤ a → a ≤ 16 → FrW I J → BpM I (256 * a) J → T g d mX7_plan 0 0 50 [some (vr 76), some (vi l2), some (vi l3), some (vi a)] [] (shX nm no) (RX nm no) J Q := by
  intro k
  induction k with
  | zero => intro a J h0 h1 h2; omega
  | succ k ih =>
    intro a J h0 h1 h4 hF hB
    have hJ := ShI_fr hF hI
    have hB2 := hB
    rw [← BpM_fr (FrW_S hF)] at hB2
    refine m_iload_n dX7_plan_50 rfl ?_
    refine m_bipush dX7_plan_51 rfl (by decide) ?_
    refine m_icmp_gt (tgt := 81) dX7_plan_53 (by decide) (fun c53 => ?_) (fun c53 => ?_)
    · have ea : a = 16 := by omega
      subst ea
      refine m_vret dX7_plan_81 rfl ?_
      exact h J hF hB
    · refine m_aload_n dX7_plan_56 rfl ?_
      refine m_iload_n dX7_plan_57 rfl ?_
      refine m_bipush dX7_plan_58 rfl (by decide) ?_
      refine m_bipush dX7_plan_60 rfl (by decide) ?_
      refine m_Vi [_, _, _] dX7_plan_62 lk_X7_42 rfl oX_76 rfl (Nat.le_of_ble_eq_true rfl) (by omega) (x_isEnough (by omega) hJ ⟨by omega, by omega⟩ ⟨by omega, by omega⟩ ⟨by omega, by omega⟩) ?_
      refine m_if_eq (tgt := 75) dX7_plan_65 (by decide) (fun c65 => ?_) (fun c65 => ?_)
      · have z0 := bI_eq0 c65
        have z1 : ¬ okS J a 15 15 := z0
        rw [okS_fr hF] at z1
        have HB : BpM I (256 * (a + 1)) J := BpI_skip hB (fun a1 b1 c1 x1 x2 x3 x4 x5 x6 => by
          unfold rg at x1 x2 x3
          have ea : a1 = a := by omega
          subst ea
          exact absurd (okS_up hI (Int.le_refl _) x2.2 x3.2 x6) z1)
        refine m_iinc dX7_plan_75 rfl (by decide) rfl rfl (by omega) ?_
        refine m_goto (tgt := 50) dX7_plan_78 (by decide) ?_
        exact ih (a + 1) _ (by omega) (by omega) (by omega) hF HB
      · refine m_aload_n dX7_plan_68 rfl ?_
        refine m_iload_n dX7_plan_69 rfl ?_
        refine m_iload_n dX7_plan_70 rfl ?_
        refine m_iload_n dX7_plan_71 rfl ?_
        refine m_VV [_, _, _] dX7_plan_72 lk_X7_53 rfl oX_76 rfl (Nat.le_of_ble_eq_true rfl) (by omega) (x_planWith (by omega) hJ ⟨by omega, by omega⟩ hl2 hl3 (by rw [okS_fr hF]; exact h2) (by rw [okS_fr hF]; exact h3) hB2) ?_
        intro I72 q72
        have HB := q72.2
        rw [BpM_fr (FrW_S hF)] at HB
        refine m_iinc dX7_plan_75 rfl (by decide) rfl rfl (by omega) ?_
        refine m_goto (tgt := 50) dX7_plan_78 (by decide) ?_
        exact ih (a + 1) _ (by omega) (by omega) (by omega) (FrW_tr hF q72.1) HB
theorem x_plan (hd : 5 ≤ d) (hI : ShI I) (h2 : I 76 2 = 0 ∨ I 76 2 = 1) (hP : I 76 2 = 1 → PlnI I) : SV g d mX7_plan [vr 76] (shX nm no) (RX nm no) I (fun J => FrS I J ∧ J 76 2 = 1 ∧ PlnI J) := by
  have F1 : FrS I (upI (upI I 76 2 1) 76 3 (-1)) := ⟨fun x y1 y2 => by rw [upI_o y1, upI_o y1], fun j y1 y2 => by rw [upI_j y2, upI_j y1]⟩
  have F2 : FrS (upI (upI I 76 2 1) 76 3 (-1)) (upI (upI (upI I 76 2 1) 76 3 (-1)) 76 3 46) := ⟨fun x y1 y2 => by rw [upI_o y1], fun j y1 y2 => by rw [upI_j y2]⟩
  have hI1 := ShI_frS F1 hI
  have hI2 := ShI_frS F2 hI1
  have e12 : (upI (upI I 76 2 1) 76 3 (-1)) 76 2 = 1 := by rw [upI_j (by decide), upI_s]
  have e13 : (upI (upI I 76 2 1) 76 3 (-1)) 76 3 = -1 := upI_s
  have e22 : (upI (upI (upI I 76 2 1) 76 3 (-1)) 76 3 46) 76 2 = 1 := by rw [upI_j (by decide), upI_j (by decide), upI_s]
  have e23 : (upI (upI (upI I 76 2 1) 76 3 (-1)) 76 3 46) 76 3 = 46 := upI_s
  intro Q h
  refine C_of rfl (Nat.le_of_ble_eq_true rfl) rfl ?_
  refine m_aload_n dX7_plan_0 rfl ?_
  refine m_gi (z := 2) dX7_plan_1 fl_X7_22 oX_76 rfl rfl ?_
  refine m_if_eq (tgt := 8) dX7_plan_4 (by decide) (fun c4 => ?_) (fun c4 => ?_)
  · refine m_aload_n dX7_plan_8 rfl ?_
    refine m_iconst dX7_plan_9 (by decide) ?_
    refine m_pz (z := 2) dX7_plan_10 fl_X7_22 oX_76 rfl rfl rfl (by omega) ?_
    refine m_aload_n dX7_plan_13 rfl ?_
    refine m_iconst dX7_plan_14 (by decide) ?_
    refine m_pi (z := 3) dX7_plan_15 fl_X7_39 oX_76 rfl rfl rfl ?_
    refine m_aload_n dX7_plan_18 rfl ?_
    refine m_bipush dX7_plan_19 rfl (by decide) ?_
    refine m_bipush dX7_plan_21 rfl (by decide) ?_
    refine m_bipush dX7_plan_23 rfl (by decide) ?_
    refine m_Vi [_, _, _] dX7_plan_25 lk_X7_42 rfl oX_76 rfl (Nat.le_of_ble_eq_true rfl) (by omega) (x_isEnough (by omega) hI1 ⟨by omega, by omega⟩ ⟨by omega, by omega⟩ ⟨by omega, by omega⟩) ?_
    refine m_if_ne (tgt := 32) dX7_plan_28 (by decide) (fun c28 => ?_) (fun c28 => ?_)
    · have z0 := bI_ne0 c28
      have z1 : okS (upI (upI I 76 2 1) 76 3 (-1)) 15 15 15 := z0
      refine m_aload_n dX7_plan_32 rfl ?_
      refine m_Vi [] dX7_plan_33 lk_X7_46 rfl oX_76 rfl (Nat.le_of_ble_eq_true rfl) (by omega) (x_leastOfTwo (by omega) hI1) ?_
      refine m_istore_n dX7_plan_36 (by decide) rfl rfl ?_
      refine m_aload_n dX7_plan_37 rfl ?_
      refine m_Vi [] dX7_plan_38 lk_X7_50 rfl oX_76 rfl (Nat.le_of_ble_eq_true rfl) (by omega) (x_leastOfThree (by omega) hI1) ?_
      refine m_istore_n dX7_plan_41 (by decide) rfl rfl ?_
      refine m_aload_n dX7_plan_42 rfl ?_
      refine m_bipush dX7_plan_43 rfl (by decide) ?_
      refine m_pi (z := 3) dX7_plan_45 fl_X7_39 oX_76 rfl rfl rfl ?_
      refine m_iconst dX7_plan_48 (by decide) ?_
      refine m_istore_n dX7_plan_49 (by decide) rfl rfl ?_
      refine x_pl_loop (by omega) hI2 (loF_bd _ _ 16 15 (by omega) (by omega)) (loF_bd _ _ 16 15 (by omega) (by omega)) (lo2_le F2 hI1) (lo3_le F2 hI1) (fun J y1 y2 => h J ⟨FrS_tr F1 (FrS_tr F2 (FrW_S y1)), ?_, Or.inr ⟨?_, ?_, ?_⟩⟩) 17 0 _ (by omega) (by omega) (by omega) FrW_rf ?_
      · rw [y1.2 2 (by decide)]; exact e22
      · rw [okS_fr y1, okS_frS F2]; exact z1
      · rw [← okS_frS F2] at z1
        have y3 := y2.2.1 15 15 15 ⟨by omega, by omega⟩ ⟨by omega, by omega⟩ ⟨by omega, by omega⟩ (by omega) z1
        omega
      · rw [BpM_fr (FrW_S y1)]; exact y2
      · unfold BpM
        rw [e23]
        refine ⟨by omega, fun a b c x1 x2 x3 x4 _ => ?_, Or.inl rfl⟩
        unfold rg at x1 x2 x3
        omega
    · have z0 := bI_eq0 (show _ = (0 : Int) by omega)
      have z1 : ¬ okS (upI (upI I 76 2 1) 76 3 (-1)) 15 15 15 := z0
      refine m_vret dX7_plan_31 rfl ?_
      exact h _ ⟨F1, e12, Or.inl ⟨e13, z1⟩⟩
  · refine m_vret dX7_plan_7 rfl ?_
    exact h I ⟨FrS_rf, by omega, hP (by omega)⟩
end
