/-! PUBLIC: tape, clerk -/
section
variable {g : GH} {d nm no : Nat} {I : II}
theorem px_tape {a b v : Int} (hd : 2 ≤ d) (hI : TapI I) : SI g d mX11_tape [vr 20, vi a, vi b, vi v] (shX nm no) (RX nm no) I (fun q J => (¬ ((0 ≤ a ∧ a ≤ I 55 4 - 1) ∧ (0 ≤ b ∧ b ≤ I 56 a - 1)) ∧ q = -2 ∧ J = I) ∨ (((0 ≤ a ∧ a ≤ I 55 4 - 1) ∧ (0 ≤ b ∧ b ≤ I 56 a - 1)) ∧ ¬ (0 ≤ v ∧ v ≤ 2) ∧ q = -3 ∧ J = I) ∨ (((0 ≤ a ∧ a ≤ I 55 4 - 1) ∧ (0 ≤ b ∧ b ≤ I 56 a - 1)) ∧ (0 ≤ v ∧ v ≤ 2) ∧ q = I (58 + a.toNat) b ∧ J = upI I (58 + a.toNat) b v)) := by
  have h1 := hI.1
  intro Q h
  refine C_of rfl (Nat.le_of_ble_eq_true rfl) rfl ?_
  refine m_aload_n dX11_tape_0 rfl ?_
  refine m_iload_n dX11_tape_1 rfl ?_
  refine m_Vi [_] dX11_tape_2 lk_X11_282 rfl oX_20 rfl (Nat.le_of_ble_eq_true rfl) (by omega) (x_isRow (by omega) ⟨by omega, by omega⟩) ?_
  refine m_if_eq (tgt := 27) dX11_tape_5 (by decide) (fun c5 => ?_) (fun c5 => ?_)
  · have z5 := bI_eq0 c5
    refine m_bipush dX11_tape_27 rfl (by decide) ?_
    refine m_iret dX11_tape_29 rfl ?_
    exact h _ _ (Or.inl ⟨by omega, rfl, rfl⟩)
  · have z5 := bI_ne0 c5
    obtain ⟨r, rfl⟩ : ∃ r : Nat, a = r := ⟨a.toNat, by omega⟩
    have hr8 : r < 8 := by omega
    have hs := (hI.2 r (by omega)).1
    refine m_iload_n dX11_tape_8 rfl ?_
    refine m_iconst dX11_tape_9 (by decide) ?_
    refine m_aload_n dX11_tape_10 rfl ?_
    refine m_gr (z := 5) dX11_tape_11 fl_X11_49 oX_20 rfl rfl rX_20_5 ?_
    refine m_gr (z := 0) dX11_tape_14 fl_X11_285 oX_55 rfl rfl rX_55_0 ?_
    refine m_iload_n dX11_tape_17 rfl ?_
    refine m_iald dX11_tape_18 sX_56 (by omega) (by omega) ?_
    refine m_iconst dX11_tape_19 (by decide) ?_
    refine m_isub dX11_tape_20 (by omega) ?_
    refine m_Si [_, _, _] dX11_tape_21 lk_X11_71 rfl rfl (Nat.le_of_ble_eq_true rfl) (by omega) x_isWithin ?_
    refine m_if_ne (tgt := 30) dX11_tape_24 (by decide) (fun c24 => ?_) (fun c24 => ?_)
    · have z24 := bI_ne0 c24
      refine m_iload_n dX11_tape_30 rfl ?_
      refine m_iconst dX11_tape_31 (by decide) ?_
      refine m_iconst dX11_tape_32 (by decide) ?_
      refine m_Si [_, _, _] dX11_tape_33 lk_X11_71 rfl rfl (Nat.le_of_ble_eq_true rfl) (by omega) x_isWithin ?_
      refine m_if_ne (tgt := 42) dX11_tape_36 (by decide) (fun c36 => ?_) (fun c36 => ?_)
      · have z36 := bI_ne0 c36
        refine m_aload_n dX11_tape_42 rfl ?_
        refine m_gr (z := 5) dX11_tape_43 fl_X11_49 oX_20 rfl rfl rX_20_5 ?_
        refine m_gr (z := 1) dX11_tape_46 fl_X11_286 oX_55 rfl rfl rX_55_1 ?_
        refine m_iload_n dX11_tape_49 rfl ?_
        refine m_al dX11_tape_50 sX_57 (by decide) (by omega) (by omega) (rX_hand hr8) ?_
        refine m_iload_n dX11_tape_51 rfl ?_
        refine m_iald dX11_tape_52 (sX_hand hr8) (by omega) (by omega) ?_
        refine m_istore dX11_tape_53 (by decide) rfl rfl ?_
        refine m_aload_n dX11_tape_55 rfl ?_
        refine m_gr (z := 5) dX11_tape_56 fl_X11_49 oX_20 rfl rfl rX_20_5 ?_
        refine m_gr (z := 1) dX11_tape_59 fl_X11_286 oX_55 rfl rfl rX_55_1 ?_
        refine m_iload_n dX11_tape_62 rfl ?_
        refine m_al dX11_tape_63 sX_57 (by decide) (by omega) (by omega) (rX_hand hr8) ?_
        refine m_iload_n dX11_tape_64 rfl ?_
        refine m_iload_n dX11_tape_65 rfl ?_
        refine m_iast dX11_tape_66 (sX_hand hr8) (by omega) (by omega) ?_
        refine m_iload dX11_tape_67 rfl ?_
        refine m_iret dX11_tape_69 rfl ?_
        exact h _ _ (Or.inr (Or.inr ⟨⟨z5, z24⟩, z36, rfl, rfl⟩))
      · have z36 := bI_eq0 (show _ = (0 : Int) by omega)
        refine m_bipush dX11_tape_39 rfl (by decide) ?_
        refine m_iret dX11_tape_41 rfl ?_
        exact h _ _ (Or.inr (Or.inl ⟨⟨z5, z24⟩, z36, rfl, rfl⟩))
    · have z24 := bI_eq0 (show _ = (0 : Int) by omega)
      refine m_bipush dX11_tape_27 rfl (by decide) ?_
      refine m_iret dX11_tape_29 rfl ?_
      exact h _ _ (Or.inl ⟨by omega, rfl, rfl⟩)
theorem px_clerk {a b v : Int} (hd : 2 ≤ d) (hI : TapI I) : SI g d mX11_clerk [vr 20, vi a, vi b, vi v] (shX nm no) (RX nm no) I (fun q J => (¬ ((0 ≤ a ∧ a ≤ I 55 4 - 1) ∧ (0 ≤ b ∧ b ≤ I 56 a - 2) ∧ (0 ≤ v ∧ v ≤ 7)) ∧ q = -2 ∧ J = I) ∨ (((0 ≤ a ∧ a ≤ I 55 4 - 1) ∧ (0 ≤ b ∧ b ≤ I 56 a - 2) ∧ (0 ≤ v ∧ v ≤ 7)) ∧ q = I (67 + a.toNat) b ∧ J = upI I (67 + a.toNat) b v)) := by
  have h1 := hI.1
  intro Q h
  refine C_of rfl (Nat.le_of_ble_eq_true rfl) rfl ?_
  refine m_aload_n dX11_clerk_0 rfl ?_
  refine m_iload_n dX11_clerk_1 rfl ?_
  refine m_Vi [_] dX11_clerk_2 lk_X11_282 rfl oX_20 rfl (Nat.le_of_ble_eq_true rfl) (by omega) (x_isRow (by omega) ⟨by omega, by omega⟩) ?_
  refine m_if_eq (tgt := 37) dX11_clerk_5 (by decide) (fun c5 => ?_) (fun c5 => ?_)
  · have z5 := bI_eq0 c5
    refine m_bipush dX11_clerk_37 rfl (by decide) ?_
    refine m_iret dX11_clerk_39 rfl ?_
    exact h _ _ (Or.inl ⟨by omega, rfl, rfl⟩)
  · have z5 := bI_ne0 c5
    obtain ⟨r, rfl⟩ : ∃ r : Nat, a = r := ⟨a.toNat, by omega⟩
    have hr8 : r < 8 := by omega
    have hs := (hI.2 r (by omega)).1
    refine m_iload_n dX11_clerk_8 rfl ?_
    refine m_iconst dX11_clerk_9 (by decide) ?_
    refine m_aload_n dX11_clerk_10 rfl ?_
    refine m_gr (z := 5) dX11_clerk_11 fl_X11_49 oX_20 rfl rfl rX_20_5 ?_
    refine m_gr (z := 0) dX11_clerk_14 fl_X11_285 oX_55 rfl rfl rX_55_0 ?_
    refine m_iload_n dX11_clerk_17 rfl ?_
    refine m_iald dX11_clerk_18 sX_56 (by omega) (by omega) ?_
    refine m_iconst dX11_clerk_19 (by decide) ?_
    refine m_isub dX11_clerk_20 (by omega) ?_
    refine m_Si [_, _, _] dX11_clerk_21 lk_X11_71 rfl rfl (Nat.le_of_ble_eq_true rfl) (by omega) x_isWithin ?_
    refine m_if_eq (tgt := 37) dX11_clerk_24 (by decide) (fun c24 => ?_) (fun c24 => ?_)
    · have z24 := bI_eq0 c24
      refine m_bipush dX11_clerk_37 rfl (by decide) ?_
      refine m_iret dX11_clerk_39 rfl ?_
      exact h _ _ (Or.inl ⟨by omega, rfl, rfl⟩)
    · have z24 := bI_ne0 c24
      refine m_iload_n dX11_clerk_27 rfl ?_
      refine m_iconst dX11_clerk_28 (by decide) ?_
      refine m_bipush dX11_clerk_29 rfl (by decide) ?_
      refine m_Si [_, _, _] dX11_clerk_31 lk_X11_71 rfl rfl (Nat.le_of_ble_eq_true rfl) (by omega) x_isWithin ?_
      refine m_if_ne (tgt := 40) dX11_clerk_34 (by decide) (fun c34 => ?_) (fun c34 => ?_)
      · have z34 := bI_ne0 c34
        refine m_aload_n dX11_clerk_40 rfl ?_
        refine m_gr (z := 5) dX11_clerk_41 fl_X11_49 oX_20 rfl rfl rX_20_5 ?_
        refine m_gr (z := 2) dX11_clerk_44 fl_X11_290 oX_55 rfl rfl rX_55_2 ?_
        refine m_iload_n dX11_clerk_47 rfl ?_
        refine m_al dX11_clerk_48 sX_66 (by decide) (by omega) (by omega) (rX_clk hr8) ?_
        refine m_iload_n dX11_clerk_49 rfl ?_
        refine m_iald dX11_clerk_50 (sX_clk hr8) (by omega) (by omega) ?_
        refine m_istore dX11_clerk_51 (by decide) rfl rfl ?_
        refine m_aload_n dX11_clerk_53 rfl ?_
        refine m_gr (z := 5) dX11_clerk_54 fl_X11_49 oX_20 rfl rfl rX_20_5 ?_
        refine m_gr (z := 2) dX11_clerk_57 fl_X11_290 oX_55 rfl rfl rX_55_2 ?_
        refine m_iload_n dX11_clerk_60 rfl ?_
        refine m_al dX11_clerk_61 sX_66 (by decide) (by omega) (by omega) (rX_clk hr8) ?_
        refine m_iload_n dX11_clerk_62 rfl ?_
        refine m_iload_n dX11_clerk_63 rfl ?_
        refine m_iast dX11_clerk_64 (sX_clk hr8) (by omega) (by omega) ?_
        refine m_iload dX11_clerk_65 rfl ?_
        refine m_iret dX11_clerk_67 rfl ?_
        exact h _ _ (Or.inr ⟨⟨z5, z24, z34⟩, rfl, rfl⟩)
      · have z34 := bI_eq0 (show _ = (0 : Int) by omega)
        refine m_bipush dX11_clerk_37 rfl (by decide) ?_
        refine m_iret dX11_clerk_39 rfl ?_
        exact h _ _ (Or.inl ⟨by omega, rfl, rfl⟩)
theorem px_lead {a : Int} (hd : 2 ≤ d) (hI : TapI I) : SI g d mX11_lead [vr 20, vi a] (shX nm no) (RX nm no) I (fun q J => J = I ∧ ((¬ (0 ≤ a ∧ a ≤ I 55 4 - 1) ∧ q = -2) ∨ ((0 ≤ a ∧ a ≤ I 55 4 - 1) ∧ qrP (I (58 + a.toNat)) (I 56 a).toNat ∧ q = -4) ∨ ((0 ≤ a ∧ a ≤ I 55 4 - 1) ∧ ¬ qrP (I (58 + a.toNat)) (I 56 a).toNat ∧ fwF (I (58 + a.toNat)) (I 56 a).toNat = -1 ∧ q = -1) ∨ ((0 ≤ a ∧ a ≤ I 55 4 - 1) ∧ ¬ qrP (I (58 + a.toNat)) (I 56 a).toNat ∧ fwF (I (58 + a.toNat)) (I 56 a).toNat ≠ -1 ∧ q = 10 * (lrF (I (58 + a.toNat)) (fwF (I (58 + a.toNat)) (I 56 a).toNat).toNat + 1) + fwF (I (58 + a.toNat)) (I 56 a).toNat))) := by
  have h1 := hI.1
  intro Q h
  refine C_of rfl (Nat.le_of_ble_eq_true rfl) rfl ?_
  refine m_aload_n dX11_lead_0 rfl ?_
  refine m_iload_n dX11_lead_1 rfl ?_
  refine m_Vi [_] dX11_lead_2 lk_X11_282 rfl oX_20 rfl (Nat.le_of_ble_eq_true rfl) (by omega) (x_isRow (by omega) ⟨by omega, by omega⟩) ?_
  refine m_if_ne (tgt := 11) dX11_lead_5 (by decide) (fun c5 => ?_) (fun c5 => ?_)
  · have z5 := bI_ne0 c5
    obtain ⟨r, rfl⟩ : ∃ r : Nat, a = r := ⟨a.toNat, by omega⟩
    have hr8 : r < 8 := by omega
    have hs := (hI.2 r (by omega)).1
    have f0 := fwF_bd (I (58 + r)) (I 56 r).toNat
    have l0 := lrF_bd (I (58 + r)) (fwF (I (58 + r)) (I 56 r).toNat).toNat
    refine m_aload_n dX11_lead_11 rfl ?_
    refine m_gr (z := 5) dX11_lead_12 fl_X11_49 oX_20 rfl rfl rX_20_5 ?_
    refine m_iload_n dX11_lead_15 rfl ?_
    refine m_Vi [_] dX11_lead_16 lk_X11_293 rfl oX_55 rfl (Nat.le_of_ble_eq_true rfl) (by omega) (x_quarrels hI (by omega)) ?_
    refine m_if_eq (tgt := 25) dX11_lead_19 (by decide) (fun c19 => ?_) (fun c19 => ?_)
    · have z19 := bP_eq0 c19
      refine m_aload_n dX11_lead_25 rfl ?_
      refine m_gr (z := 5) dX11_lead_26 fl_X11_49 oX_20 rfl rfl rX_20_5 ?_
      refine m_iload_n dX11_lead_29 rfl ?_
      refine m_Vi [_] dX11_lead_30 lk_X11_296 rfl oX_55 rfl (Nat.le_of_ble_eq_true rfl) (by omega) (x_firstWrong hI (by omega)) ?_
      refine m_istore_n dX11_lead_33 (by decide) rfl rfl ?_
      refine m_iload_n dX11_lead_34 rfl ?_
      refine m_iconst dX11_lead_35 (by decide) ?_
      refine m_icmp_ne (tgt := 43) dX11_lead_36 (by decide) (fun c36 => ?_) (fun c36 => ?_)
      · refine m_bipush dX11_lead_43 rfl (by decide) ?_
        refine m_aload_n dX11_lead_45 rfl ?_
        refine m_gr (z := 5) dX11_lead_46 fl_X11_49 oX_20 rfl rfl rX_20_5 ?_
        refine m_iload_n dX11_lead_49 rfl ?_
        refine m_iload_n dX11_lead_50 rfl ?_
        refine m_Vi [_, _] dX11_lead_51 lk_X11_299 rfl oX_55 rfl (Nat.le_of_ble_eq_true rfl) (by omega) (x_lastRightAhead hI (by omega) ⟨by omega, by omega⟩) ?_
        refine m_iconst dX11_lead_54 (by decide) ?_
        refine m_iadd dX11_lead_55 (by omega) ?_
        refine m_imul dX11_lead_56 (by omega) ?_
        refine m_iload_n dX11_lead_57 rfl ?_
        refine m_iadd dX11_lead_58 (by omega) ?_
        refine m_iret dX11_lead_59 rfl ?_
        exact h _ _ ⟨rfl, Or.inr (Or.inr (Or.inr ⟨z5, z19, c36, rfl⟩))⟩
      · have z36 : fwF (I (58 + r)) (I 56 r).toNat = -1 := by omega
        refine m_iconst dX11_lead_39 (by decide) ?_
        refine m_goto (tgt := 59) dX11_lead_40 (by decide) ?_
        refine m_iret dX11_lead_59 rfl ?_
        exact h _ _ ⟨rfl, Or.inr (Or.inr (Or.inl ⟨z5, z19, z36, rfl⟩))⟩
    · have z19 := bP_ne0 c19
      refine m_bipush dX11_lead_22 rfl (by decide) ?_
      refine m_iret dX11_lead_24 rfl ?_
      exact h _ _ ⟨rfl, Or.inr (Or.inl ⟨z5, z19, rfl⟩)⟩
  · have z5 := bI_eq0 (show _ = (0 : Int) by omega)
    refine m_bipush dX11_lead_8 rfl (by decide) ?_
    refine m_iret dX11_lead_10 rfl ?_
    exact h _ _ ⟨rfl, Or.inl ⟨z5, rfl⟩⟩
end
