/-! PUBLIC: waits, blamed, load, row -/
section
variable {g : GH} {d nm no : Nat} {I : II}
theorem px_waits {a b c : Int} (hd : 2 ≤ d) (hI : ShI I) : SP g d mX11_waits 0 0 [vr 20, vi a, vi b, vi c] (shX nm no) (RX nm no) I (some (vi (if (0 ≤ a ∧ a ≤ 15) ∧ (0 ≤ b ∧ b ≤ 15) ∧ (0 ≤ c ∧ c ≤ 15) then msD (I 77) (I 76 4) a b c 3 else -3))) (shX nm no) (RX nm no) I := by
  intro Q h
  refine C_of rfl (Nat.le_of_ble_eq_true rfl) rfl ?_
  refine m_iload_n dX11_waits_0 rfl ?_
  refine m_iconst dX11_waits_1 (by decide) ?_
  refine m_bipush dX11_waits_2 rfl (by decide) ?_
  refine m_Si [_, _, _] dX11_waits_4 lk_X11_71 rfl rfl (Nat.le_of_ble_eq_true rfl) (by omega) x_isWithin ?_
  refine m_if_eq (tgt := 30) dX11_waits_7 (by decide) (fun c7 => ?_) (fun c7 => ?_)
  · have z7 := bI_eq0 c7
    refine m_bipush dX11_waits_30 rfl (by decide) ?_
    refine m_iret dX11_waits_32 rfl ?_
    rw [if_neg (by omega)] at h
    exact h
  · have z7 := bI_ne0 c7
    refine m_iload_n dX11_waits_10 rfl ?_
    refine m_iconst dX11_waits_11 (by decide) ?_
    refine m_bipush dX11_waits_12 rfl (by decide) ?_
    refine m_Si [_, _, _] dX11_waits_14 lk_X11_71 rfl rfl (Nat.le_of_ble_eq_true rfl) (by omega) x_isWithin ?_
    refine m_if_eq (tgt := 30) dX11_waits_17 (by decide) (fun c17 => ?_) (fun c17 => ?_)
    · have z17 := bI_eq0 c17
      refine m_bipush dX11_waits_30 rfl (by decide) ?_
      refine m_iret dX11_waits_32 rfl ?_
      rw [if_neg (by omega)] at h
      exact h
    · have z17 := bI_ne0 c17
      refine m_iload_n dX11_waits_20 rfl ?_
      refine m_iconst dX11_waits_21 (by decide) ?_
      refine m_bipush dX11_waits_22 rfl (by decide) ?_
      refine m_Si [_, _, _] dX11_waits_24 lk_X11_71 rfl rfl (Nat.le_of_ble_eq_true rfl) (by omega) x_isWithin ?_
      refine m_if_ne (tgt := 33) dX11_waits_27 (by decide) (fun c27 => ?_) (fun c27 => ?_)
      · have z27 := bI_ne0 c27
        refine m_aload_n dX11_waits_33 rfl ?_
        refine m_gr (z := 6) dX11_waits_34 fl_X11_56 oX_20 rfl rfl rX_20_6 ?_
        refine m_iload_n dX11_waits_37 rfl ?_
        refine m_iload_n dX11_waits_38 rfl ?_
        refine m_iload_n dX11_waits_39 rfl ?_
        refine m_Vi [_, _, _] dX11_waits_40 lk_X11_327 rfl oX_76 rfl (Nat.le_of_ble_eq_true rfl) (by omega) (x_mostWaiting (by omega) hI z7 z17 z27) ?_
        refine m_iret dX11_waits_43 rfl ?_
        rw [if_pos ⟨z7, z17, z27⟩] at h
        exact h
      · have z27 := bI_eq0 (show _ = (0 : Int) by omega)
        refine m_bipush dX11_waits_30 rfl (by decide) ?_
        refine m_iret dX11_waits_32 rfl ?_
        rw [if_neg (by omega)] at h
        exact h
theorem px_blamed (hd : 5 ≤ d) (hI : TapI I) : SI g d mX11_blamed [vr 20] (shX nm no) (RX nm no) I (fun r J => r = fbF (exT I) 255 ∧ ∀ x, x ≠ 75 → J x = I x) := by
  intro Q h
  refine C_of rfl (Nat.le_of_ble_eq_true rfl) rfl ?_
  refine m_aload_n dX11_blamed_0 rfl ?_
  refine m_gr (z := 5) dX11_blamed_1 fl_X11_49 oX_20 rfl rfl rX_20_5 ?_
  refine m_VI [] dX11_blamed_4 lk_X11_302 rfl oX_55 rfl (Nat.le_of_ble_eq_true rfl) (by omega) (x_fewestBlamed (by omega) hI) ?_
  intro r4 I4 q4
  refine m_iret dX11_blamed_7 rfl ?_
  exact h _ _ q4
theorem px_load {a b v : Int} (hd : 1 ≤ d) : SI g d mX11_load [vr 20, vi a, vi b, vi v] (shX nm no) (RX nm no) I (fun r J => (¬ (0 ≤ a ∧ a ≤ 2) ∧ r = -2 ∧ J = I) ∨ ((0 ≤ a ∧ a ≤ 2) ∧ ¬ ((0 ≤ b ∧ b ≤ 23) ∧ (0 ≤ v ∧ v ≤ 999)) ∧ r = -3 ∧ J = I) ∨ ((0 ≤ a ∧ a ≤ 2) ∧ (0 ≤ b ∧ b ≤ 23) ∧ (0 ≤ v ∧ v ≤ 999) ∧ r = I 77 (a * 24 + b) ∧ J = (upI (upI I 77 (a * 24 + b) v) 76 2 0))) := by
  intro Q h
  refine C_of rfl (Nat.le_of_ble_eq_true rfl) rfl ?_
  refine m_iload_n dX11_load_0 rfl ?_
  refine m_iconst dX11_load_1 (by decide) ?_
  refine m_iconst dX11_load_2 (by decide) ?_
  refine m_Si [_, _, _] dX11_load_3 lk_X11_71 rfl rfl (Nat.le_of_ble_eq_true rfl) (by omega) x_isWithin ?_
  refine m_if_ne (tgt := 12) dX11_load_6 (by decide) (fun c6 => ?_) (fun c6 => ?_)
  · have z6 := bI_ne0 c6
    refine m_iload_n dX11_load_12 rfl ?_
    refine m_iconst dX11_load_13 (by decide) ?_
    refine m_bipush dX11_load_14 rfl (by decide) ?_
    refine m_Si [_, _, _] dX11_load_16 lk_X11_71 rfl rfl (Nat.le_of_ble_eq_true rfl) (by omega) x_isWithin ?_
    refine m_if_eq (tgt := 33) dX11_load_19 (by decide) (fun c19 => ?_) (fun c19 => ?_)
    · have z19 := bI_eq0 c19
      refine m_bipush dX11_load_33 rfl (by decide) ?_
      refine m_iret dX11_load_35 rfl ?_
      exact h _ _ (Or.inr (Or.inl ⟨z6, by omega, rfl, rfl⟩))
    · have z19 := bI_ne0 c19
      refine m_iload_n dX11_load_22 rfl ?_
      refine m_iconst dX11_load_23 (by decide) ?_
      refine m_sipush dX11_load_24 rfl (by decide) ?_
      refine m_Si [_, _, _] dX11_load_27 lk_X11_71 rfl rfl (Nat.le_of_ble_eq_true rfl) (by omega) x_isWithin ?_
      refine m_if_ne (tgt := 36) dX11_load_30 (by decide) (fun c30 => ?_) (fun c30 => ?_)
      · have z30 := bI_ne0 c30
        refine m_aload_n dX11_load_36 rfl ?_
        refine m_gr (z := 6) dX11_load_37 fl_X11_56 oX_20 rfl rfl rX_20_6 ?_
        refine m_gr (z := 0) dX11_load_40 fl_X11_305 oX_76 rfl rfl rX_76_0 ?_
        refine m_iload_n dX11_load_43 rfl ?_
        refine m_bipush dX11_load_44 rfl (by decide) ?_
        refine m_imul dX11_load_46 (by omega) ?_
        refine m_iload_n dX11_load_47 rfl ?_
        refine m_iadd dX11_load_48 (by omega) ?_
        refine m_iald dX11_load_49 sX_77 (by omega) (by omega) ?_
        refine m_istore dX11_load_50 (by decide) rfl rfl ?_
        refine m_aload_n dX11_load_52 rfl ?_
        refine m_gr (z := 6) dX11_load_53 fl_X11_56 oX_20 rfl rfl rX_20_6 ?_
        refine m_gr (z := 0) dX11_load_56 fl_X11_305 oX_76 rfl rfl rX_76_0 ?_
        refine m_iload_n dX11_load_59 rfl ?_
        refine m_bipush dX11_load_60 rfl (by decide) ?_
        refine m_imul dX11_load_62 (by omega) ?_
        refine m_iload_n dX11_load_63 rfl ?_
        refine m_iadd dX11_load_64 (by omega) ?_
        refine m_iload_n dX11_load_65 rfl ?_
        refine m_iast dX11_load_66 sX_77 (by omega) (by omega) ?_
        refine m_aload_n dX11_load_67 rfl ?_
        refine m_gr (z := 6) dX11_load_68 fl_X11_56 oX_20 rfl rfl rX_20_6 ?_
        refine m_iconst dX11_load_71 (by decide) ?_
        refine m_pz (z := 2) dX11_load_72 fl_X11_308 oX_76 rfl rfl rfl (by omega) ?_
        refine m_iload dX11_load_75 rfl ?_
        refine m_iret dX11_load_77 rfl ?_
        exact h _ _ (Or.inr (Or.inr ⟨z6, z19, z30, rfl, rfl⟩))
      · have z30 := bI_eq0 (show _ = (0 : Int) by omega)
        refine m_bipush dX11_load_33 rfl (by decide) ?_
        refine m_iret dX11_load_35 rfl ?_
        exact h _ _ (Or.inr (Or.inl ⟨z6, by omega, rfl, rfl⟩))
  · have z6 := bI_eq0 (show _ = (0 : Int) by omega)
    refine m_bipush dX11_load_9 rfl (by decide) ?_
    refine m_iret dX11_load_11 rfl ?_
    exact h _ _ (Or.inl ⟨z6, rfl, rfl⟩)
theorem px_row {r : Nat} {n : Int} (hd : 3 ≤ d) (hc : I 55 4 = r) (hr : r ≤ 8) : SI g d mX11_row [vr 20, vi n] (shX nm no) (RX nm no) I (fun v J => (¬ (2 ≤ n ∧ n ≤ 7) ∧ v = -3 ∧ J = I) ∨ ((2 ≤ n ∧ n ≤ 7) ∧ r = 8 ∧ v = -5 ∧ J = I) ∨ ((2 ≤ n ∧ n ≤ 7) ∧ r < 8 ∧ v = r ∧ J = (upI (cpI (upI I 56 r n) (58 + r) (fun _ => 2) (7 : Nat)) 55 4 (r + 1)))) := by
  intro Q h
  refine C_of rfl (Nat.le_of_ble_eq_true rfl) rfl ?_
  refine m_iload_n dX11_row_0 rfl ?_
  refine m_iconst dX11_row_1 (by decide) ?_
  refine m_bipush dX11_row_2 rfl (by decide) ?_
  refine m_Si [_, _, _] dX11_row_4 lk_X11_71 rfl rfl (Nat.le_of_ble_eq_true rfl) (by omega) x_isWithin ?_
  refine m_if_ne (tgt := 13) dX11_row_7 (by decide) (fun c7 => ?_) (fun c7 => ?_)
  · have z7 := bI_ne0 c7
    refine m_aload_n dX11_row_13 rfl ?_
    refine m_gr (z := 5) dX11_row_14 fl_X11_49 oX_20 rfl rfl rX_20_5 ?_
    refine m_gi (z := 4) dX11_row_17 fl_X11_278 oX_55 rfl rfl ?_
    refine m_bipush dX11_row_20 rfl (by decide) ?_
    refine m_icmp_ne (tgt := 28) dX11_row_22 (by decide) (fun c22 => ?_) (fun c22 => ?_)
    · refine m_aload_n dX11_row_28 rfl ?_
      refine m_gr (z := 5) dX11_row_29 fl_X11_49 oX_20 rfl rfl rX_20_5 ?_
      refine m_iload_n dX11_row_32 rfl ?_
      refine m_Vi [_] dX11_row_33 lk_X11_279 rfl oX_55 rfl (Nat.le_of_ble_eq_true rfl) (by omega) (x_begin (by omega) hc (by omega)) ?_
      refine m_iret dX11_row_36 rfl ?_
      exact h _ _ (Or.inr (Or.inr ⟨z7, by omega, rfl, rfl⟩))
    · refine m_bipush dX11_row_25 rfl (by decide) ?_
      refine m_iret dX11_row_27 rfl ?_
      exact h _ _ (Or.inr (Or.inl ⟨z7, by omega, rfl, rfl⟩))
  · have z7 := bI_eq0 (show _ = (0 : Int) by omega)
    refine m_bipush dX11_row_10 rfl (by decide) ?_
    refine m_iret dX11_row_12 rfl ?_
    exact h _ _ (Or.inl ⟨z7, rfl, rfl⟩)
end
