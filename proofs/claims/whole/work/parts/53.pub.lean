/-! PUBLIC: door, clear, set, fewest -/
section
variable {g : GH} {d nm no : Nat} {I : II}
theorem px_door {x y u : Int} (hd : 1 ≤ d) (hc : 0 ≤ I 79 5 ∧ I 79 5 ≤ 6) : SI g d mX11_door [vr 20, vi x, vi y, vi u] (shX nm no) (RX nm no) I (fun r J => (¬ ((0 ≤ x ∧ x ≤ 20) ∧ (0 ≤ y ∧ y ≤ 20) ∧ (0 ≤ u ∧ u ≤ 200)) ∧ r = -3 ∧ J = I) ∨ (((0 ≤ x ∧ x ≤ 20) ∧ (0 ≤ y ∧ y ≤ 20) ∧ (0 ≤ u ∧ u ≤ 200)) ∧ I 79 5 = 6 ∧ r = -5 ∧ J = I) ∨ (((0 ≤ x ∧ x ≤ 20) ∧ (0 ≤ y ∧ y ≤ 20) ∧ (0 ≤ u ∧ u ≤ 200)) ∧ I 79 5 < 6 ∧ r = I 79 5 ∧ J = (upI (upI (upI (upI (upI I 80 (I 79 5) x) 81 (I 79 5) y) 82 (I 79 5) u) 79 5 (I 79 5 + 1)) 79 6 0))) := by
  intro Q h
  refine C_of rfl (Nat.le_of_ble_eq_true rfl) rfl ?_
  refine m_iload_n dX11_door_0 rfl ?_
  refine m_iconst dX11_door_1 (by decide) ?_
  refine m_bipush dX11_door_2 rfl (by decide) ?_
  refine m_Si [_, _, _] dX11_door_4 lk_X11_71 rfl rfl (Nat.le_of_ble_eq_true rfl) (by omega) x_isWithin ?_
  refine m_if_eq (tgt := 31) dX11_door_7 (by decide) (fun c7 => ?_) (fun c7 => ?_)
  · have z7 := bI_eq0 c7
    refine m_bipush dX11_door_31 rfl (by decide) ?_
    refine m_iret dX11_door_33 rfl ?_
    exact h _ _ (Or.inl ⟨by omega, rfl, rfl⟩)
  · have z7 := bI_ne0 c7
    refine m_iload_n dX11_door_10 rfl ?_
    refine m_iconst dX11_door_11 (by decide) ?_
    refine m_bipush dX11_door_12 rfl (by decide) ?_
    refine m_Si [_, _, _] dX11_door_14 lk_X11_71 rfl rfl (Nat.le_of_ble_eq_true rfl) (by omega) x_isWithin ?_
    refine m_if_eq (tgt := 31) dX11_door_17 (by decide) (fun c17 => ?_) (fun c17 => ?_)
    · have z17 := bI_eq0 c17
      refine m_bipush dX11_door_31 rfl (by decide) ?_
      refine m_iret dX11_door_33 rfl ?_
      exact h _ _ (Or.inl ⟨by omega, rfl, rfl⟩)
    · have z17 := bI_ne0 c17
      refine m_iload_n dX11_door_20 rfl ?_
      refine m_iconst dX11_door_21 (by decide) ?_
      refine m_sipush dX11_door_22 rfl (by decide) ?_
      refine m_Si [_, _, _] dX11_door_25 lk_X11_71 rfl rfl (Nat.le_of_ble_eq_true rfl) (by omega) x_isWithin ?_
      refine m_if_ne (tgt := 34) dX11_door_28 (by decide) (fun c28 => ?_) (fun c28 => ?_)
      · have z28 := bI_ne0 c28
        refine m_aload_n dX11_door_34 rfl ?_
        refine m_gr (z := 7) dX11_door_35 fl_X11_63 oX_20 rfl rfl rX_20_7 ?_
        refine m_gi (z := 5) dX11_door_38 fl_X11_331 oX_79 rfl rfl ?_
        refine m_bipush dX11_door_41 rfl (by decide) ?_
        refine m_icmp_ne (tgt := 49) dX11_door_43 (by decide) (fun c43 => ?_) (fun c43 => ?_)
        · refine m_aload_n dX11_door_49 rfl ?_
          refine m_gr (z := 7) dX11_door_50 fl_X11_63 oX_20 rfl rfl rX_20_7 ?_
          refine m_iload_n dX11_door_53 rfl ?_
          refine m_iload_n dX11_door_54 rfl ?_
          refine m_iload_n dX11_door_55 rfl ?_
          refine m_Vi [_, _, _] dX11_door_56 lk_X11_332 rfl oX_79 rfl (Nat.le_of_ble_eq_true rfl) (by omega) (x_put ⟨by omega, by omega⟩) ?_
          refine m_iret dX11_door_59 rfl ?_
          exact h _ _ (Or.inr (Or.inr ⟨⟨z7, z17, z28⟩, by omega, rfl, rfl⟩))
        · refine m_bipush dX11_door_46 rfl (by decide) ?_
          refine m_iret dX11_door_48 rfl ?_
          exact h _ _ (Or.inr (Or.inl ⟨⟨z7, z17, z28⟩, by omega, rfl, rfl⟩))
      · have z28 := bI_eq0 (show _ = (0 : Int) by omega)
        refine m_bipush dX11_door_31 rfl (by decide) ?_
        refine m_iret dX11_door_33 rfl ?_
        exact h _ _ (Or.inl ⟨by omega, rfl, rfl⟩)
theorem px_clear : SP g d mX11_clear 0 0 [vr 20] (shX nm no) (RX nm no) I (some (vi (I 79 5))) (shX nm no) (RX nm no) (upI (upI I 79 5 0) 79 6 0) := by
  intro Q h
  refine C_of rfl (Nat.le_of_ble_eq_true rfl) rfl ?_
  refine m_aload_n dX11_clear_0 rfl ?_
  refine m_gr (z := 7) dX11_clear_1 fl_X11_63 oX_20 rfl rfl rX_20_7 ?_
  refine m_gi (z := 5) dX11_clear_4 fl_X11_331 oX_79 rfl rfl ?_
  refine m_istore_n dX11_clear_7 (by decide) rfl rfl ?_
  refine m_aload_n dX11_clear_8 rfl ?_
  refine m_gr (z := 7) dX11_clear_9 fl_X11_63 oX_20 rfl rfl rX_20_7 ?_
  refine m_iconst dX11_clear_12 (by decide) ?_
  refine m_pi (z := 5) dX11_clear_13 fl_X11_331 oX_79 rfl rfl rfl ?_
  refine m_aload_n dX11_clear_16 rfl ?_
  refine m_gr (z := 7) dX11_clear_17 fl_X11_63 oX_20 rfl rfl rX_20_7 ?_
  refine m_iconst dX11_clear_20 (by decide) ?_
  refine m_pz (z := 6) dX11_clear_21 fl_X11_335 oX_79 rfl rfl rfl (by omega) ?_
  refine m_iload_n dX11_clear_24 rfl ?_
  refine m_iret dX11_clear_25 rfl ?_
  exact h
theorem px_set {k v : Int} (hd : 1 ≤ d) : SI g d mX11_set [vr 20, vi k, vi v] (shX nm no) (RX nm no) I (fun r J => ((k = 0 ∧ 1 ≤ v ∧ v ≤ 99) ∧ r = I 76 4 ∧ J = (upI (upI I 76 4 v) 76 2 0)) ∨ ((k = 1 ∧ 0 ≤ v ∧ v ≤ 9999) ∧ r = I 76 5 ∧ J = (upI (upI I 76 5 v) 76 2 0)) ∨ (¬ (k = 0 ∧ 1 ≤ v ∧ v ≤ 99) ∧ ¬ (k = 1 ∧ 0 ≤ v ∧ v ≤ 9999) ∧ r = -3 ∧ J = I)) := by
  intro Q h
  refine C_of rfl (Nat.le_of_ble_eq_true rfl) rfl ?_
  refine m_iload_n dX11_set_0 rfl ?_
  refine m_if_ne (tgt := 23) dX11_set_1 (by decide) (fun c1 => ?_) (fun c1 => ?_)
  · refine m_iload_n dX11_set_23 rfl ?_
    refine m_iconst dX11_set_24 (by decide) ?_
    refine m_icmp_ne (tgt := 48) dX11_set_25 (by decide) (fun c25 => ?_) (fun c25 => ?_)
    · refine m_bipush dX11_set_48 rfl (by decide) ?_
      refine m_iret dX11_set_50 rfl ?_
      exact h _ _ (Or.inr (Or.inr ⟨by omega, by omega, rfl, rfl⟩))
    · refine m_iload_n dX11_set_28 rfl ?_
      refine m_iconst dX11_set_29 (by decide) ?_
      refine m_sipush dX11_set_30 rfl (by decide) ?_
      refine m_Si [_, _, _] dX11_set_33 lk_X11_71 rfl rfl (Nat.le_of_ble_eq_true rfl) (by omega) x_isWithin ?_
      refine m_if_eq (tgt := 48) dX11_set_36 (by decide) (fun c36 => ?_) (fun c36 => ?_)
      · have z36 := bI_eq0 c36
        refine m_bipush dX11_set_48 rfl (by decide) ?_
        refine m_iret dX11_set_50 rfl ?_
        exact h _ _ (Or.inr (Or.inr ⟨by omega, by omega, rfl, rfl⟩))
      · have z36 := bI_ne0 c36
        refine m_aload_n dX11_set_39 rfl ?_
        refine m_gr (z := 6) dX11_set_40 fl_X11_56 oX_20 rfl rfl rX_20_6 ?_
        refine m_iload_n dX11_set_43 rfl ?_
        refine m_Vi [_] dX11_set_44 lk_X11_315 rfl oX_76 rfl (Nat.le_of_ble_eq_true rfl) (by omega) x_changeLimit ?_
        refine m_iret dX11_set_47 rfl ?_
        exact h _ _ (Or.inr (Or.inl ⟨⟨by omega, z36⟩, rfl, rfl⟩))
  · refine m_iload_n dX11_set_4 rfl ?_
    refine m_iconst dX11_set_5 (by decide) ?_
    refine m_bipush dX11_set_6 rfl (by decide) ?_
    refine m_Si [_, _, _] dX11_set_8 lk_X11_71 rfl rfl (Nat.le_of_ble_eq_true rfl) (by omega) x_isWithin ?_
    refine m_if_eq (tgt := 23) dX11_set_11 (by decide) (fun c11 => ?_) (fun c11 => ?_)
    · have z11 := bI_eq0 c11
      refine m_iload_n dX11_set_23 rfl ?_
      refine m_iconst dX11_set_24 (by decide) ?_
      refine m_icmp_ne (tgt := 48) dX11_set_25 (by decide) (fun c25 => ?_) (fun c25 => ?_)
      · refine m_bipush dX11_set_48 rfl (by decide) ?_
        refine m_iret dX11_set_50 rfl ?_
        exact h _ _ (Or.inr (Or.inr ⟨by omega, by omega, rfl, rfl⟩))
      · refine m_iload_n dX11_set_28 rfl ?_
        refine m_iconst dX11_set_29 (by decide) ?_
        refine m_sipush dX11_set_30 rfl (by decide) ?_
        refine m_Si [_, _, _] dX11_set_33 lk_X11_71 rfl rfl (Nat.le_of_ble_eq_true rfl) (by omega) x_isWithin ?_
        refine m_if_eq (tgt := 48) dX11_set_36 (by decide) (fun c36 => ?_) (fun c36 => ?_)
        · have z36 := bI_eq0 c36
          refine m_bipush dX11_set_48 rfl (by decide) ?_
          refine m_iret dX11_set_50 rfl ?_
          exact h _ _ (Or.inr (Or.inr ⟨by omega, by omega, rfl, rfl⟩))
        · have z36 := bI_ne0 c36
          refine m_aload_n dX11_set_39 rfl ?_
          refine m_gr (z := 6) dX11_set_40 fl_X11_56 oX_20 rfl rfl rX_20_6 ?_
          refine m_iload_n dX11_set_43 rfl ?_
          refine m_Vi [_] dX11_set_44 lk_X11_315 rfl oX_76 rfl (Nat.le_of_ble_eq_true rfl) (by omega) x_changeLimit ?_
          refine m_iret dX11_set_47 rfl ?_
          exact h _ _ (Or.inr (Or.inl ⟨⟨by omega, z36⟩, rfl, rfl⟩))
    · have z11 := bI_ne0 c11
      refine m_aload_n dX11_set_14 rfl ?_
      refine m_gr (z := 6) dX11_set_15 fl_X11_56 oX_20 rfl rfl rX_20_6 ?_
      refine m_iload_n dX11_set_18 rfl ?_
      refine m_Vi [_] dX11_set_19 lk_X11_312 rfl oX_76 rfl (Nat.le_of_ble_eq_true rfl) (by omega) x_changeRate ?_
      refine m_iret dX11_set_22 rfl ?_
      exact h _ _ (Or.inl ⟨⟨by omega, z11⟩, rfl, rfl⟩)
theorem px_fewest {k : Int} (hd : 6 ≤ d) (hI : ShI I) (h2 : I 76 2 = 0 ∨ I 76 2 = 1) (hP : I 76 2 = 1 → PlnI I) : SI g d mX11_fewest [vr 20, vi k] (shX nm no) (RX nm no) I (fun r J => (¬ (0 ≤ k ∧ k ≤ 3) ∧ r = -3 ∧ J = I) ∨ ((0 ≤ k ∧ k ≤ 3) ∧ FrS I J ∧ J 76 2 = 1 ∧ PlnI J ∧ r = (if J 76 3 = -1 then -1 else if k = 0 then J 76 3 else J 78 (k - 1)))) := by
  intro Q h
  refine C_of rfl (Nat.le_of_ble_eq_true rfl) rfl ?_
  refine m_iload_n dX11_fewest_0 rfl ?_
  refine m_iconst dX11_fewest_1 (by decide) ?_
  refine m_iconst dX11_fewest_2 (by decide) ?_
  refine m_Si [_, _, _] dX11_fewest_3 lk_X11_71 rfl rfl (Nat.le_of_ble_eq_true rfl) (by omega) x_isWithin ?_
  refine m_if_ne (tgt := 12) dX11_fewest_6 (by decide) (fun c6 => ?_) (fun c6 => ?_)
  · have z6 := bI_ne0 c6
    refine m_aload_n dX11_fewest_12 rfl ?_
    refine m_gr (z := 6) dX11_fewest_13 fl_X11_56 oX_20 rfl rfl rX_20_6 ?_
    refine m_VV [] dX11_fewest_16 lk_X11_318 rfl oX_76 rfl (Nat.le_of_ble_eq_true rfl) (by omega) (x_plan (by omega) hI h2 hP) ?_
    intro I16 q16
    refine m_aload_n dX11_fewest_19 rfl ?_
    refine m_gr (z := 6) dX11_fewest_20 fl_X11_56 oX_20 rfl rfl rX_20_6 ?_
    refine m_gi (z := 3) dX11_fewest_23 fl_X11_321 oX_76 rfl rfl ?_
    refine m_iconst dX11_fewest_26 (by decide) ?_
    refine m_icmp_ne (tgt := 32) dX11_fewest_27 (by decide) (fun c27 => ?_) (fun c27 => ?_)
    · refine m_iload_n dX11_fewest_32 rfl ?_
      refine m_if_ne (tgt := 46) dX11_fewest_33 (by decide) (fun c33 => ?_) (fun c33 => ?_)
      · refine m_aload_n dX11_fewest_46 rfl ?_
        refine m_gr (z := 6) dX11_fewest_47 fl_X11_56 oX_20 rfl rfl rX_20_6 ?_
        refine m_gr (z := 1) dX11_fewest_50 fl_X11_324 oX_76 rfl rfl rX_76_1 ?_
        refine m_iload_n dX11_fewest_53 rfl ?_
        refine m_iconst dX11_fewest_54 (by decide) ?_
        refine m_isub dX11_fewest_55 (by omega) ?_
        refine m_iald dX11_fewest_56 sX_78 (by omega) (by omega) ?_
        refine m_iret dX11_fewest_57 rfl ?_
        first | exact h _ _ (Or.inr ⟨z6, q16.1, q16.2.1, q16.2.2, by rw [if_neg (by omega), if_pos (by omega)]⟩) | exact h _ _ (Or.inr ⟨z6, q16.1, q16.2.1, q16.2.2, by rw [if_neg (by omega), if_neg (by omega)]⟩)
      · refine m_aload_n dX11_fewest_36 rfl ?_
        refine m_gr (z := 6) dX11_fewest_37 fl_X11_56 oX_20 rfl rfl rX_20_6 ?_
        refine m_gi (z := 3) dX11_fewest_40 fl_X11_321 oX_76 rfl rfl ?_
        refine m_goto (tgt := 57) dX11_fewest_43 (by decide) ?_
        refine m_iret dX11_fewest_57 rfl ?_
        first | exact h _ _ (Or.inr ⟨z6, q16.1, q16.2.1, q16.2.2, by rw [if_neg (by omega), if_pos (by omega)]⟩) | exact h _ _ (Or.inr ⟨z6, q16.1, q16.2.1, q16.2.2, by rw [if_neg (by omega), if_neg (by omega)]⟩)
    · refine m_iconst dX11_fewest_30 (by decide) ?_
      refine m_iret dX11_fewest_31 rfl ?_
      exact h _ _ (Or.inr ⟨z6, q16.1, q16.2.1, q16.2.2, by rw [if_pos (by omega)]⟩)
  · have z6 := bI_eq0 (show _ = (0 : Int) by omega)
    refine m_bipush dX11_fewest_9 rfl (by decide) ?_
    refine m_iret dX11_fewest_11 rfl ?_
    exact h _ _ (Or.inl ⟨z6, rfl, rfl⟩)
end
