/-! PUBLIC: open, wire, storm, let, lag, erase, knows, orders, at -/
section
variable {g : GH} {d nm no : Nat} {I : II}
def aOpen (o f t : Int) : Int := if 0 ≤ o ∧ o ≤ 7 then (if (0 ≤ f ∧ f ≤ 1439) ∧ (f ≤ t ∧ t ≤ 1439) then 1 else -3) else -2
def aStop (v f t W now c N : Int) : Int := if 0 ≤ v ∧ v ≤ W - 1 then (if (now ≤ f ∧ f ≤ 9000) ∧ (f ≤ t ∧ t ≤ 9000) then (if c = N then -5 else c + 1) else -3) else -2
def aLag (v was : Int) : Int := if 0 ≤ v ∧ v ≤ 99 then was else -3
def jnP (W : Int) (A B : Int → Int) (a b : Int) : Prop := ∃ v, 0 ≤ v ∧ v < W ∧ ((A v = a ∧ B v = b) ∨ (A v = b ∧ B v = a))
noncomputable def aWire (a b s W : Int) (jn : Prop) : Int := if (0 ≤ a ∧ a ≤ 7) ∧ (0 ≤ b ∧ b ≤ 7) then (if a = b ∨ ¬ (1 ≤ s ∧ s ≤ 40) then -3 else cif jn (-4) (if W = 12 then -5 else W)) else -2
def aAt (m n k p o v gi br pr hi : Int) : Int := if 0 ≤ m ∧ m ≤ n - 1 then (if k = 0 then p else if k = 1 then o else if k = 2 then v else if k = 3 then gi else if k = 4 then br else if k = 5 then pr else if k = 6 then hi else -3) else -2
theorem px_open {o f t : Int} (hd : 2 ≤ d) : SI g d mX11_open [vr 20, vi o, vi f, vi t] (shX nm no) (RX nm no) I (fun r J => r = aOpen o f t ∧ ((r = 1 ∧ J = upI (upI I 22 o f) 23 o t) ∨ (r ≠ 1 ∧ J = I))) := by
  intro Q h
  refine C_of rfl (Nat.le_of_ble_eq_true rfl) rfl ?_
  refine m_iload_n dX11_open_0 rfl ?_
  refine m_Si [_] dX11_open_1 lk_X11_67 rfl rfl (Nat.le_of_ble_eq_true rfl) (by omega) (x_isOffice (by omega)) ?_
  refine m_if_ne (tgt := 10) dX11_open_4 (by decide) (fun c4 => ?_) (fun c4 => ?_)
  · have z4 := bI_ne0 c4
    refine m_iload_n dX11_open_10 rfl ?_
    refine m_iconst dX11_open_11 (by decide) ?_
    refine m_sipush dX11_open_12 rfl (by decide) ?_
    refine m_Si [_, _, _] dX11_open_15 lk_X11_71 rfl rfl (Nat.le_of_ble_eq_true rfl) (by omega) x_isWithin ?_
    refine m_if_eq (tgt := 32) dX11_open_18 (by decide) (fun c18 => ?_) (fun c18 => ?_)
    · have z18 := bI_eq0 c18
      refine m_bipush dX11_open_32 rfl (by decide) ?_
      refine m_iret dX11_open_34 rfl ?_
      exact h _ _ ⟨(by unfold aOpen; repeat' split; all_goals omega), Or.inr ⟨by omega, rfl⟩⟩
    · have z18 := bI_ne0 c18
      refine m_iload_n dX11_open_21 rfl ?_
      refine m_iload_n dX11_open_22 rfl ?_
      refine m_sipush dX11_open_23 rfl (by decide) ?_
      refine m_Si [_, _, _] dX11_open_26 lk_X11_71 rfl rfl (Nat.le_of_ble_eq_true rfl) (by omega) x_isWithin ?_
      refine m_if_ne (tgt := 35) dX11_open_29 (by decide) (fun c29 => ?_) (fun c29 => ?_)
      · have z29 := bI_ne0 c29
        refine m_aload_n dX11_open_35 rfl ?_
        refine m_gr (z := 0) dX11_open_36 fl_X11_10 oX_20 rfl rfl rX_20_0 ?_
        refine m_gr (z := 0) dX11_open_39 fl_X11_75 oX_21 rfl rfl rX_21_0 ?_
        refine m_iload_n dX11_open_42 rfl ?_
        refine m_iload_n dX11_open_43 rfl ?_
        refine m_iast dX11_open_44 sX_22 (by omega) (by omega) ?_
        refine m_aload_n dX11_open_45 rfl ?_
        refine m_gr (z := 0) dX11_open_46 fl_X11_10 oX_20 rfl rfl rX_20_0 ?_
        refine m_gr (z := 1) dX11_open_49 fl_X11_79 oX_21 rfl rfl rX_21_1 ?_
        refine m_iload_n dX11_open_52 rfl ?_
        refine m_iload_n dX11_open_53 rfl ?_
        refine m_iast dX11_open_54 sX_23 (by omega) (by omega) ?_
        refine m_iconst dX11_open_55 (by decide) ?_
        refine m_iret dX11_open_56 rfl ?_
        exact h _ _ ⟨(by unfold aOpen; repeat' split; all_goals omega), Or.inl ⟨rfl, rfl⟩⟩
      · have z29 := bI_eq0 (show _ = (0 : Int) by omega)
        refine m_bipush dX11_open_32 rfl (by decide) ?_
        refine m_iret dX11_open_34 rfl ?_
        exact h _ _ ⟨(by unfold aOpen; repeat' split; all_goals omega), Or.inr ⟨by omega, rfl⟩⟩
  · have z4 := bI_eq0 (show _ = (0 : Int) by omega)
    refine m_bipush dX11_open_7 rfl (by decide) ?_
    refine m_iret dX11_open_9 rfl ?_
    exact h _ _ ⟨(by unfold aOpen; repeat' split; all_goals omega), Or.inr ⟨by omega, rfl⟩⟩
theorem x_join {a b s u : Int} (hc : 0 ≤ I 21 9 ∧ I 21 9 < 12) (hu : u = 0 ∨ u = 1) : SP g d mX4_join 0 0 [vr 21, vi a, vi b, vi s, vi u] (shX nm no) (RX nm no) I (some (vi (I 21 9))) (shX nm no) (RX nm no) (upI (upI (upI (upI (upI I 24 (I 21 9) a) 25 (I 21 9) b) 26 (I 21 9) s) 27 (I 21 9) u) 21 9 (I 21 9 + 1)) := by
  intro Q h
  refine C_of rfl (Nat.le_of_ble_eq_true rfl) rfl ?_
  refine m_aload_n dX4_join_0 rfl ?_
  refine m_gr (z := 2) dX4_join_1 fl_X4_18 oX_21 rfl rfl rX_21_2 ?_
  refine m_aload_n dX4_join_4 rfl ?_
  refine m_gi (z := 9) dX4_join_5 fl_X4_52 oX_21 rfl rfl ?_
  refine m_iload_n dX4_join_8 rfl ?_
  refine m_iast dX4_join_9 sX_24 (by omega) (by omega) ?_
  refine m_aload_n dX4_join_10 rfl ?_
  refine m_gr (z := 3) dX4_join_11 fl_X4_21 oX_21 rfl rfl rX_21_3 ?_
  refine m_aload_n dX4_join_14 rfl ?_
  refine m_gi (z := 9) dX4_join_15 fl_X4_52 oX_21 rfl rfl ?_
  rw [upI_o (show (21 : Nat) ≠ 24 by omega)]
  refine m_iload_n dX4_join_18 rfl ?_
  refine m_iast dX4_join_19 sX_25 (by omega) (by omega) ?_
  refine m_aload_n dX4_join_20 rfl ?_
  refine m_gr (z := 4) dX4_join_21 fl_X4_24 oX_21 rfl rfl rX_21_4 ?_
  refine m_aload_n dX4_join_24 rfl ?_
  refine m_gi (z := 9) dX4_join_25 fl_X4_52 oX_21 rfl rfl ?_
  rw [upI_o (show (21 : Nat) ≠ 25 by omega), upI_o (show (21 : Nat) ≠ 24 by omega)]
  refine m_iload_n dX4_join_28 rfl ?_
  refine m_iast dX4_join_29 sX_26 (by omega) (by omega) ?_
  refine m_aload_n dX4_join_30 rfl ?_
  refine m_gr (z := 5) dX4_join_31 fl_X4_27 oX_21 rfl rfl rX_21_5 ?_
  refine m_aload_n dX4_join_34 rfl ?_
  refine m_gi (z := 9) dX4_join_35 fl_X4_52 oX_21 rfl rfl ?_
  rw [upI_o (show (21 : Nat) ≠ 26 by omega), upI_o (show (21 : Nat) ≠ 25 by omega), upI_o (show (21 : Nat) ≠ 24 by omega)]
  refine m_iload dX4_join_38 rfl ?_
  refine m_zast dX4_join_40 sX_27 (by omega) (by omega) (by rcases hu with rfl | rfl <;> decide) ?_
  refine m_aload_n dX4_join_41 rfl ?_
  refine m_dup dX4_join_42 (fun _ z => by cases z) ?_
  refine m_gi (z := 9) dX4_join_43 fl_X4_52 oX_21 rfl rfl ?_
  rw [upI_o (show (21 : Nat) ≠ 27 by omega), upI_o (show (21 : Nat) ≠ 26 by omega), upI_o (show (21 : Nat) ≠ 25 by omega), upI_o (show (21 : Nat) ≠ 24 by omega)]
  refine m_iconst dX4_join_46 (by decide) ?_
  refine m_iadd dX4_join_47 (by omega) ?_
  refine m_pi (z := 9) dX4_join_48 fl_X4_52 oX_21 rfl rfl rfl ?_
  refine m_aload_n dX4_join_51 rfl ?_
  refine m_gi (z := 9) dX4_join_52 fl_X4_52 oX_21 rfl rfl ?_
  rw [upI_s]
  refine m_iconst dX4_join_55 (by decide) ?_
  refine m_isub dX4_join_56 (by omega) ?_
  refine m_iret dX4_join_57 rfl ?_
  rw [show I 21 9 + 1 - 1 = I 21 9 by omega]
  exact h
theorem jn_oe {I : II} (hN : NetI I) {a b : Int} (hab : a ≠ b) (hb : 0 ≤ b) : (∃ v, 0 ≤ v ∧ v < I 21 9 ∧ oeX I v a = b) ↔ jnP (I 21 9) (I 24) (I 25) a b := by
  unfold jnP
  constructor
  · rintro ⟨v, h0, h1, h2⟩
    refine ⟨v, h0, h1, ?_⟩
    unfold oeX at h2
    split at h2
    · left; omega
    · split at h2
      · right; omega
      · omega
  · rintro ⟨v, h0, h1, h2⟩
    refine ⟨v, h0, h1, ?_⟩
    unfold oeX
    rcases h2 with h2 | h2
    · rw [if_pos h2.1]; exact h2.2
    · rw [if_neg (by omega), if_pos h2.2]; exact h2.1
theorem px_wire {a b s u : Int} (hd : 3 ≤ d) (hN : NetI I) (hu : u = 0 ∨ u = 1) : SI g d mX11_wire [vr 20, vi a, vi b, vi s, vi u] (shX nm no) (RX nm no) I (fun r J => r = aWire a b s (I 21 9) (jnP (I 21 9) (I 24) (I 25) a b) ∧ ((0 ≤ r ∧ J = (upI (upI (upI (upI (upI I 24 (I 21 9) a) 25 (I 21 9) b) 26 (I 21 9) s) 27 (I 21 9) u) 21 9 (I 21 9 + 1)) ∧ r = I 21 9 ∧ r < 12 ∧ ((0 ≤ a ∧ a ≤ 7) ∧ (0 ≤ b ∧ b ≤ 7) ∧ a ≠ b ∧ 1 ≤ s ∧ s ≤ 40)) ∨ (r < 0 ∧ J = I))) := by
  have hn := hN.1
  intro Q h
  refine C_of rfl (Nat.le_of_ble_eq_true rfl) rfl ?_
  refine m_iload_n dX11_wire_0 rfl ?_
  refine m_Si [_] dX11_wire_1 lk_X11_67 rfl rfl (Nat.le_of_ble_eq_true rfl) (by omega) (x_isOffice (by omega)) ?_
  refine m_if_eq (tgt := 14) dX11_wire_4 (by decide) (fun c4 => ?_) (fun c4 => ?_)
  · have z4 := bI_eq0 c4
    refine m_bipush dX11_wire_14 rfl (by decide) ?_
    refine m_iret dX11_wire_16 rfl ?_
    exact h _ _ ⟨by unfold aWire; rw [if_neg (by omega)], Or.inr ⟨by omega, rfl⟩⟩
  · have z4 := bI_ne0 c4
    refine m_iload_n dX11_wire_7 rfl ?_
    refine m_Si [_] dX11_wire_8 lk_X11_67 rfl rfl (Nat.le_of_ble_eq_true rfl) (by omega) (x_isOffice (by omega)) ?_
    refine m_if_ne (tgt := 17) dX11_wire_11 (by decide) (fun c11 => ?_) (fun c11 => ?_)
    · have z11 := bI_ne0 c11
      refine m_iload_n dX11_wire_17 rfl ?_
      refine m_iload_n dX11_wire_18 rfl ?_
      refine m_icmp_eq (tgt := 32) dX11_wire_19 (by decide) (fun c19 => ?_) (fun c19 => ?_)
      · refine m_bipush dX11_wire_32 rfl (by decide) ?_
        refine m_iret dX11_wire_34 rfl ?_
        exact h _ _ ⟨by unfold aWire; rw [if_pos ⟨z4, z11⟩, if_pos (by omega)], Or.inr ⟨by omega, rfl⟩⟩
      · refine m_iload_n dX11_wire_22 rfl ?_
        refine m_iconst dX11_wire_23 (by decide) ?_
        refine m_bipush dX11_wire_24 rfl (by decide) ?_
        refine m_Si [_, _, _] dX11_wire_26 lk_X11_71 rfl rfl (Nat.le_of_ble_eq_true rfl) (by omega) x_isWithin ?_
        refine m_if_ne (tgt := 35) dX11_wire_29 (by decide) (fun c29 => ?_) (fun c29 => ?_)
        · have z29 := bI_ne0 c29
          refine m_aload_n dX11_wire_35 rfl ?_
          refine m_gr (z := 0) dX11_wire_36 fl_X11_10 oX_20 rfl rfl rX_20_0 ?_
          refine m_iload_n dX11_wire_39 rfl ?_
          refine m_iload_n dX11_wire_40 rfl ?_
          refine m_Vi [_, _] dX11_wire_41 lk_X11_82 rfl oX_21 rfl (Nat.le_of_ble_eq_true rfl) (by omega) (x_joins (by omega) hN (by omega)) ?_
          refine m_if_eq (tgt := 50) dX11_wire_44 (by decide) (fun c44 => ?_) (fun c44 => ?_)
          · have z44 := bP_eq0 c44
            rw [jn_oe hN c19 (by omega)] at z44
            refine m_aload_n dX11_wire_50 rfl ?_
            refine m_gr (z := 0) dX11_wire_51 fl_X11_10 oX_20 rfl rfl rX_20_0 ?_
            refine m_gi (z := 9) dX11_wire_54 fl_X11_86 oX_21 rfl rfl ?_
            refine m_bipush dX11_wire_57 rfl (by decide) ?_
            refine m_icmp_ne (tgt := 65) dX11_wire_59 (by decide) (fun c59 => ?_) (fun c59 => ?_)
            · refine m_aload_n dX11_wire_65 rfl ?_
              refine m_gr (z := 0) dX11_wire_66 fl_X11_10 oX_20 rfl rfl rX_20_0 ?_
              refine m_iload_n dX11_wire_69 rfl ?_
              refine m_iload_n dX11_wire_70 rfl ?_
              refine m_iload_n dX11_wire_71 rfl ?_
              refine m_iload dX11_wire_72 rfl ?_
              refine m_Vi [_, _, _, _] dX11_wire_74 lk_X11_90 rfl oX_21 rfl (Nat.le_of_ble_eq_true rfl) (by omega) (x_join ⟨by omega, by omega⟩ hu) ?_
              refine m_iret dX11_wire_77 rfl ?_
              exact h _ _ ⟨(by unfold aWire; rw [if_pos ⟨z4, z11⟩, if_neg (by omega), cif_f z44, if_neg (by omega)]), Or.inl ⟨hN.1.1, rfl, rfl, by omega, z4, z11, c19, z29⟩⟩
            · refine m_bipush dX11_wire_62 rfl (by decide) ?_
              refine m_iret dX11_wire_64 rfl ?_
              exact h _ _ ⟨(by unfold aWire; rw [if_pos ⟨z4, z11⟩, if_neg (by omega), cif_f z44, if_pos (by omega)]), Or.inr ⟨by omega, rfl⟩⟩
          · have z44 := bP_ne0 c44
            rw [jn_oe hN c19 (by omega)] at z44
            refine m_bipush dX11_wire_47 rfl (by decide) ?_
            refine m_iret dX11_wire_49 rfl ?_
            exact h _ _ ⟨(by unfold aWire; rw [if_pos ⟨z4, z11⟩, if_neg (by omega), cif_t z44]), Or.inr ⟨by omega, rfl⟩⟩
        · have z29 := bI_eq0 (show _ = (0 : Int) by omega)
          refine m_bipush dX11_wire_32 rfl (by decide) ?_
          refine m_iret dX11_wire_34 rfl ?_
          exact h _ _ ⟨by unfold aWire; rw [if_pos ⟨z4, z11⟩, if_pos (by omega)], Or.inr ⟨by omega, rfl⟩⟩
    · have z11 := bI_eq0 (show _ = (0 : Int) by omega)
      refine m_bipush dX11_wire_14 rfl (by decide) ?_
      refine m_iret dX11_wire_16 rfl ?_
      exact h _ _ ⟨by unfold aWire; rw [if_neg (by omega)], Or.inr ⟨by omega, rfl⟩⟩
theorem x_stopWire28 {v f t : Int} (hd : 3 ≤ d) (hN : NetI I) (hc : 0 ≤ I 28 3 ∧ I 28 3 ≤ 12) : SI g d mX11_stopWire [vr 20, vr 28, vi v, vi f, vi t] (shX nm no) (RX nm no) I (fun r J => r = aStop v f t (I 21 9) (I 43 5) (I 28 3) 12 ∧ ((0 ≤ r ∧ I 28 3 < 12 ∧ (0 ≤ v ∧ v < I 21 9) ∧ (I 43 5 ≤ f ∧ f ≤ t ∧ t ≤ 9000) ∧ J = (upI (upI (upI (upI I 29 (I 28 3) v) 30 (I 28 3) f) 31 (I 28 3) t) 28 3 (I 28 3 + 1))) ∨ (r < 0 ∧ J = I))) := by
  have hn := hN.1
  intro Q h
  refine C_of rfl (Nat.le_of_ble_eq_true rfl) rfl ?_
  refine m_aload_n dX11_stopWire_0 rfl ?_
  refine m_iload_n dX11_stopWire_1 rfl ?_
  refine m_Vi [_] dX11_stopWire_2 lk_X11_156 rfl oX_20 rfl (Nat.le_of_ble_eq_true rfl) (by omega) (x_isWire (by omega) ⟨by omega, by omega⟩) ?_
  refine m_if_ne (tgt := 11) dX11_stopWire_5 (by decide) (fun c5 => ?_) (fun c5 => ?_)
  · have z5 := bI_ne0 c5
    refine m_iload_n dX11_stopWire_11 rfl ?_
    refine m_aload_n dX11_stopWire_12 rfl ?_
    refine m_gr (z := 2) dX11_stopWire_13 fl_X11_28 oX_20 rfl rfl rX_20_2 ?_
    refine m_gi (z := 5) dX11_stopWire_16 fl_X11_105 oX_43 rfl rfl ?_
    refine m_sipush dX11_stopWire_19 rfl (by decide) ?_
    refine m_Si [_, _, _] dX11_stopWire_22 lk_X11_71 rfl rfl (Nat.le_of_ble_eq_true rfl) (by omega) x_isWithin ?_
    refine m_if_eq (tgt := 40) dX11_stopWire_25 (by decide) (fun c25 => ?_) (fun c25 => ?_)
    · have z25 := bI_eq0 c25
      refine m_bipush dX11_stopWire_40 rfl (by decide) ?_
      refine m_iret dX11_stopWire_42 rfl ?_
      exact h _ _ ⟨(by unfold aStop; repeat' split; all_goals omega), Or.inr ⟨by omega, rfl⟩⟩
    · have z25 := bI_ne0 c25
      refine m_iload dX11_stopWire_28 rfl ?_
      refine m_iload_n dX11_stopWire_30 rfl ?_
      refine m_sipush dX11_stopWire_31 rfl (by decide) ?_
      refine m_Si [_, _, _] dX11_stopWire_34 lk_X11_71 rfl rfl (Nat.le_of_ble_eq_true rfl) (by omega) x_isWithin ?_
      refine m_if_ne (tgt := 43) dX11_stopWire_37 (by decide) (fun c37 => ?_) (fun c37 => ?_)
      · have z37 := bI_ne0 c37
        refine m_aload_n dX11_stopWire_43 rfl ?_
        refine m_gi (z := 3) dX11_stopWire_44 fl_X11_349 oX_28 rfl rfl ?_
        refine m_aload_n dX11_stopWire_47 rfl ?_
        refine m_gr (z := 0) dX11_stopWire_48 fl_X11_352 oX_28 rfl rfl rX_28_0 ?_
        refine m_alen dX11_stopWire_51 sX_29 (by decide) (by decide) ?_
        refine m_icmp_ne (tgt := 58) dX11_stopWire_52 (by decide) (fun c52 => ?_) (fun c52 => ?_)
        · refine m_aload_n dX11_stopWire_58 rfl ?_
          refine m_iload_n dX11_stopWire_59 rfl ?_
          refine m_iload_n dX11_stopWire_60 rfl ?_
          refine m_iload dX11_stopWire_61 rfl ?_
          refine m_Vi [_, _, _] dX11_stopWire_63 lk_X11_354 rfl oX_28 rfl (Nat.le_of_ble_eq_true rfl) (by omega) (x_put28 (by omega) (by omega)) ?_
          refine m_iret dX11_stopWire_66 rfl ?_
          exact h _ _ ⟨(by unfold aStop; repeat' split; all_goals omega), Or.inl ⟨by omega, by omega, by omega, by omega, rfl⟩⟩
        · refine m_bipush dX11_stopWire_55 rfl (by decide) ?_
          refine m_iret dX11_stopWire_57 rfl ?_
          exact h _ _ ⟨(by unfold aStop; repeat' split; all_goals omega), Or.inr ⟨by omega, rfl⟩⟩
      · have z37 := bI_eq0 (show _ = (0 : Int) by omega)
        refine m_bipush dX11_stopWire_40 rfl (by decide) ?_
        refine m_iret dX11_stopWire_42 rfl ?_
        exact h _ _ ⟨(by unfold aStop; repeat' split; all_goals omega), Or.inr ⟨by omega, rfl⟩⟩
  · have z5 := bI_eq0 (show _ = (0 : Int) by omega)
    refine m_bipush dX11_stopWire_8 rfl (by decide) ?_
    refine m_iret dX11_stopWire_10 rfl ?_
    exact h _ _ ⟨(by unfold aStop; repeat' split; all_goals omega), Or.inr ⟨by omega, rfl⟩⟩
theorem px_storm {v f t : Int} (hd : 4 ≤ d) (hN : NetI I) (hc : 0 ≤ I 28 3 ∧ I 28 3 ≤ 12) : SI g d mX11_storm [vr 20, vi v, vi f, vi t] (shX nm no) (RX nm no) I (fun r J => r = aStop v f t (I 21 9) (I 43 5) (I 28 3) 12 ∧ ((0 ≤ r ∧ I 28 3 < 12 ∧ (0 ≤ v ∧ v < I 21 9) ∧ (I 43 5 ≤ f ∧ f ≤ t ∧ t ≤ 9000) ∧ J = (upI (upI (upI (upI I 29 (I 28 3) v) 30 (I 28 3) f) 31 (I 28 3) t) 28 3 (I 28 3 + 1))) ∨ (r < 0 ∧ J = I))) := by
  intro Q h
  refine C_of rfl (Nat.le_of_ble_eq_true rfl) rfl ?_
  refine m_aload_n dX11_storm_0 rfl ?_
  refine m_aload_n dX11_storm_1 rfl ?_
  refine m_gr (z := 0) dX11_storm_2 fl_X11_10 oX_20 rfl rfl rX_20_0 ?_
  refine m_gr (z := 6) dX11_storm_5 fl_X11_94 oX_21 rfl rfl rX_21_6 ?_
  refine m_iload_n dX11_storm_8 rfl ?_
  refine m_iload_n dX11_storm_9 rfl ?_
  refine m_iload_n dX11_storm_10 rfl ?_
  refine m_VI [_, _, _, _] dX11_storm_11 lk_X11_98 rfl oX_20 rfl (Nat.le_of_ble_eq_true rfl) (by omega) (x_stopWire28 (by omega) hN hc) ?_
  intro r11 I11 q11
  refine m_iret dX11_storm_14 rfl ?_
  exact h _ _ q11
theorem x_stopWire32 {v f t : Int} (hd : 3 ≤ d) (hN : NetI I) (hc : 0 ≤ I 32 3 ∧ I 32 3 ≤ 6) : SI g d mX11_stopWire [vr 20, vr 32, vi v, vi f, vi t] (shX nm no) (RX nm no) I (fun r J => r = aStop v f t (I 21 9) (I 43 5) (I 32 3) 6 ∧ ((0 ≤ r ∧ I 32 3 < 6 ∧ (0 ≤ v ∧ v < I 21 9) ∧ (I 43 5 ≤ f ∧ f ≤ t ∧ t ≤ 9000) ∧ J = (upI (upI (upI (upI I 33 (I 32 3) v) 34 (I 32 3) f) 35 (I 32 3) t) 32 3 (I 32 3 + 1))) ∨ (r < 0 ∧ J = I))) := by
  have hn := hN.1
  intro Q h
  refine C_of rfl (Nat.le_of_ble_eq_true rfl) rfl ?_
  refine m_aload_n dX11_stopWire_0 rfl ?_
  refine m_iload_n dX11_stopWire_1 rfl ?_
  refine m_Vi [_] dX11_stopWire_2 lk_X11_156 rfl oX_20 rfl (Nat.le_of_ble_eq_true rfl) (by omega) (x_isWire (by omega) ⟨by omega, by omega⟩) ?_
  refine m_if_ne (tgt := 11) dX11_stopWire_5 (by decide) (fun c5 => ?_) (fun c5 => ?_)
  · have z5 := bI_ne0 c5
    refine m_iload_n dX11_stopWire_11 rfl ?_
    refine m_aload_n dX11_stopWire_12 rfl ?_
    refine m_gr (z := 2) dX11_stopWire_13 fl_X11_28 oX_20 rfl rfl rX_20_2 ?_
    refine m_gi (z := 5) dX11_stopWire_16 fl_X11_105 oX_43 rfl rfl ?_
    refine m_sipush dX11_stopWire_19 rfl (by decide) ?_
    refine m_Si [_, _, _] dX11_stopWire_22 lk_X11_71 rfl rfl (Nat.le_of_ble_eq_true rfl) (by omega) x_isWithin ?_
    refine m_if_eq (tgt := 40) dX11_stopWire_25 (by decide) (fun c25 => ?_) (fun c25 => ?_)
    · have z25 := bI_eq0 c25
      refine m_bipush dX11_stopWire_40 rfl (by decide) ?_
      refine m_iret dX11_stopWire_42 rfl ?_
      exact h _ _ ⟨(by unfold aStop; repeat' split; all_goals omega), Or.inr ⟨by omega, rfl⟩⟩
    · have z25 := bI_ne0 c25
      refine m_iload dX11_stopWire_28 rfl ?_
      refine m_iload_n dX11_stopWire_30 rfl ?_
      refine m_sipush dX11_stopWire_31 rfl (by decide) ?_
      refine m_Si [_, _, _] dX11_stopWire_34 lk_X11_71 rfl rfl (Nat.le_of_ble_eq_true rfl) (by omega) x_isWithin ?_
      refine m_if_ne (tgt := 43) dX11_stopWire_37 (by decide) (fun c37 => ?_) (fun c37 => ?_)
      · have z37 := bI_ne0 c37
        refine m_aload_n dX11_stopWire_43 rfl ?_
        refine m_gi (z := 3) dX11_stopWire_44 fl_X11_349 oX_32 rfl rfl ?_
        refine m_aload_n dX11_stopWire_47 rfl ?_
        refine m_gr (z := 0) dX11_stopWire_48 fl_X11_352 oX_32 rfl rfl rX_32_0 ?_
        refine m_alen dX11_stopWire_51 sX_33 (by decide) (by decide) ?_
        refine m_icmp_ne (tgt := 58) dX11_stopWire_52 (by decide) (fun c52 => ?_) (fun c52 => ?_)
        · refine m_aload_n dX11_stopWire_58 rfl ?_
          refine m_iload_n dX11_stopWire_59 rfl ?_
          refine m_iload_n dX11_stopWire_60 rfl ?_
          refine m_iload dX11_stopWire_61 rfl ?_
          refine m_Vi [_, _, _] dX11_stopWire_63 lk_X11_354 rfl oX_32 rfl (Nat.le_of_ble_eq_true rfl) (by omega) (x_put32 (by omega) (by omega)) ?_
          refine m_iret dX11_stopWire_66 rfl ?_
          exact h _ _ ⟨(by unfold aStop; repeat' split; all_goals omega), Or.inl ⟨by omega, by omega, by omega, by omega, rfl⟩⟩
        · refine m_bipush dX11_stopWire_55 rfl (by decide) ?_
          refine m_iret dX11_stopWire_57 rfl ?_
          exact h _ _ ⟨(by unfold aStop; repeat' split; all_goals omega), Or.inr ⟨by omega, rfl⟩⟩
      · have z37 := bI_eq0 (show _ = (0 : Int) by omega)
        refine m_bipush dX11_stopWire_40 rfl (by decide) ?_
        refine m_iret dX11_stopWire_42 rfl ?_
        exact h _ _ ⟨(by unfold aStop; repeat' split; all_goals omega), Or.inr ⟨by omega, rfl⟩⟩
  · have z5 := bI_eq0 (show _ = (0 : Int) by omega)
    refine m_bipush dX11_stopWire_8 rfl (by decide) ?_
    refine m_iret dX11_stopWire_10 rfl ?_
    exact h _ _ ⟨(by unfold aStop; repeat' split; all_goals omega), Or.inr ⟨by omega, rfl⟩⟩
theorem px_let {v f t : Int} (hd : 4 ≤ d) (hN : NetI I) (hc : 0 ≤ I 32 3 ∧ I 32 3 ≤ 6) : SI g d mX11_let [vr 20, vi v, vi f, vi t] (shX nm no) (RX nm no) I (fun r J => r = aStop v f t (I 21 9) (I 43 5) (I 32 3) 6 ∧ ((0 ≤ r ∧ I 32 3 < 6 ∧ (0 ≤ v ∧ v < I 21 9) ∧ (I 43 5 ≤ f ∧ f ≤ t ∧ t ≤ 9000) ∧ J = (upI (upI (upI (upI I 33 (I 32 3) v) 34 (I 32 3) f) 35 (I 32 3) t) 32 3 (I 32 3 + 1))) ∨ (r < 0 ∧ J = I))) := by
  intro Q h
  refine C_of rfl (Nat.le_of_ble_eq_true rfl) rfl ?_
  refine m_aload_n dX11_let_0 rfl ?_
  refine m_aload_n dX11_let_1 rfl ?_
  refine m_gr (z := 0) dX11_let_2 fl_X11_10 oX_20 rfl rfl rX_20_0 ?_
  refine m_gr (z := 7) dX11_let_5 fl_X11_102 oX_21 rfl rfl rX_21_7 ?_
  refine m_iload_n dX11_let_8 rfl ?_
  refine m_iload_n dX11_let_9 rfl ?_
  refine m_iload_n dX11_let_10 rfl ?_
  refine m_VI [_, _, _, _] dX11_let_11 lk_X11_98 rfl oX_20 rfl (Nat.le_of_ble_eq_true rfl) (by omega) (x_stopWire32 (by omega) hN hc) ?_
  intro r11 I11 q11
  refine m_iret dX11_let_14 rfl ?_
  exact h _ _ q11
theorem px_lag {v : Int} (hd : 1 ≤ d) : SI g d mX11_lag [vr 20, vi v] (shX nm no) (RX nm no) I (fun r J => r = aLag v (I 37 4) ∧ (((0 ≤ v ∧ v ≤ 99) ∧ J = upI I 37 4 v) ∨ (¬ (0 ≤ v ∧ v ≤ 99) ∧ J = I))) := by
  intro Q h
  refine C_of rfl (Nat.le_of_ble_eq_true rfl) rfl ?_
  refine m_iload_n dX11_lag_0 rfl ?_
  refine m_iconst dX11_lag_1 (by decide) ?_
  refine m_bipush dX11_lag_2 rfl (by decide) ?_
  refine m_Si [_, _, _] dX11_lag_4 lk_X11_71 rfl rfl (Nat.le_of_ble_eq_true rfl) (by omega) x_isWithin ?_
  refine m_if_ne (tgt := 13) dX11_lag_7 (by decide) (fun c7 => ?_) (fun c7 => ?_)
  · have z7 := bI_ne0 c7
    refine m_aload_n dX11_lag_13 rfl ?_
    refine m_gr (z := 1) dX11_lag_14 fl_X11_19 oX_20 rfl rfl rX_20_1 ?_
    refine m_gi (z := 4) dX11_lag_17 fl_X11_216 oX_37 rfl rfl ?_
    refine m_istore_n dX11_lag_20 (by decide) rfl rfl ?_
    refine m_aload_n dX11_lag_21 rfl ?_
    refine m_gr (z := 1) dX11_lag_22 fl_X11_19 oX_20 rfl rfl rX_20_1 ?_
    refine m_iload_n dX11_lag_25 rfl ?_
    refine m_pi (z := 4) dX11_lag_26 fl_X11_216 oX_37 rfl rfl rfl ?_
    refine m_iload_n dX11_lag_29 rfl ?_
    refine m_iret dX11_lag_30 rfl ?_
    exact h _ _ ⟨(by unfold aLag; repeat' split; all_goals omega), Or.inl ⟨z7, rfl⟩⟩
  · have z7 := bI_eq0 (show _ = (0 : Int) by omega)
    refine m_bipush dX11_lag_10 rfl (by decide) ?_
    refine m_iret dX11_lag_12 rfl ?_
    exact h _ _ ⟨(by unfold aLag; repeat' split; all_goals omega), Or.inr ⟨z7, rfl⟩⟩
theorem px_erase : SP g d mX11_erase 0 0 [vr 20] (shX nm no) (RX nm no) I (some (vi (I 46 1))) (shX nm no) (RX nm no) (upI I 46 1 0) := by
  intro Q h
  refine C_of rfl (Nat.le_of_ble_eq_true rfl) rfl ?_
  refine m_aload_n dX11_erase_0 rfl ?_
  refine m_gr (z := 3) dX11_erase_1 fl_X11_35 oX_20 rfl rfl rX_20_3 ?_
  refine m_gi (z := 1) dX11_erase_4 fl_X11_196 oX_46 rfl rfl ?_
  refine m_istore_n dX11_erase_7 (by decide) rfl rfl ?_
  refine m_aload_n dX11_erase_8 rfl ?_
  refine m_gr (z := 3) dX11_erase_9 fl_X11_35 oX_20 rfl rfl rX_20_3 ?_
  refine m_iconst dX11_erase_12 (by decide) ?_
  refine m_pi (z := 1) dX11_erase_13 fl_X11_196 oX_46 rfl rfl rfl ?_
  refine m_iload_n dX11_erase_16 rfl ?_
  refine m_iret dX11_erase_17 rfl ?_
  exact h
def aKnows (o k n : Int) (f : Int) : Int := if (0 ≤ o ∧ o ≤ 7) ∧ (0 ≤ k ∧ k ≤ n - 1) then f else -2
def aOrders (o t : Int) (f : Int) : Int := if 0 ≤ o ∧ o ≤ 7 then (if 0 ≤ t ∧ t ≤ 9999 then f else -3) else -2
theorem px_knows {o k : Int} (hd : 3 ≤ d) (hm : nm ≤ 24) (hL : LawI I no) : SP g d mX11_knows 0 0 [vr 20, vi o, vi k] (shX nm no) (RX nm no) I (some (vi (aKnows o k no (I (330 + k.toNat) o)))) (shX nm no) (RX nm no) I := by
  have hc := hL.1
  have hc2 := hL.2.1
  intro Q h
  refine C_of rfl (Nat.le_of_ble_eq_true rfl) rfl ?_
  refine m_iload_n dX11_knows_0 rfl ?_
  refine m_Si [_] dX11_knows_1 lk_X11_67 rfl rfl (Nat.le_of_ble_eq_true rfl) (by omega) (x_isOffice (by omega)) ?_
  refine m_if_eq (tgt := 24) dX11_knows_4 (by decide) (fun c4 => ?_) (fun c4 => ?_)
  · have z4 := bI_eq0 c4
    refine m_bipush dX11_knows_24 rfl (by decide) ?_
    refine m_iret dX11_knows_26 rfl ?_
    have e : aKnows o k no (I (330 + k.toNat) o) = -2 := by unfold aKnows; rw [if_neg (by omega)]
    rw [e] at h
    exact h
  · have z4 := bI_ne0 c4
    refine m_iload_n dX11_knows_7 rfl ?_
    refine m_iconst dX11_knows_8 (by decide) ?_
    refine m_aload_n dX11_knows_9 rfl ?_
    refine m_gr (z := 1) dX11_knows_10 fl_X11_19 oX_20 rfl rfl rX_20_1 ?_
    refine m_gi (z := 3) dX11_knows_13 fl_X11_211 oX_37 rfl rfl ?_
    refine m_iconst dX11_knows_16 (by decide) ?_
    refine m_isub dX11_knows_17 (by omega) ?_
    refine m_Si [_, _, _] dX11_knows_18 lk_X11_71 rfl rfl (Nat.le_of_ble_eq_true rfl) (by omega) x_isWithin ?_
    refine m_if_ne (tgt := 27) dX11_knows_21 (by decide) (fun c21 => ?_) (fun c21 => ?_)
    · have z21 := bI_ne0 c21
      have hO := ord_id (nm := nm) hm (show no ≤ 6 by omega) k
      refine m_aload_n dX11_knows_27 rfl ?_
      refine m_gr (z := 1) dX11_knows_28 fl_X11_19 oX_20 rfl rfl rX_20_1 ?_
      refine m_iload_n dX11_knows_31 rfl ?_
      refine m_Vr [_] dX11_knows_32 lk_X11_219 rfl oX_37 rfl (Nat.le_of_ble_eq_true rfl) (by omega) (x_numbered (by omega) hm (by omega) hc) ?_
      refine m_gr (z := 2) dX11_knows_35 fl_X11_223 hO.1 rfl rfl hO.2.2.2.1 ?_
      refine m_iload_n dX11_knows_38 rfl ?_
      refine m_iald dX11_knows_39 hO.2.2.2.2.2.2 (by omega) (by omega) ?_
      rw [show orw (oid no k) 2 = 330 + k.toNat by unfold oid; rw [if_pos (by omega)]; unfold orw; rw [if_neg (by omega)]; omega]
      refine m_iret dX11_knows_40 rfl ?_
      have e : aKnows o k no (I (330 + k.toNat) o) = I (330 + k.toNat) o := by unfold aKnows; rw [if_pos (by omega)]
      rw [e] at h
      exact h
    · have z21 := bI_eq0 (show _ = (0 : Int) by omega)
      refine m_bipush dX11_knows_24 rfl (by decide) ?_
      refine m_iret dX11_knows_26 rfl ?_
      have e : aKnows o k no (I (330 + k.toNat) o) = -2 := by unfold aKnows; rw [if_neg (by omega)]
      rw [e] at h
      exact h
theorem px_orders {o t : Int} (hd : 3 ≤ d) (hm : nm ≤ 24) (hL : LawI I no) : SP g d mX11_orders 0 0 [vr 20, vi o, vi t] (shX nm no) (RX nm no) I (some (vi (aOrders o t (gbF I o t no)))) (shX nm no) (RX nm no) I := by
  intro Q h
  refine C_of rfl (Nat.le_of_ble_eq_true rfl) rfl ?_
  refine m_iload_n dX11_orders_0 rfl ?_
  refine m_Si [_] dX11_orders_1 lk_X11_67 rfl rfl (Nat.le_of_ble_eq_true rfl) (by omega) (x_isOffice (by omega)) ?_
  refine m_if_ne (tgt := 10) dX11_orders_4 (by decide) (fun c4 => ?_) (fun c4 => ?_)
  · have z4 := bI_ne0 c4
    refine m_iload_n dX11_orders_10 rfl ?_
    refine m_iconst dX11_orders_11 (by decide) ?_
    refine m_sipush dX11_orders_12 rfl (by decide) ?_
    refine m_Si [_, _, _] dX11_orders_15 lk_X11_71 rfl rfl (Nat.le_of_ble_eq_true rfl) (by omega) x_isWithin ?_
    refine m_if_ne (tgt := 24) dX11_orders_18 (by decide) (fun c18 => ?_) (fun c18 => ?_)
    · have z18 := bI_ne0 c18
      refine m_aload_n dX11_orders_24 rfl ?_
      refine m_gr (z := 1) dX11_orders_25 fl_X11_19 oX_20 rfl rfl rX_20_1 ?_
      refine m_iload_n dX11_orders_28 rfl ?_
      refine m_iload_n dX11_orders_29 rfl ?_
      refine m_Vi [_, _] dX11_orders_30 lk_X11_226 rfl oX_37 rfl (Nat.le_of_ble_eq_true rfl) (by omega) (x_numberGoneBy (by omega) hm hL.2.1 hL.1 (by omega) (by omega)) ?_
      refine m_iret dX11_orders_33 rfl ?_
      have e : aOrders o t (gbF I o t no) = gbF I o t no := (by unfold aOrders; repeat' split; all_goals omega)
      rw [e] at h
      exact h
    · have z18 := bI_eq0 (show _ = (0 : Int) by omega)
      refine m_bipush dX11_orders_21 rfl (by decide) ?_
      refine m_iret dX11_orders_23 rfl ?_
      have e : aOrders o t (gbF I o t no) = -3 := (by unfold aOrders; repeat' split; all_goals omega)
      rw [e] at h
      exact h
  · have z4 := bI_eq0 (show _ = (0 : Int) by omega)
    refine m_bipush dX11_orders_7 rfl (by decide) ?_
    refine m_iret dX11_orders_9 rfl ?_
    have e : aOrders o t (gbF I o t no) = -2 := (by unfold aOrders; repeat' split; all_goals omega)
    rw [e] at h
    exact h
theorem px_at {m k : Int} (hd : 2 ≤ d) (hc : I 43 4 = nm) (hm : nm ≤ 24) : SP g d mX11_at 0 0 [vr 20, vi m, vi k] (shX nm no) (RX nm no) I (some (vi (aAt m nm k (vX I m.toNat 0) (vX I m.toNat 1) (vX I m.toNat 2) (vX I m.toNat 4) (vX I m.toNat 5) (I (200 + m.toNat) 3) (I (200 + m.toNat) 4)))) (shX nm no) (RX nm no) I := by
  intro Q h
  refine C_of rfl (Nat.le_of_ble_eq_true rfl) rfl ?_
  refine m_aload_n dX11_at_0 rfl ?_
  refine m_iload_n dX11_at_1 rfl ?_
  refine m_Vi [_] dX11_at_2 lk_X11_122 rfl oX_20 rfl (Nat.le_of_ble_eq_true rfl) (by omega) (x_isMessage (by omega) ⟨by omega, by omega⟩) ?_
  refine m_if_ne (tgt := 11) dX11_at_5 (by decide) (fun c5 => ?_) (fun c5 => ?_)
  · have z5 := bI_ne0 c5
    have hq := sX_msg (no := no) (show m.toNat < nm by omega) hm
    refine m_aload_n dX11_at_11 rfl ?_
    refine m_gr (z := 2) dX11_at_12 fl_X11_28 oX_20 rfl rfl rX_20_2 ?_
    refine m_gr (z := 2) dX11_at_15 fl_X11_125 oX_43 rfl rfl rX_43_2 ?_
    refine m_iload_n dX11_at_18 rfl ?_
    refine m_al dX11_at_19 sX_44 (by decide) (by omega) (by omega) (rX_msg (by omega) (by omega)) ?_
    refine m_astore_n dX11_at_20 (by decide) rfl rfl ?_
    refine m_iload_n dX11_at_21 rfl ?_
    by_cases e22_0 : k = 0
    · refine m_tableIn (tgt := 64) 0 dX11_at_22 e22_0 (by decide) (by decide) rfl (by decide) ?_
      refine m_aload_n dX11_at_64 rfl ?_
      refine m_gi (z := 5) dX11_at_65 fl_X11_129 hq rfl rfl ?_
      refine m_iret dX11_at_68 rfl ?_
      refine Eq.mp (congrArg (fun z => Q (some (vi z)) _ _ _) ?_) h
      unfold aAt vX
      simp only [mk6_0, mk6_1, mk6_2, mk6_4, mk6_5]
      repeat' split
      all_goals first | rfl | omega
    by_cases e22_1 : k = 1
    · refine m_tableIn (tgt := 69) 1 dX11_at_22 e22_1 (by decide) (by decide) rfl (by decide) ?_
      refine m_aload_n dX11_at_69 rfl ?_
      refine m_gi (z := 6) dX11_at_70 fl_X11_134 hq rfl rfl ?_
      refine m_iret dX11_at_73 rfl ?_
      refine Eq.mp (congrArg (fun z => Q (some (vi z)) _ _ _) ?_) h
      unfold aAt vX
      simp only [mk6_0, mk6_1, mk6_2, mk6_4, mk6_5]
      repeat' split
      all_goals first | rfl | omega
    by_cases e22_2 : k = 2
    · refine m_tableIn (tgt := 74) 2 dX11_at_22 e22_2 (by decide) (by decide) rfl (by decide) ?_
      refine m_aload_n dX11_at_74 rfl ?_
      refine m_gi (z := 7) dX11_at_75 fl_X11_137 hq rfl rfl ?_
      refine m_iret dX11_at_78 rfl ?_
      refine Eq.mp (congrArg (fun z => Q (some (vi z)) _ _ _) ?_) h
      unfold aAt vX
      simp only [mk6_0, mk6_1, mk6_2, mk6_4, mk6_5]
      repeat' split
      all_goals first | rfl | omega
    by_cases e22_3 : k = 3
    · refine m_tableIn (tgt := 79) 3 dX11_at_22 e22_3 (by decide) (by decide) rfl (by decide) ?_
      refine m_aload_n dX11_at_79 rfl ?_
      refine m_gi (z := 9) dX11_at_80 fl_X11_140 hq rfl rfl ?_
      refine m_iret dX11_at_83 rfl ?_
      refine Eq.mp (congrArg (fun z => Q (some (vi z)) _ _ _) ?_) h
      unfold aAt vX
      simp only [mk6_0, mk6_1, mk6_2, mk6_4, mk6_5]
      repeat' split
      all_goals first | rfl | omega
    by_cases e22_4 : k = 4
    · refine m_tableIn (tgt := 84) 4 dX11_at_22 e22_4 (by decide) (by decide) rfl (by decide) ?_
      refine m_aload_n dX11_at_84 rfl ?_
      refine m_gi (z := 10) dX11_at_85 fl_X11_143 hq rfl rfl ?_
      refine m_iret dX11_at_88 rfl ?_
      refine Eq.mp (congrArg (fun z => Q (some (vi z)) _ _ _) ?_) h
      unfold aAt vX
      simp only [mk6_0, mk6_1, mk6_2, mk6_4, mk6_5]
      repeat' split
      all_goals first | rfl | omega
    by_cases e22_5 : k = 5
    · refine m_tableIn (tgt := 89) 5 dX11_at_22 e22_5 (by decide) (by decide) rfl (by decide) ?_
      refine m_aload_n dX11_at_89 rfl ?_
      refine m_gi (z := 3) dX11_at_90 fl_X11_146 hq rfl rfl ?_
      refine m_iret dX11_at_93 rfl ?_
      refine Eq.mp (congrArg (fun z => Q (some (vi z)) _ _ _) ?_) h
      unfold aAt vX
      simp only [mk6_0, mk6_1, mk6_2, mk6_4, mk6_5]
      repeat' split
      all_goals first | rfl | omega
    by_cases e22_6 : k = 6
    · refine m_tableIn (tgt := 94) 6 dX11_at_22 e22_6 (by decide) (by decide) rfl (by decide) ?_
      refine m_aload_n dX11_at_94 rfl ?_
      refine m_gi (z := 4) dX11_at_95 fl_X11_149 hq rfl rfl ?_
      refine m_iret dX11_at_98 rfl ?_
      refine Eq.mp (congrArg (fun z => Q (some (vi z)) _ _ _) ?_) h
      unfold aAt vX
      simp only [mk6_0, mk6_1, mk6_2, mk6_4, mk6_5]
      repeat' split
      all_goals first | rfl | omega
    refine m_tableOut (tgt := 99) dX11_at_22 (by omega) (by decide) ?_
    refine m_bipush dX11_at_99 rfl (by decide) ?_
    refine m_iret dX11_at_101 rfl ?_
    refine Eq.mp (congrArg (fun z => Q (some (vi z)) _ _ _) ?_) h
    unfold aAt vX
    simp only [mk6_0, mk6_1, mk6_2, mk6_4, mk6_5]
    repeat' split
    all_goals first | rfl | omega
  · have z5 := bI_eq0 (show _ = (0 : Int) by omega)
    refine m_bipush dX11_at_8 rfl (by decide) ?_
    refine m_iret dX11_at_10 rfl ?_
    refine Eq.mp (congrArg (fun z => Q (some (vi z)) _ _ _) ?_) h
    unfold aAt vX
    simp only [mk6_0, mk6_1, mk6_2, mk6_4, mk6_5]
    repeat' split
    all_goals first | rfl | omega
end
