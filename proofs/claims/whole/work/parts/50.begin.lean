/-! TAPES: begin; BOYS: put -/
section
variable {g : GH} {d nm no : Nat} {I : II}
theorem x_begin {r : Nat} {n : Int} (hd : 2 ≤ d) (hc : I 55 4 = r) (hr : r < 8) : SP g d mX9_begin 0 0 [vr 55, vi n] (shX nm no) (RX nm no) I (some (vi r)) (shX nm no) (RX nm no) (upI (cpI (upI I 56 r n) (58 + r) (fun _ => 2) (7 : Nat)) 55 4 (r + 1)) := by
  have e0 : (cpI (upI I 56 r n) (58 + r) (fun _ => 2) (7 : Nat)) 55 4 = r := by rw [cpI_o (by omega), upI_o (by decide)]; exact hc
  intro Q h
  refine C_of rfl (Nat.le_of_ble_eq_true rfl) rfl ?_
  refine m_aload_n dX9_begin_0 rfl ?_
  refine m_gr (z := 0) dX9_begin_1 fl_X9_9 oX_55 rfl rfl rX_55_0 ?_
  refine m_aload_n dX9_begin_4 rfl ?_
  refine m_gi (z := 4) dX9_begin_5 fl_X9_26 oX_55 rfl rfl ?_
  rw [hc]
  refine m_iload_n dX9_begin_8 rfl ?_
  refine m_iast dX9_begin_9 sX_56 (by omega) (by omega) ?_
  refine m_aload_n dX9_begin_10 rfl ?_
  refine m_gr (z := 1) dX9_begin_11 fl_X9_17 oX_55 rfl rfl rX_55_1 ?_
  refine m_aload_n dX9_begin_14 rfl ?_
  refine m_gi (z := 4) dX9_begin_15 fl_X9_26 oX_55 rfl rfl ?_
  rw [upI_o (show (55 : Nat) ≠ 56 by omega)]
  rw [hc]
  refine m_al dX9_begin_18 sX_57 (by decide) (by omega) (by omega) (rX_hand hr) ?_
  refine m_iconst dX9_begin_19 (by decide) ?_
  refine m_Sv [_, _] dX9_begin_20 lk_X9_30 rfl rfl (Nat.le_of_ble_eq_true rfl) (by omega) (x_fill (sX_hand hr) (by decide)) ?_
  refine m_aload_n dX9_begin_23 rfl ?_
  refine m_dup dX9_begin_24 (fun _ z => by cases z) ?_
  refine m_gi (z := 4) dX9_begin_25 fl_X9_26 oX_55 rfl rfl ?_
  rw [e0]
  refine m_iconst dX9_begin_28 (by decide) ?_
  refine m_iadd dX9_begin_29 (by omega) ?_
  refine m_pi (z := 4) dX9_begin_30 fl_X9_26 oX_55 rfl rfl rfl ?_
  refine m_aload_n dX9_begin_33 rfl ?_
  refine m_gi (z := 4) dX9_begin_34 fl_X9_26 oX_55 rfl rfl ?_
  rw [upI_s]
  refine m_iconst dX9_begin_37 (by decide) ?_
  refine m_isub dX9_begin_38 (by omega) ?_
  refine m_iret dX9_begin_39 rfl ?_
  rw [show (r : Int) + 1 - 1 = r by omega]
  exact h
theorem x_put {x y u : Int} (hc : 0 ≤ I 79 5 ∧ I 79 5 < 6) : SP g d mX1_put 0 0 [vr 79, vi x, vi y, vi u] (shX nm no) (RX nm no) I (some (vi (I 79 5))) (shX nm no) (RX nm no) (upI (upI (upI (upI (upI I 80 (I 79 5) x) 81 (I 79 5) y) 82 (I 79 5) u) 79 5 (I 79 5 + 1)) 79 6 0) := by
  intro Q h
  refine C_of rfl (Nat.le_of_ble_eq_true rfl) rfl ?_
  refine m_aload_n dX1_put_0 rfl ?_
  refine m_gr (z := 0) dX1_put_1 fl_X1_9 oX_79 rfl rfl rX_79_0 ?_
  refine m_aload_n dX1_put_4 rfl ?_
  refine m_gi (z := 5) dX1_put_5 fl_X1_27 oX_79 rfl rfl ?_
  refine m_iload_n dX1_put_8 rfl ?_
  refine m_iast dX1_put_9 sX_80 (by omega) (by omega) ?_
  refine m_aload_n dX1_put_10 rfl ?_
  refine m_gr (z := 1) dX1_put_11 fl_X1_15 oX_79 rfl rfl rX_79_1 ?_
  refine m_aload_n dX1_put_14 rfl ?_
  refine m_gi (z := 5) dX1_put_15 fl_X1_27 oX_79 rfl rfl ?_
  rw [upI_o (show (79 : Nat) ≠ 80 by omega)]
  refine m_iload_n dX1_put_18 rfl ?_
  refine m_iast dX1_put_19 sX_81 (by omega) (by omega) ?_
  refine m_aload_n dX1_put_20 rfl ?_
  refine m_gr (z := 2) dX1_put_21 fl_X1_18 oX_79 rfl rfl rX_79_2 ?_
  refine m_aload_n dX1_put_24 rfl ?_
  refine m_gi (z := 5) dX1_put_25 fl_X1_27 oX_79 rfl rfl ?_
  rw [upI_o (show (79 : Nat) ≠ 81 by omega), upI_o (show (79 : Nat) ≠ 80 by omega)]
  refine m_iload_n dX1_put_28 rfl ?_
  refine m_iast dX1_put_29 sX_82 (by omega) (by omega) ?_
  refine m_aload_n dX1_put_30 rfl ?_
  refine m_dup dX1_put_31 (fun _ z => by cases z) ?_
  refine m_gi (z := 5) dX1_put_32 fl_X1_27 oX_79 rfl rfl ?_
  rw [upI_o (show (79 : Nat) ≠ 82 by omega), upI_o (show (79 : Nat) ≠ 81 by omega), upI_o (show (79 : Nat) ≠ 80 by omega)]
  refine m_iconst dX1_put_35 (by decide) ?_
  refine m_iadd dX1_put_36 (by omega) ?_
  refine m_pi (z := 5) dX1_put_37 fl_X1_27 oX_79 rfl rfl rfl ?_
  refine m_aload_n dX1_put_40 rfl ?_
  refine m_iconst dX1_put_41 (by decide) ?_
  refine m_pz (z := 6) dX1_put_42 fl_X1_31 oX_79 rfl rfl rfl (by omega) ?_
  refine m_aload_n dX1_put_45 rfl ?_
  refine m_gi (z := 5) dX1_put_46 fl_X1_27 oX_79 rfl rfl ?_
  rw [upI_j (show (5 : Int) ≠ 6 by decide), upI_s]
  refine m_iconst dX1_put_49 (by decide) ?_
  refine m_isub dX1_put_50 (by omega) ?_
  refine m_iret dX1_put_51 rfl ?_
  rw [show I 79 5 + 1 - 1 = I 79 5 by omega]
  exact h
end
