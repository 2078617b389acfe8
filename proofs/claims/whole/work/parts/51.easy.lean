/-! SMALL METHODS -/
section
variable {g : GH} {d nm no : Nat} {I : II}
theorem x_changeRate {v : Int} : SP g d mX7_changeRate 0 0 [vr 76, vi v] (shX nm no) (RX nm no) I (some (vi (I 76 4))) (shX nm no) (RX nm no) (upI (upI I 76 4 v) 76 2 0) := by
  intro Q h
  refine C_of rfl (Nat.le_of_ble_eq_true rfl) rfl ?_
  refine m_aload_n dX7_changeRate_0 rfl ?_
  refine m_gi (z := 4) dX7_changeRate_1 fl_X7_18 oX_76 rfl rfl ?_
  refine m_istore_n dX7_changeRate_4 (by decide) rfl rfl ?_
  refine m_aload_n dX7_changeRate_5 rfl ?_
  refine m_iload_n dX7_changeRate_6 rfl ?_
  refine m_pi (z := 4) dX7_changeRate_7 fl_X7_18 oX_76 rfl rfl rfl ?_
  refine m_aload_n dX7_changeRate_10 rfl ?_
  refine m_iconst dX7_changeRate_11 (by decide) ?_
  refine m_pz (z := 2) dX7_changeRate_12 fl_X7_22 oX_76 rfl rfl rfl (by omega) ?_
  refine m_iload_n dX7_changeRate_15 rfl ?_
  refine m_iret dX7_changeRate_16 rfl ?_
  exact h
theorem x_changeLimit {v : Int} : SP g d mX7_changeLimit 0 0 [vr 76, vi v] (shX nm no) (RX nm no) I (some (vi (I 76 5))) (shX nm no) (RX nm no) (upI (upI I 76 5 v) 76 2 0) := by
  intro Q h
  refine C_of rfl (Nat.le_of_ble_eq_true rfl) rfl ?_
  refine m_aload_n dX7_changeLimit_0 rfl ?_
  refine m_gi (z := 5) dX7_changeLimit_1 fl_X7_26 oX_76 rfl rfl ?_
  refine m_istore_n dX7_changeLimit_4 (by decide) rfl rfl ?_
  refine m_aload_n dX7_changeLimit_5 rfl ?_
  refine m_iload_n dX7_changeLimit_6 rfl ?_
  refine m_pi (z := 5) dX7_changeLimit_7 fl_X7_26 oX_76 rfl rfl rfl ?_
  refine m_aload_n dX7_changeLimit_10 rfl ?_
  refine m_iconst dX7_changeLimit_11 (by decide) ?_
  refine m_pz (z := 2) dX7_changeLimit_12 fl_X7_22 oX_76 rfl rfl rfl (by omega) ?_
  refine m_iload_n dX7_changeLimit_15 rfl ?_
  refine m_iret dX7_changeLimit_16 rfl ?_
  exact h
theorem x_isLetter {c : Int} : SP g d mX10_isLetter 0 0 [vi c] (shX nm no) (RX nm no) I (some (vi (bI (97 ≤ c ∧ c ≤ 122)))) (shX nm no) (RX nm no) I := by
  intro Q h
  refine C_of rfl (Nat.le_of_ble_eq_true rfl) rfl ?_
  refine m_iload_n dX10_isLetter_0 rfl ?_
  refine m_bipush dX10_isLetter_1 rfl (by decide) ?_
  refine m_icmp_lt (tgt := 16) dX10_isLetter_3 (by decide) (fun c3 => ?_) (fun c3 => ?_)
  · refine m_iconst dX10_isLetter_16 (by decide) ?_
    refine m_zret dX10_isLetter_17 rfl (by omega) ?_
    rw [bI_f (by omega)] at h; exact h
  · refine m_iload_n dX10_isLetter_6 rfl ?_
    refine m_bipush dX10_isLetter_7 rfl (by decide) ?_
    refine m_icmp_gt (tgt := 16) dX10_isLetter_9 (by decide) (fun c9 => ?_) (fun c9 => ?_)
    · refine m_iconst dX10_isLetter_16 (by decide) ?_
      refine m_zret dX10_isLetter_17 rfl (by omega) ?_
      rw [bI_f (by omega)] at h; exact h
    · refine m_iconst dX10_isLetter_12 (by decide) ?_
      refine m_goto (tgt := 17) dX10_isLetter_13 (by decide) ?_
      refine m_zret dX10_isLetter_17 rfl (by omega) ?_
      rw [bI_t (by omega)] at h; exact h
theorem x_isDigit {c : Int} : SP g d mX10_isDigit 0 0 [vi c] (shX nm no) (RX nm no) I (some (vi (bI (48 ≤ c ∧ c ≤ 57)))) (shX nm no) (RX nm no) I := by
  intro Q h
  refine C_of rfl (Nat.le_of_ble_eq_true rfl) rfl ?_
  refine m_iload_n dX10_isDigit_0 rfl ?_
  refine m_bipush dX10_isDigit_1 rfl (by decide) ?_
  refine m_icmp_lt (tgt := 16) dX10_isDigit_3 (by decide) (fun c3 => ?_) (fun c3 => ?_)
  · refine m_iconst dX10_isDigit_16 (by decide) ?_
    refine m_zret dX10_isDigit_17 rfl (by omega) ?_
    rw [bI_f (by omega)] at h; exact h
  · refine m_iload_n dX10_isDigit_6 rfl ?_
    refine m_bipush dX10_isDigit_7 rfl (by decide) ?_
    refine m_icmp_gt (tgt := 16) dX10_isDigit_9 (by decide) (fun c9 => ?_) (fun c9 => ?_)
    · refine m_iconst dX10_isDigit_16 (by decide) ?_
      refine m_zret dX10_isDigit_17 rfl (by omega) ?_
      rw [bI_f (by omega)] at h; exact h
    · refine m_iconst dX10_isDigit_12 (by decide) ?_
      refine m_goto (tgt := 17) dX10_isDigit_13 (by decide) ?_
      refine m_zret dX10_isDigit_17 rfl (by omega) ?_
      rw [bI_t (by omega)] at h; exact h
theorem x_isWire {c : Int} (hd : 1 ≤ d) (hc : 0 ≤ I 21 9 ∧ I 21 9 ≤ 100) : SP g d mX11_isWire 0 0 [vr 20, vi c] (shX nm no) (RX nm no) I (some (vi (bI (0 ≤ c ∧ c ≤ I 21 9 - 1)))) (shX nm no) (RX nm no) I := by
  intro Q h
  refine C_of rfl (Nat.le_of_ble_eq_true rfl) rfl ?_
  refine m_iload_n dX11_isWire_0 rfl ?_
  refine m_iconst dX11_isWire_1 (by decide) ?_
  refine m_aload_n dX11_isWire_2 rfl ?_
  refine m_gr (z := 0) dX11_isWire_3 fl_X11_10 oX_20 rfl rfl rX_20_0 ?_
  refine m_gi (z := 9) dX11_isWire_6 fl_X11_86 oX_21 rfl rfl ?_
  refine m_iconst dX11_isWire_9 (by decide) ?_
  refine m_isub dX11_isWire_10 (by omega) ?_
  refine m_Si [_, _, _] dX11_isWire_11 lk_X11_71 rfl rfl (Nat.le_of_ble_eq_true rfl) (by omega) x_isWithin ?_
  refine m_zret dX11_isWire_14 rfl bI_01 ?_
  exact h
theorem x_isMessage {c : Int} (hd : 1 ≤ d) (hc : 0 ≤ I 43 4 ∧ I 43 4 ≤ 100) : SP g d mX11_isMessage 0 0 [vr 20, vi c] (shX nm no) (RX nm no) I (some (vi (bI (0 ≤ c ∧ c ≤ I 43 4 - 1)))) (shX nm no) (RX nm no) I := by
  intro Q h
  refine C_of rfl (Nat.le_of_ble_eq_true rfl) rfl ?_
  refine m_iload_n dX11_isMessage_0 rfl ?_
  refine m_iconst dX11_isMessage_1 (by decide) ?_
  refine m_aload_n dX11_isMessage_2 rfl ?_
  refine m_gr (z := 2) dX11_isMessage_3 fl_X11_28 oX_20 rfl rfl rX_20_2 ?_
  refine m_gi (z := 4) dX11_isMessage_6 fl_X11_111 oX_43 rfl rfl ?_
  refine m_iconst dX11_isMessage_9 (by decide) ?_
  refine m_isub dX11_isMessage_10 (by omega) ?_
  refine m_Si [_, _, _] dX11_isMessage_11 lk_X11_71 rfl rfl (Nat.le_of_ble_eq_true rfl) (by omega) x_isWithin ?_
  refine m_zret dX11_isMessage_14 rfl bI_01 ?_
  exact h
theorem x_isRow {c : Int} (hd : 1 ≤ d) (hc : 0 ≤ I 55 4 ∧ I 55 4 ≤ 100) : SP g d mX11_isRow 0 0 [vr 20, vi c] (shX nm no) (RX nm no) I (some (vi (bI (0 ≤ c ∧ c ≤ I 55 4 - 1)))) (shX nm no) (RX nm no) I := by
  intro Q h
  refine C_of rfl (Nat.le_of_ble_eq_true rfl) rfl ?_
  refine m_iload_n dX11_isRow_0 rfl ?_
  refine m_iconst dX11_isRow_1 (by decide) ?_
  refine m_aload_n dX11_isRow_2 rfl ?_
  refine m_gr (z := 5) dX11_isRow_3 fl_X11_49 oX_20 rfl rfl rX_20_5 ?_
  refine m_gi (z := 4) dX11_isRow_6 fl_X11_278 oX_55 rfl rfl ?_
  refine m_iconst dX11_isRow_9 (by decide) ?_
  refine m_isub dX11_isRow_10 (by omega) ?_
  refine m_Si [_, _, _] dX11_isRow_11 lk_X11_71 rfl rfl (Nat.le_of_ble_eq_true rfl) (by omega) x_isWithin ?_
  refine m_zret dX11_isRow_14 rfl bI_01 ?_
  exact h
end
