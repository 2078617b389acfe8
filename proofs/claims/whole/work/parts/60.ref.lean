/-! REFERENCE: in, isOffice, isWire, isMessage, isRow, open, otherEnd, isAt, takes, isOpen, joins, wire, storm, let, lag, erase, ordersOf, knows, orders, at -/
section
variable {g : GH} {d nm no : Nat} {I : II}
theorem y_in {v a b : Int} : SP g d mX12_in 0 0 [vi v, vi a, vi b] (shX nm no) (RX nm no) I (some (vi (bI (a ≤ v ∧ v ≤ b)))) (shX nm no) (RX nm no) I := by
  intro Q h
  refine C_of rfl (Nat.le_of_ble_eq_true rfl) rfl ?_
  refine m_iload_n dX12_in_0 rfl ?_
  refine m_iload_n dX12_in_1 rfl ?_
  refine m_icmp_lt (tgt := 14) dX12_in_2 (by decide) (fun c2 => ?_) (fun c2 => ?_)
  · refine m_iconst dX12_in_14 (by decide) ?_
    refine m_zret dX12_in_15 rfl (by omega) ?_
    rw [bI_f (by omega)] at h; exact h
  · refine m_iload_n dX12_in_5 rfl ?_
    refine m_iload_n dX12_in_6 rfl ?_
    refine m_icmp_gt (tgt := 14) dX12_in_7 (by decide) (fun c7 => ?_) (fun c7 => ?_)
    · refine m_iconst dX12_in_14 (by decide) ?_
      refine m_zret dX12_in_15 rfl (by omega) ?_
      rw [bI_f (by omega)] at h; exact h
    · refine m_iconst dX12_in_10 (by decide) ?_
      refine m_goto (tgt := 15) dX12_in_11 (by decide) ?_
      refine m_zret dX12_in_15 rfl (by omega) ?_
      rw [bI_t (by omega)] at h; exact h
theorem y_isOffice {v : Int} (hd : 1 ≤ d) : SP g d mX12_isOffice 0 0 [vi v] (shX nm no) (RX nm no) I (some (vi (bI (0 ≤ v ∧ v ≤ 7)))) (shX nm no) (RX nm no) I := by
  intro Q h
  refine C_of rfl (Nat.le_of_ble_eq_true rfl) rfl ?_
  refine m_iload_n dX12_isOffice_0 rfl ?_
  refine m_iconst dX12_isOffice_1 (by decide) ?_
  refine m_bipush dX12_isOffice_2 rfl (by decide) ?_
  refine m_Si [_, _, _] dX12_isOffice_4 lk_X12_123 rfl rfl (Nat.le_of_ble_eq_true rfl) (by omega) y_in ?_
  refine m_zret dX12_isOffice_7 rfl bI_01 ?_
  exact h
theorem y_isWire {c : Int} (hd : 1 ≤ d) (hc : 0 ≤ I 100 3 ∧ I 100 3 ≤ 100) : SP g d mX12_isWire 0 0 [vr 100, vi c] (shX nm no) (RX nm no) I (some (vi (bI (0 ≤ c ∧ c ≤ I 100 3 - 1)))) (shX nm no) (RX nm no) I := by
  intro Q h
  refine C_of rfl (Nat.le_of_ble_eq_true rfl) rfl ?_
  refine m_iload_n dX12_isWire_0 rfl ?_
  refine m_iconst dX12_isWire_1 (by decide) ?_
  refine m_aload_n dX12_isWire_2 rfl ?_
  refine m_gi (z := 3) dX12_isWire_3 fl_X12_127 oX_100 rfl rfl ?_
  refine m_iconst dX12_isWire_6 (by decide) ?_
  refine m_isub dX12_isWire_7 (by omega) ?_
  refine m_Si [_, _, _] dX12_isWire_8 lk_X12_123 rfl rfl (Nat.le_of_ble_eq_true rfl) (by omega) y_in ?_
  refine m_zret dX12_isWire_11 rfl bI_01 ?_
  exact h
theorem y_isMessage {c : Int} (hd : 1 ≤ d) (hc : 0 ≤ I 100 13 ∧ I 100 13 ≤ 100) : SP g d mX12_isMessage 0 0 [vr 100, vi c] (shX nm no) (RX nm no) I (some (vi (bI (0 ≤ c ∧ c ≤ I 100 13 - 1)))) (shX nm no) (RX nm no) I := by
  intro Q h
  refine C_of rfl (Nat.le_of_ble_eq_true rfl) rfl ?_
  refine m_iload_n dX12_isMessage_0 rfl ?_
  refine m_iconst dX12_isMessage_1 (by decide) ?_
  refine m_aload_n dX12_isMessage_2 rfl ?_
  refine m_gi (z := 13) dX12_isMessage_3 fl_X12_130 oX_100 rfl rfl ?_
  refine m_iconst dX12_isMessage_6 (by decide) ?_
  refine m_isub dX12_isMessage_7 (by omega) ?_
  refine m_Si [_, _, _] dX12_isMessage_8 lk_X12_123 rfl rfl (Nat.le_of_ble_eq_true rfl) (by omega) y_in ?_
  refine m_zret dX12_isMessage_11 rfl bI_01 ?_
  exact h
theorem y_isRow {c : Int} (hd : 1 ≤ d) (hc : 0 ≤ I 100 41 ∧ I 100 41 ≤ 100) : SP g d mX12_isRow 0 0 [vr 100, vi c] (shX nm no) (RX nm no) I (some (vi (bI (0 ≤ c ∧ c ≤ I 100 41 - 1)))) (shX nm no) (RX nm no) I := by
  intro Q h
  refine C_of rfl (Nat.le_of_ble_eq_true rfl) rfl ?_
  refine m_iload_n dX12_isRow_0 rfl ?_
  refine m_iconst dX12_isRow_1 (by decide) ?_
  refine m_aload_n dX12_isRow_2 rfl ?_
  refine m_gi (z := 41) dX12_isRow_3 fl_X12_327 oX_100 rfl rfl ?_
  refine m_iconst dX12_isRow_6 (by decide) ?_
  refine m_isub dX12_isRow_7 (by omega) ?_
  refine m_Si [_, _, _] dX12_isRow_8 lk_X12_123 rfl rfl (Nat.le_of_ble_eq_true rfl) (by omega) y_in ?_
  refine m_zret dX12_isRow_11 rfl bI_01 ?_
  exact h
theorem py_open {o f t : Int} (hd : 2 ≤ d) : SI g d mX12_open [vr 100, vi o, vi f, vi t] (shX nm no) (RX nm no) I (fun r J => r = aOpen o f t ∧ ((r = 1 ∧ J = upI (upI I 101 o f) 102 o t) ∨ (r ≠ 1 ∧ J = I))) := by
  intro Q h
  refine C_of rfl (Nat.le_of_ble_eq_true rfl) rfl ?_
  refine m_iload_n dX12_open_0 rfl ?_
  refine m_Si [_] dX12_open_1 lk_X12_133 rfl rfl (Nat.le_of_ble_eq_true rfl) (by omega) (y_isOffice (by omega)) ?_
  refine m_if_ne (tgt := 10) dX12_open_4 (by decide) (fun c4 => ?_) (fun c4 => ?_)
  · have z4 := bI_ne0 c4
    refine m_iload_n dX12_open_10 rfl ?_
    refine m_iconst dX12_open_11 (by decide) ?_
    refine m_sipush dX12_open_12 rfl (by decide) ?_
    refine m_Si [_, _, _] dX12_open_15 lk_X12_123 rfl rfl (Nat.le_of_ble_eq_true rfl) (by omega) y_in ?_
    refine m_if_eq (tgt := 32) dX12_open_18 (by decide) (fun c18 => ?_) (fun c18 => ?_)
    · have z18 := bI_eq0 c18
      refine m_bipush dX12_open_32 rfl (by decide) ?_
      refine m_iret dX12_open_34 rfl ?_
      exact h _ _ ⟨(by unfold aOpen; repeat' split; all_goals omega), Or.inr ⟨by omega, rfl⟩⟩
    · have z18 := bI_ne0 c18
      refine m_iload_n dX12_open_21 rfl ?_
      refine m_iload_n dX12_open_22 rfl ?_
      refine m_sipush dX12_open_23 rfl (by decide) ?_
      refine m_Si [_, _, _] dX12_open_26 lk_X12_123 rfl rfl (Nat.le_of_ble_eq_true rfl) (by omega) y_in ?_
      refine m_if_ne (tgt := 35) dX12_open_29 (by decide) (fun c29 => ?_) (fun c29 => ?_)
      · have z29 := bI_ne0 c29
        refine m_aload_n dX12_open_35 rfl ?_
        refine m_gr (z := 1) dX12_open_36 fl_X12_7 oX_100 rfl rfl rX_100_1 ?_
        refine m_iload_n dX12_open_39 rfl ?_
        refine m_iload_n dX12_open_40 rfl ?_
        refine m_iast dX12_open_41 sX_101 (by omega) (by omega) ?_
        refine m_aload_n dX12_open_42 rfl ?_
        refine m_gr (z := 2) dX12_open_43 fl_X12_13 oX_100 rfl rfl rX_100_2 ?_
        refine m_iload_n dX12_open_46 rfl ?_
        refine m_iload_n dX12_open_47 rfl ?_
        refine m_iast dX12_open_48 sX_102 (by omega) (by omega) ?_
        refine m_iconst dX12_open_49 (by decide) ?_
        refine m_iret dX12_open_50 rfl ?_
        exact h _ _ ⟨(by unfold aOpen; repeat' split; all_goals omega), Or.inl ⟨rfl, rfl⟩⟩
      · have z29 := bI_eq0 (show _ = (0 : Int) by omega)
        refine m_bipush dX12_open_32 rfl (by decide) ?_
        refine m_iret dX12_open_34 rfl ?_
        exact h _ _ ⟨(by unfold aOpen; repeat' split; all_goals omega), Or.inr ⟨by omega, rfl⟩⟩
  · have z4 := bI_eq0 (show _ = (0 : Int) by omega)
    refine m_bipush dX12_open_7 rfl (by decide) ?_
    refine m_iret dX12_open_9 rfl ?_
    exact h _ _ ⟨(by unfold aOpen; repeat' split; all_goals omega), Or.inr ⟨by omega, rfl⟩⟩
theorem y_otherEnd {v o : Int} (hv : 0 ≤ v ∧ v < 12) : SP g d mX12_otherEnd 0 0 [vr 100, vi v, vi o] (shX nm no) (RX nm no) I (some (vi (othF (I 103) (I 104) v o))) (shX nm no) (RX nm no) I := by
  intro Q h
  refine C_of rfl (Nat.le_of_ble_eq_true rfl) rfl ?_
  refine m_aload_n dX12_otherEnd_0 rfl ?_
  refine m_gr (z := 4) dX12_otherEnd_1 fl_X12_16 oX_100 rfl rfl rX_100_4 ?_
  refine m_iload_n dX12_otherEnd_4 rfl ?_
  refine m_iald dX12_otherEnd_5 sX_103 (by omega) (by omega) ?_
  refine m_iload_n dX12_otherEnd_6 rfl ?_
  refine m_icmp_ne (tgt := 19) dX12_otherEnd_7 (by decide) (fun c7 => ?_) (fun c7 => ?_)
  · refine m_aload_n dX12_otherEnd_19 rfl ?_
    refine m_gr (z := 4) dX12_otherEnd_20 fl_X12_16 oX_100 rfl rfl rX_100_4 ?_
    refine m_iload_n dX12_otherEnd_23 rfl ?_
    refine m_iald dX12_otherEnd_24 sX_103 (by omega) (by omega) ?_
    refine m_iret dX12_otherEnd_25 rfl ?_
    unfold othF at h
    first | (rw [if_pos (by omega)] at h; exact h) | (rw [if_neg (by omega)] at h; exact h)
  · refine m_aload_n dX12_otherEnd_10 rfl ?_
    refine m_gr (z := 5) dX12_otherEnd_11 fl_X12_19 oX_100 rfl rfl rX_100_5 ?_
    refine m_iload_n dX12_otherEnd_14 rfl ?_
    refine m_iald dX12_otherEnd_15 sX_104 (by omega) (by omega) ?_
    refine m_goto (tgt := 25) dX12_otherEnd_16 (by decide) ?_
    refine m_iret dX12_otherEnd_25 rfl ?_
    unfold othF at h
    first | (rw [if_pos (by omega)] at h; exact h) | (rw [if_neg (by omega)] at h; exact h)
theorem y_isAt {v o : Int} (hv : 0 ≤ v ∧ v < 12) : SP g d mX12_isAt 0 0 [vr 100, vi v, vi o] (shX nm no) (RX nm no) I (some (vi (bI (I 103 v = o ∨ I 104 v = o)))) (shX nm no) (RX nm no) I := by
  intro Q h
  refine C_of rfl (Nat.le_of_ble_eq_true rfl) rfl ?_
  refine m_aload_n dX12_isAt_0 rfl ?_
  refine m_gr (z := 4) dX12_isAt_1 fl_X12_16 oX_100 rfl rfl rX_100_4 ?_
  refine m_iload_n dX12_isAt_4 rfl ?_
  refine m_iald dX12_isAt_5 sX_103 (by omega) (by omega) ?_
  refine m_iload_n dX12_isAt_6 rfl ?_
  refine m_icmp_eq (tgt := 20) dX12_isAt_7 (by decide) (fun c7 => ?_) (fun c7 => ?_)
  · refine m_iconst dX12_isAt_20 (by decide) ?_
    refine m_goto (tgt := 25) dX12_isAt_21 (by decide) ?_
    refine m_zret dX12_isAt_25 rfl (by omega) ?_
    rw [bI_t (by omega)] at h; exact h
  · refine m_aload_n dX12_isAt_10 rfl ?_
    refine m_gr (z := 5) dX12_isAt_11 fl_X12_19 oX_100 rfl rfl rX_100_5 ?_
    refine m_iload_n dX12_isAt_14 rfl ?_
    refine m_iald dX12_isAt_15 sX_104 (by omega) (by omega) ?_
    refine m_iload_n dX12_isAt_16 rfl ?_
    refine m_icmp_ne (tgt := 24) dX12_isAt_17 (by decide) (fun c17 => ?_) (fun c17 => ?_)
    · refine m_iconst dX12_isAt_24 (by decide) ?_
      refine m_zret dX12_isAt_25 rfl (by omega) ?_
      rw [bI_f (by omega)] at h; exact h
    · refine m_iconst dX12_isAt_20 (by decide) ?_
      refine m_goto (tgt := 25) dX12_isAt_21 (by decide) ?_
      refine m_zret dX12_isAt_25 rfl (by omega) ?_
      rw [bI_t (by omega)] at h; exact h
theorem y_takes {v n : Int} (hv : 0 ≤ v ∧ v < 12) (hs : 1 ≤ I 105 v ∧ I 105 v ≤ 40) (hn : 1 ≤ n ∧ n ≤ 1000) : SP g d mX12_takes 0 0 [vr 100, vi v, vi n] (shX nm no) (RX nm no) I (some (vi ((n + I 105 v - 1) / I 105 v))) (shX nm no) (RX nm no) I := by
  intro Q h
  refine C_of rfl (Nat.le_of_ble_eq_true rfl) rfl ?_
  refine m_iload_n dX12_takes_0 rfl ?_
  refine m_aload_n dX12_takes_1 rfl ?_
  refine m_gr (z := 6) dX12_takes_2 fl_X12_22 oX_100 rfl rfl rX_100_6 ?_
  refine m_iload_n dX12_takes_5 rfl ?_
  refine m_iald dX12_takes_6 sX_105 (by omega) (by omega) ?_
  refine m_iadd dX12_takes_7 (by omega) ?_
  refine m_iconst dX12_takes_8 (by decide) ?_
  refine m_isub dX12_takes_9 (by omega) ?_
  refine m_aload_n dX12_takes_10 rfl ?_
  refine m_gr (z := 6) dX12_takes_11 fl_X12_22 oX_100 rfl rfl rX_100_6 ?_
  refine m_iload_n dX12_takes_14 rfl ?_
  refine m_iald dX12_takes_15 sX_105 (by omega) (by omega) ?_
  refine m_idiv dX12_takes_16 (by omega) (by omega) ?_
  refine m_iret dX12_takes_17 rfl ?_
  exact h
theorem y_isOpen {v t : Int} (hd : 1 ≤ d) (hv : 0 ≤ v ∧ v < 8) (ht : 0 ≤ t) : SP g d mX12_isOpen 0 0 [vr 100, vi v, vi t] (shX nm no) (RX nm no) I (some (vi (bI (I 101 v ≤ t % 1440 ∧ t % 1440 ≤ I 102 v)))) (shX nm no) (RX nm no) I := by
  intro Q h
  refine C_of rfl (Nat.le_of_ble_eq_true rfl) rfl ?_
  refine m_iload_n dX12_isOpen_0 rfl ?_
  refine m_sipush dX12_isOpen_1 rfl (by decide) ?_
  refine m_irem dX12_isOpen_4 (by omega) (by omega) ?_
  refine m_aload_n dX12_isOpen_5 rfl ?_
  refine m_gr (z := 1) dX12_isOpen_6 fl_X12_7 oX_100 rfl rfl rX_100_1 ?_
  refine m_iload_n dX12_isOpen_9 rfl ?_
  refine m_iald dX12_isOpen_10 sX_101 (by omega) (by omega) ?_
  refine m_aload_n dX12_isOpen_11 rfl ?_
  refine m_gr (z := 2) dX12_isOpen_12 fl_X12_13 oX_100 rfl rfl rX_100_2 ?_
  refine m_iload_n dX12_isOpen_15 rfl ?_
  refine m_iald dX12_isOpen_16 sX_102 (by omega) (by omega) ?_
  refine m_Si [_, _, _] dX12_isOpen_17 lk_X12_123 rfl rfl (Nat.le_of_ble_eq_true rfl) (by omega) y_in ?_
  refine m_zret dX12_isOpen_20 rfl bI_01 ?_
  exact h
theorem y_joins_loop {a b : Int} {Q : QT} (hc : 0 ≤ I 100 3 ∧ I 100 3 ≤ 12) (h : ∀ r, (r = -1 ∧ ¬ jnP (I 100 3) (I 103) (I 104) a b) ∨ (0 ≤ r ∧ jnP (I 100 3) (I 103) (I 104) a b) → Q (some (vi r)) (shX nm no) (RX nm no) I) : ∀ (n : Nat) (i : Int), (I 100 3 - i).toNat < n → 0 ≤ i → i ≤ I 100 3 → (∀ v, 0 ≤ v → v < i → ¬ ((I 103 v = a ∧ I 104 v = b) ∨ (I 103 v = b ∧ I 104 v = a))) → T g d mX12_joins 0 0 2 [some (vr 100), some (vi a), some (vi b), some (vi i)] [] (shX nm no) (RX nm no) I Q := by
  intro n
  induction n with
  | zero => intro i hk; omega
  | succ n ih =>
    intro i hk h0 h1 hno
    refine m_iload_n dX12_joins_2 rfl ?_
    refine m_aload_n dX12_joins_3 rfl ?_
    refine m_gi (z := 3) dX12_joins_4 fl_X12_127 oX_100 rfl rfl ?_
    refine m_icmp_ge (tgt := 58) dX12_joins_7 (by decide) (fun c7 => ?_) (fun c7 => ?_)
    · refine m_iconst dX12_joins_58 (by decide) ?_
      refine m_iret dX12_joins_59 rfl ?_
      exact h _ (Or.inl ⟨rfl, fun ⟨v, v0, v1, v2⟩ => hno v v0 (by omega) v2⟩)
    · refine m_aload_n dX12_joins_10 rfl ?_
      refine m_gr (z := 4) dX12_joins_11 fl_X12_16 oX_100 rfl rfl rX_100_4 ?_
      refine m_iload_n dX12_joins_14 rfl ?_
      refine m_iald dX12_joins_15 sX_103 (by omega) (by omega) ?_
      refine m_iload_n dX12_joins_16 rfl ?_
      refine m_icmp_ne (tgt := 30) dX12_joins_17 (by decide) (fun c17 => ?_) (fun c17 => ?_)
      · refine m_aload_n dX12_joins_30 rfl ?_
        refine m_gr (z := 4) dX12_joins_31 fl_X12_16 oX_100 rfl rfl rX_100_4 ?_
        refine m_iload_n dX12_joins_34 rfl ?_
        refine m_iald dX12_joins_35 sX_103 (by omega) (by omega) ?_
        refine m_iload_n dX12_joins_36 rfl ?_
        refine m_icmp_ne (tgt := 52) dX12_joins_37 (by decide) (fun c37 => ?_) (fun c37 => ?_)
        · refine m_iinc dX12_joins_52 rfl (by decide) rfl rfl (by omega) ?_
          refine m_goto (tgt := 2) dX12_joins_55 (by decide) ?_
          refine ih (i + 1) (by omega) (by omega) (by omega) (fun v v0 v1 => ?_)
          rcases (show v < i ∨ v = i by omega) with z | z
          · exact hno v v0 z
          · subst z; omega
        · refine m_aload_n dX12_joins_40 rfl ?_
          refine m_gr (z := 5) dX12_joins_41 fl_X12_19 oX_100 rfl rfl rX_100_5 ?_
          refine m_iload_n dX12_joins_44 rfl ?_
          refine m_iald dX12_joins_45 sX_104 (by omega) (by omega) ?_
          refine m_iload_n dX12_joins_46 rfl ?_
          refine m_icmp_ne (tgt := 52) dX12_joins_47 (by decide) (fun c47 => ?_) (fun c47 => ?_)
          · refine m_iinc dX12_joins_52 rfl (by decide) rfl rfl (by omega) ?_
            refine m_goto (tgt := 2) dX12_joins_55 (by decide) ?_
            refine ih (i + 1) (by omega) (by omega) (by omega) (fun v v0 v1 => ?_)
            rcases (show v < i ∨ v = i by omega) with z | z
            · exact hno v v0 z
            · subst z; omega
          · refine m_iload_n dX12_joins_50 rfl ?_
            refine m_iret dX12_joins_51 rfl ?_
            exact h _ (Or.inr ⟨h0, i, h0, by omega, by omega⟩)
      · refine m_aload_n dX12_joins_20 rfl ?_
        refine m_gr (z := 5) dX12_joins_21 fl_X12_19 oX_100 rfl rfl rX_100_5 ?_
        refine m_iload_n dX12_joins_24 rfl ?_
        refine m_iald dX12_joins_25 sX_104 (by omega) (by omega) ?_
        refine m_iload_n dX12_joins_26 rfl ?_
        refine m_icmp_eq (tgt := 50) dX12_joins_27 (by decide) (fun c27 => ?_) (fun c27 => ?_)
        · refine m_iload_n dX12_joins_50 rfl ?_
          refine m_iret dX12_joins_51 rfl ?_
          exact h _ (Or.inr ⟨h0, i, h0, by omega, by omega⟩)
        · refine m_aload_n dX12_joins_30 rfl ?_
          refine m_gr (z := 4) dX12_joins_31 fl_X12_16 oX_100 rfl rfl rX_100_4 ?_
          refine m_iload_n dX12_joins_34 rfl ?_
          refine m_iald dX12_joins_35 sX_103 (by omega) (by omega) ?_
          refine m_iload_n dX12_joins_36 rfl ?_
          refine m_icmp_ne (tgt := 52) dX12_joins_37 (by decide) (fun c37 => ?_) (fun c37 => ?_)
          · refine m_iinc dX12_joins_52 rfl (by decide) rfl rfl (by omega) ?_
            refine m_goto (tgt := 2) dX12_joins_55 (by decide) ?_
            refine ih (i + 1) (by omega) (by omega) (by omega) (fun v v0 v1 => ?_)
            rcases (show v < i ∨ v = i by omega) with z | z
            · exact hno v v0 z
            · subst z; omega
          · refine m_aload_n dX12_joins_40 rfl ?_
            refine m_gr (z := 5) dX12_joins_41 fl_X12_19 oX_100 rfl rfl rX_100_5 ?_
            refine m_iload_n dX12_joins_44 rfl ?_
            refine m_iald dX12_joins_45 sX_104 (by omega) (by omega) ?_
            refine m_iload_n dX12_joins_46 rfl ?_
            refine m_icmp_ne (tgt := 52) dX12_joins_47 (by decide) (fun c47 => ?_) (fun c47 => ?_)
            · refine m_iinc dX12_joins_52 rfl (by decide) rfl rfl (by omega) ?_
              refine m_goto (tgt := 2) dX12_joins_55 (by decide) ?_
              refine ih (i + 1) (by omega) (by omega) (by omega) (fun v v0 v1 => ?_)
              rcases (show v < i ∨ v = i by omega) with z | z
              · exact hno v v0 z
              · subst z; omega
            · refine m_iload_n dX12_joins_50 rfl ?_
              refine m_iret dX12_joins_51 rfl ?_
              exact h _ (Or.inr ⟨h0, i, h0, by omega, by omega⟩)
theorem y_joins {a b : Int} (hc : 0 ≤ I 100 3 ∧ I 100 3 ≤ 12) : SI g d mX12_joins [vr 100, vi a, vi b] (shX nm no) (RX nm no) I (fun r J => J = I ∧ ((r = -1 ∧ ¬ jnP (I 100 3) (I 103) (I 104) a b) ∨ (0 ≤ r ∧ jnP (I 100 3) (I 103) (I 104) a b))) := by
  intro Q h
  refine C_of rfl (Nat.le_of_ble_eq_true rfl) rfl ?_
  refine m_iconst dX12_joins_0 (by decide) ?_
  refine m_istore_n dX12_joins_1 (by decide) rfl rfl ?_
  exact y_joins_loop hc (fun r q => h r I ⟨rfl, q⟩) _ 0 (Nat.lt_succ_self _) (by omega) (by omega) (fun v v0 v1 => by omega)
theorem py_wire {a b s u : Int} (hd : 2 ≤ d) (hc : 0 ≤ I 100 3 ∧ I 100 3 ≤ 12) (hu : u = 0 ∨ u = 1) : SI g d mX12_wire [vr 100, vi a, vi b, vi s, vi u] (shX nm no) (RX nm no) I (fun r J => r = aWire a b s (I 100 3) (jnP (I 100 3) (I 103) (I 104) a b) ∧ ((0 ≤ r ∧ J = (upI (upI (upI (upI (upI I 103 (I 100 3) a) 104 (I 100 3) b) 105 (I 100 3) s) 106 (I 100 3) u) 100 3 (I 100 3 + 1))) ∨ (r < 0 ∧ J = I))) := by
  intro Q h
  refine C_of rfl (Nat.le_of_ble_eq_true rfl) rfl ?_
  refine m_iload_n dX12_wire_0 rfl ?_
  refine m_Si [_] dX12_wire_1 lk_X12_133 rfl rfl (Nat.le_of_ble_eq_true rfl) (by omega) (y_isOffice (by omega)) ?_
  refine m_if_eq (tgt := 14) dX12_wire_4 (by decide) (fun c4 => ?_) (fun c4 => ?_)
  · have z4 := bI_eq0 c4
    refine m_bipush dX12_wire_14 rfl (by decide) ?_
    refine m_iret dX12_wire_16 rfl ?_
    exact h _ _ ⟨by unfold aWire; rw [if_neg (by omega)], Or.inr ⟨by omega, rfl⟩⟩
  · have z4 := bI_ne0 c4
    refine m_iload_n dX12_wire_7 rfl ?_
    refine m_Si [_] dX12_wire_8 lk_X12_133 rfl rfl (Nat.le_of_ble_eq_true rfl) (by omega) (y_isOffice (by omega)) ?_
    refine m_if_ne (tgt := 17) dX12_wire_11 (by decide) (fun c11 => ?_) (fun c11 => ?_)
    · have z11 := bI_ne0 c11
      refine m_iload_n dX12_wire_17 rfl ?_
      refine m_iload_n dX12_wire_18 rfl ?_
      refine m_icmp_eq (tgt := 32) dX12_wire_19 (by decide) (fun c19 => ?_) (fun c19 => ?_)
      · refine m_bipush dX12_wire_32 rfl (by decide) ?_
        refine m_iret dX12_wire_34 rfl ?_
        exact h _ _ ⟨by unfold aWire; rw [if_pos ⟨z4, z11⟩, if_pos (by omega)], Or.inr ⟨by omega, rfl⟩⟩
      · refine m_iload_n dX12_wire_22 rfl ?_
        refine m_iconst dX12_wire_23 (by decide) ?_
        refine m_bipush dX12_wire_24 rfl (by decide) ?_
        refine m_Si [_, _, _] dX12_wire_26 lk_X12_123 rfl rfl (Nat.le_of_ble_eq_true rfl) (by omega) y_in ?_
        refine m_if_ne (tgt := 35) dX12_wire_29 (by decide) (fun c29 => ?_) (fun c29 => ?_)
        · have z29 := bI_ne0 c29
          refine m_aload_n dX12_wire_35 rfl ?_
          refine m_iload_n dX12_wire_36 rfl ?_
          refine m_iload_n dX12_wire_37 rfl ?_
          refine m_VI [_, _] dX12_wire_38 lk_X12_137 rfl oX_100 rfl (Nat.le_of_ble_eq_true rfl) (by omega) (y_joins hc) ?_
          intro r38 I38 q38
          refine m_iconst dX12_wire_41 (by decide) ?_
          obtain ⟨rfl, q38⟩ := q38
          refine m_icmp_eq (tgt := 48) dX12_wire_42 (by decide) (fun c42 => ?_) (fun c42 => ?_)
          · have z44 : ¬ jnP (I38 100 3) (I38 103) (I38 104) a b := (q38.resolve_right (fun z => by omega)).2
            refine m_aload_n dX12_wire_48 rfl ?_
            refine m_gi (z := 3) dX12_wire_49 fl_X12_127 oX_100 rfl rfl ?_
            refine m_bipush dX12_wire_52 rfl (by decide) ?_
            refine m_icmp_ne (tgt := 60) dX12_wire_54 (by decide) (fun c54 => ?_) (fun c54 => ?_)
            · refine m_aload_n dX12_wire_60 rfl ?_
              refine m_gr (z := 4) dX12_wire_61 fl_X12_16 oX_100 rfl rfl rX_100_4 ?_
              refine m_aload_n dX12_wire_64 rfl ?_
              refine m_gi (z := 3) dX12_wire_65 fl_X12_127 oX_100 rfl rfl ?_
              refine m_iload_n dX12_wire_68 rfl ?_
              refine m_iast dX12_wire_69 sX_103 (by omega) (by omega) ?_
              refine m_aload_n dX12_wire_70 rfl ?_
              refine m_gr (z := 5) dX12_wire_71 fl_X12_19 oX_100 rfl rfl rX_100_5 ?_
              refine m_aload_n dX12_wire_74 rfl ?_
              refine m_gi (z := 3) dX12_wire_75 fl_X12_127 oX_100 rfl rfl ?_
              rw [upI_o (show (100 : Nat) ≠ 103 by omega)]
              refine m_iload_n dX12_wire_78 rfl ?_
              refine m_iast dX12_wire_79 sX_104 (by omega) (by omega) ?_
              refine m_aload_n dX12_wire_80 rfl ?_
              refine m_gr (z := 6) dX12_wire_81 fl_X12_22 oX_100 rfl rfl rX_100_6 ?_
              refine m_aload_n dX12_wire_84 rfl ?_
              refine m_gi (z := 3) dX12_wire_85 fl_X12_127 oX_100 rfl rfl ?_
              rw [upI_o (show (100 : Nat) ≠ 104 by omega), upI_o (show (100 : Nat) ≠ 103 by omega)]
              refine m_iload_n dX12_wire_88 rfl ?_
              refine m_iast dX12_wire_89 sX_105 (by omega) (by omega) ?_
              refine m_aload_n dX12_wire_90 rfl ?_
              refine m_gr (z := 7) dX12_wire_91 fl_X12_25 oX_100 rfl rfl rX_100_7 ?_
              refine m_aload_n dX12_wire_94 rfl ?_
              refine m_gi (z := 3) dX12_wire_95 fl_X12_127 oX_100 rfl rfl ?_
              rw [upI_o (show (100 : Nat) ≠ 105 by omega), upI_o (show (100 : Nat) ≠ 104 by omega), upI_o (show (100 : Nat) ≠ 103 by omega)]
              refine m_iload dX12_wire_98 rfl ?_
              refine m_zast dX12_wire_100 sX_106 (by omega) (by omega) (by rcases hu with rfl | rfl <;> decide) ?_
              refine m_aload_n dX12_wire_101 rfl ?_
              refine m_dup dX12_wire_102 (fun _ z => by cases z) ?_
              refine m_gi (z := 3) dX12_wire_103 fl_X12_127 oX_100 rfl rfl ?_
              rw [upI_o (show (100 : Nat) ≠ 106 by omega), upI_o (show (100 : Nat) ≠ 105 by omega), upI_o (show (100 : Nat) ≠ 104 by omega), upI_o (show (100 : Nat) ≠ 103 by omega)]
              refine m_iconst dX12_wire_106 (by decide) ?_
              refine m_iadd dX12_wire_107 (by omega) ?_
              refine m_pi (z := 3) dX12_wire_108 fl_X12_127 oX_100 rfl rfl rfl ?_
              refine m_aload_n dX12_wire_111 rfl ?_
              refine m_gi (z := 3) dX12_wire_112 fl_X12_127 oX_100 rfl rfl ?_
              rw [upI_s]
              refine m_iconst dX12_wire_115 (by decide) ?_
              refine m_isub dX12_wire_116 (by omega) ?_
              refine m_iret dX12_wire_117 rfl ?_
              rw [show I38 100 3 + 1 - 1 = I38 100 3 by omega]
              exact h _ _ ⟨(by unfold aWire; rw [if_pos ⟨z4, z11⟩, if_neg (by omega), cif_f z44, if_neg (by omega)]), Or.inl ⟨hc.1, rfl⟩⟩
            · refine m_bipush dX12_wire_57 rfl (by decide) ?_
              refine m_iret dX12_wire_59 rfl ?_
              exact h _ _ ⟨(by unfold aWire; rw [if_pos ⟨z4, z11⟩, if_neg (by omega), cif_f z44, if_pos (by omega)]), Or.inr ⟨by omega, rfl⟩⟩
          · have z44 : jnP (I38 100 3) (I38 103) (I38 104) a b := (q38.resolve_left (fun z => by omega)).2
            refine m_bipush dX12_wire_45 rfl (by decide) ?_
            refine m_iret dX12_wire_47 rfl ?_
            exact h _ _ ⟨(by unfold aWire; rw [if_pos ⟨z4, z11⟩, if_neg (by omega), cif_t z44]), Or.inr ⟨by omega, rfl⟩⟩
        · have z29 := bI_eq0 (show _ = (0 : Int) by omega)
          refine m_bipush dX12_wire_32 rfl (by decide) ?_
          refine m_iret dX12_wire_34 rfl ?_
          exact h _ _ ⟨by unfold aWire; rw [if_pos ⟨z4, z11⟩, if_pos (by omega)], Or.inr ⟨by omega, rfl⟩⟩
    · have z11 := bI_eq0 (show _ = (0 : Int) by omega)
      refine m_bipush dX12_wire_14 rfl (by decide) ?_
      refine m_iret dX12_wire_16 rfl ?_
      exact h _ _ ⟨by unfold aWire; rw [if_neg (by omega)], Or.inr ⟨by omega, rfl⟩⟩
theorem py_storm {v f t : Int} (hd : 3 ≤ d) (hw : 0 ≤ I 100 3 ∧ I 100 3 ≤ 12) (hc : 0 ≤ I 100 8 ∧ I 100 8 ≤ 12) : SI g d mX12_storm [vr 100, vi v, vi f, vi t] (shX nm no) (RX nm no) I (fun r J => r = aStop v f t (I 100 3) (I 100 0) (I 100 8) 12 ∧ ((0 ≤ r ∧ J = (upI (upI (upI (upI I 107 (3 * I 100 8) v) 107 (3 * I 100 8 + 1) f) 107 (3 * I 100 8 + 2) t) 100 8 (I 100 8 + 1))) ∨ (r < 0 ∧ J = I))) := by
  intro Q h
  refine C_of rfl (Nat.le_of_ble_eq_true rfl) rfl ?_
  refine m_aload_n dX12_storm_0 rfl ?_
  refine m_iload_n dX12_storm_1 rfl ?_
  refine m_Vi [_] dX12_storm_2 lk_X12_141 rfl oX_100 rfl (Nat.le_of_ble_eq_true rfl) (by omega) (y_isWire (by omega) ⟨by omega, by omega⟩) ?_
  refine m_if_ne (tgt := 11) dX12_storm_5 (by decide) (fun c5 => ?_) (fun c5 => ?_)
  · have z5 := bI_ne0 c5
    refine m_iload_n dX12_storm_11 rfl ?_
    refine m_aload_n dX12_storm_12 rfl ?_
    refine m_gi (z := 0) dX12_storm_13 fl_X12_144 oX_100 rfl rfl ?_
    refine m_sipush dX12_storm_16 rfl (by decide) ?_
    refine m_Si [_, _, _] dX12_storm_19 lk_X12_123 rfl rfl (Nat.le_of_ble_eq_true rfl) (by omega) y_in ?_
    refine m_if_eq (tgt := 36) dX12_storm_22 (by decide) (fun c22 => ?_) (fun c22 => ?_)
    · have z22 := bI_eq0 c22
      refine m_bipush dX12_storm_36 rfl (by decide) ?_
      refine m_iret dX12_storm_38 rfl ?_
      exact h _ _ ⟨(by unfold aStop; repeat' split; all_goals omega), Or.inr ⟨by omega, rfl⟩⟩
    · have z22 := bI_ne0 c22
      refine m_iload_n dX12_storm_25 rfl ?_
      refine m_iload_n dX12_storm_26 rfl ?_
      refine m_sipush dX12_storm_27 rfl (by decide) ?_
      refine m_Si [_, _, _] dX12_storm_30 lk_X12_123 rfl rfl (Nat.le_of_ble_eq_true rfl) (by omega) y_in ?_
      refine m_if_ne (tgt := 39) dX12_storm_33 (by decide) (fun c33 => ?_) (fun c33 => ?_)
      · have z33 := bI_ne0 c33
        refine m_aload_n dX12_storm_39 rfl ?_
        refine m_gi (z := 8) dX12_storm_40 fl_X12_147 oX_100 rfl rfl ?_
        refine m_bipush dX12_storm_43 rfl (by decide) ?_
        refine m_icmp_ne (tgt := 51) dX12_storm_45 (by decide) (fun c45 => ?_) (fun c45 => ?_)
        · refine m_aload_n dX12_storm_51 rfl ?_
          refine m_gr (z := 9) dX12_storm_52 fl_X12_29 oX_100 rfl rfl rX_100_9 ?_
          refine m_iconst dX12_storm_55 (by decide) ?_
          refine m_aload_n dX12_storm_56 rfl ?_
          refine m_gi (z := 8) dX12_storm_57 fl_X12_147 oX_100 rfl rfl ?_
          refine m_imul dX12_storm_60 (by omega) ?_
          refine m_iload_n dX12_storm_61 rfl ?_
          refine m_iast dX12_storm_62 sX_107 (by omega) (by omega) ?_
          refine m_aload_n dX12_storm_63 rfl ?_
          refine m_gr (z := 9) dX12_storm_64 fl_X12_29 oX_100 rfl rfl rX_100_9 ?_
          refine m_iconst dX12_storm_67 (by decide) ?_
          refine m_aload_n dX12_storm_68 rfl ?_
          refine m_gi (z := 8) dX12_storm_69 fl_X12_147 oX_100 rfl rfl ?_
          rw [upI_o (show (100 : Nat) ≠ 107 by omega)]
          refine m_imul dX12_storm_72 (by omega) ?_
          refine m_iconst dX12_storm_73 (by decide) ?_
          refine m_iadd dX12_storm_74 (by omega) ?_
          refine m_iload_n dX12_storm_75 rfl ?_
          refine m_iast dX12_storm_76 sX_107 (by omega) (by omega) ?_
          refine m_aload_n dX12_storm_77 rfl ?_
          refine m_gr (z := 9) dX12_storm_78 fl_X12_29 oX_100 rfl rfl rX_100_9 ?_
          refine m_iconst dX12_storm_81 (by decide) ?_
          refine m_aload_n dX12_storm_82 rfl ?_
          refine m_gi (z := 8) dX12_storm_83 fl_X12_147 oX_100 rfl rfl ?_
          rw [upI_o (show (100 : Nat) ≠ 107 by omega), upI_o (show (100 : Nat) ≠ 107 by omega)]
          refine m_imul dX12_storm_86 (by omega) ?_
          refine m_iconst dX12_storm_87 (by decide) ?_
          refine m_iadd dX12_storm_88 (by omega) ?_
          refine m_iload_n dX12_storm_89 rfl ?_
          refine m_iast dX12_storm_90 sX_107 (by omega) (by omega) ?_
          refine m_aload_n dX12_storm_91 rfl ?_
          refine m_dup dX12_storm_92 (fun _ z => by cases z) ?_
          refine m_gi (z := 8) dX12_storm_93 fl_X12_147 oX_100 rfl rfl ?_
          rw [upI_o (show (100 : Nat) ≠ 107 by omega), upI_o (show (100 : Nat) ≠ 107 by omega), upI_o (show (100 : Nat) ≠ 107 by omega)]
          refine m_iconst dX12_storm_96 (by decide) ?_
          refine m_iadd dX12_storm_97 (by omega) ?_
          refine m_pi (z := 8) dX12_storm_98 fl_X12_147 oX_100 rfl rfl rfl ?_
          refine m_aload_n dX12_storm_101 rfl ?_
          refine m_gi (z := 8) dX12_storm_102 fl_X12_147 oX_100 rfl rfl ?_
          rw [upI_s]
          refine m_iret dX12_storm_105 rfl ?_
          exact h _ _ ⟨(by unfold aStop; repeat' split; all_goals omega), Or.inl ⟨by omega, rfl⟩⟩
        · refine m_bipush dX12_storm_48 rfl (by decide) ?_
          refine m_iret dX12_storm_50 rfl ?_
          exact h _ _ ⟨(by unfold aStop; repeat' split; all_goals omega), Or.inr ⟨by omega, rfl⟩⟩
      · have z33 := bI_eq0 (show _ = (0 : Int) by omega)
        refine m_bipush dX12_storm_36 rfl (by decide) ?_
        refine m_iret dX12_storm_38 rfl ?_
        exact h _ _ ⟨(by unfold aStop; repeat' split; all_goals omega), Or.inr ⟨by omega, rfl⟩⟩
  · have z5 := bI_eq0 (show _ = (0 : Int) by omega)
    refine m_bipush dX12_storm_8 rfl (by decide) ?_
    refine m_iret dX12_storm_10 rfl ?_
    exact h _ _ ⟨(by unfold aStop; repeat' split; all_goals omega), Or.inr ⟨by omega, rfl⟩⟩
theorem py_let {v f t : Int} (hd : 3 ≤ d) (hw : 0 ≤ I 100 3 ∧ I 100 3 ≤ 12) (hc : 0 ≤ I 100 10 ∧ I 100 10 ≤ 6) : SI g d mX12_let [vr 100, vi v, vi f, vi t] (shX nm no) (RX nm no) I (fun r J => r = aStop v f t (I 100 3) (I 100 0) (I 100 10) 6 ∧ ((0 ≤ r ∧ J = (upI (upI (upI (upI I 108 (3 * I 100 10) v) 108 (3 * I 100 10 + 1) f) 108 (3 * I 100 10 + 2) t) 100 10 (I 100 10 + 1))) ∨ (r < 0 ∧ J = I))) := by
  intro Q h
  refine C_of rfl (Nat.le_of_ble_eq_true rfl) rfl ?_
  refine m_aload_n dX12_let_0 rfl ?_
  refine m_iload_n dX12_let_1 rfl ?_
  refine m_Vi [_] dX12_let_2 lk_X12_141 rfl oX_100 rfl (Nat.le_of_ble_eq_true rfl) (by omega) (y_isWire (by omega) ⟨by omega, by omega⟩) ?_
  refine m_if_ne (tgt := 11) dX12_let_5 (by decide) (fun c5 => ?_) (fun c5 => ?_)
  · have z5 := bI_ne0 c5
    refine m_iload_n dX12_let_11 rfl ?_
    refine m_aload_n dX12_let_12 rfl ?_
    refine m_gi (z := 0) dX12_let_13 fl_X12_144 oX_100 rfl rfl ?_
    refine m_sipush dX12_let_16 rfl (by decide) ?_
    refine m_Si [_, _, _] dX12_let_19 lk_X12_123 rfl rfl (Nat.le_of_ble_eq_true rfl) (by omega) y_in ?_
    refine m_if_eq (tgt := 36) dX12_let_22 (by decide) (fun c22 => ?_) (fun c22 => ?_)
    · have z22 := bI_eq0 c22
      refine m_bipush dX12_let_36 rfl (by decide) ?_
      refine m_iret dX12_let_38 rfl ?_
      exact h _ _ ⟨(by unfold aStop; repeat' split; all_goals omega), Or.inr ⟨by omega, rfl⟩⟩
    · have z22 := bI_ne0 c22
      refine m_iload_n dX12_let_25 rfl ?_
      refine m_iload_n dX12_let_26 rfl ?_
      refine m_sipush dX12_let_27 rfl (by decide) ?_
      refine m_Si [_, _, _] dX12_let_30 lk_X12_123 rfl rfl (Nat.le_of_ble_eq_true rfl) (by omega) y_in ?_
      refine m_if_ne (tgt := 39) dX12_let_33 (by decide) (fun c33 => ?_) (fun c33 => ?_)
      · have z33 := bI_ne0 c33
        refine m_aload_n dX12_let_39 rfl ?_
        refine m_gi (z := 10) dX12_let_40 fl_X12_150 oX_100 rfl rfl ?_
        refine m_bipush dX12_let_43 rfl (by decide) ?_
        refine m_icmp_ne (tgt := 51) dX12_let_45 (by decide) (fun c45 => ?_) (fun c45 => ?_)
        · refine m_aload_n dX12_let_51 rfl ?_
          refine m_gr (z := 11) dX12_let_52 fl_X12_32 oX_100 rfl rfl rX_100_11 ?_
          refine m_iconst dX12_let_55 (by decide) ?_
          refine m_aload_n dX12_let_56 rfl ?_
          refine m_gi (z := 10) dX12_let_57 fl_X12_150 oX_100 rfl rfl ?_
          refine m_imul dX12_let_60 (by omega) ?_
          refine m_iload_n dX12_let_61 rfl ?_
          refine m_iast dX12_let_62 sX_108 (by omega) (by omega) ?_
          refine m_aload_n dX12_let_63 rfl ?_
          refine m_gr (z := 11) dX12_let_64 fl_X12_32 oX_100 rfl rfl rX_100_11 ?_
          refine m_iconst dX12_let_67 (by decide) ?_
          refine m_aload_n dX12_let_68 rfl ?_
          refine m_gi (z := 10) dX12_let_69 fl_X12_150 oX_100 rfl rfl ?_
          rw [upI_o (show (100 : Nat) ≠ 108 by omega)]
          refine m_imul dX12_let_72 (by omega) ?_
          refine m_iconst dX12_let_73 (by decide) ?_
          refine m_iadd dX12_let_74 (by omega) ?_
          refine m_iload_n dX12_let_75 rfl ?_
          refine m_iast dX12_let_76 sX_108 (by omega) (by omega) ?_
          refine m_aload_n dX12_let_77 rfl ?_
          refine m_gr (z := 11) dX12_let_78 fl_X12_32 oX_100 rfl rfl rX_100_11 ?_
          refine m_iconst dX12_let_81 (by decide) ?_
          refine m_aload_n dX12_let_82 rfl ?_
          refine m_gi (z := 10) dX12_let_83 fl_X12_150 oX_100 rfl rfl ?_
          rw [upI_o (show (100 : Nat) ≠ 108 by omega), upI_o (show (100 : Nat) ≠ 108 by omega)]
          refine m_imul dX12_let_86 (by omega) ?_
          refine m_iconst dX12_let_87 (by decide) ?_
          refine m_iadd dX12_let_88 (by omega) ?_
          refine m_iload_n dX12_let_89 rfl ?_
          refine m_iast dX12_let_90 sX_108 (by omega) (by omega) ?_
          refine m_aload_n dX12_let_91 rfl ?_
          refine m_dup dX12_let_92 (fun _ z => by cases z) ?_
          refine m_gi (z := 10) dX12_let_93 fl_X12_150 oX_100 rfl rfl ?_
          rw [upI_o (show (100 : Nat) ≠ 108 by omega), upI_o (show (100 : Nat) ≠ 108 by omega), upI_o (show (100 : Nat) ≠ 108 by omega)]
          refine m_iconst dX12_let_96 (by decide) ?_
          refine m_iadd dX12_let_97 (by omega) ?_
          refine m_pi (z := 10) dX12_let_98 fl_X12_150 oX_100 rfl rfl rfl ?_
          refine m_aload_n dX12_let_101 rfl ?_
          refine m_gi (z := 10) dX12_let_102 fl_X12_150 oX_100 rfl rfl ?_
          rw [upI_s]
          refine m_iret dX12_let_105 rfl ?_
          exact h _ _ ⟨(by unfold aStop; repeat' split; all_goals omega), Or.inl ⟨by omega, rfl⟩⟩
        · refine m_bipush dX12_let_48 rfl (by decide) ?_
          refine m_iret dX12_let_50 rfl ?_
          exact h _ _ ⟨(by unfold aStop; repeat' split; all_goals omega), Or.inr ⟨by omega, rfl⟩⟩
      · have z33 := bI_eq0 (show _ = (0 : Int) by omega)
        refine m_bipush dX12_let_36 rfl (by decide) ?_
        refine m_iret dX12_let_38 rfl ?_
        exact h _ _ ⟨(by unfold aStop; repeat' split; all_goals omega), Or.inr ⟨by omega, rfl⟩⟩
  · have z5 := bI_eq0 (show _ = (0 : Int) by omega)
    refine m_bipush dX12_let_8 rfl (by decide) ?_
    refine m_iret dX12_let_10 rfl ?_
    exact h _ _ ⟨(by unfold aStop; repeat' split; all_goals omega), Or.inr ⟨by omega, rfl⟩⟩
theorem py_lag {v : Int} (hd : 1 ≤ d) : SI g d mX12_lag [vr 100, vi v] (shX nm no) (RX nm no) I (fun r J => r = aLag v (I 100 26) ∧ (((0 ≤ v ∧ v ≤ 99) ∧ J = upI I 100 26 v) ∨ (¬ (0 ≤ v ∧ v ≤ 99) ∧ J = I))) := by
  intro Q h
  refine C_of rfl (Nat.le_of_ble_eq_true rfl) rfl ?_
  refine m_iload_n dX12_lag_0 rfl ?_
  refine m_iconst dX12_lag_1 (by decide) ?_
  refine m_bipush dX12_lag_2 rfl (by decide) ?_
  refine m_Si [_, _, _] dX12_lag_4 lk_X12_123 rfl rfl (Nat.le_of_ble_eq_true rfl) (by omega) y_in ?_
  refine m_if_ne (tgt := 13) dX12_lag_7 (by decide) (fun c7 => ?_) (fun c7 => ?_)
  · have z7 := bI_ne0 c7
    refine m_aload_n dX12_lag_13 rfl ?_
    refine m_gi (z := 26) dX12_lag_14 fl_X12_54 oX_100 rfl rfl ?_
    refine m_istore_n dX12_lag_17 (by decide) rfl rfl ?_
    refine m_aload_n dX12_lag_18 rfl ?_
    refine m_iload_n dX12_lag_19 rfl ?_
    refine m_pi (z := 26) dX12_lag_20 fl_X12_54 oX_100 rfl rfl rfl ?_
    refine m_iload_n dX12_lag_23 rfl ?_
    refine m_iret dX12_lag_24 rfl ?_
    exact h _ _ ⟨(by unfold aLag; repeat' split; all_goals omega), Or.inl ⟨z7, rfl⟩⟩
  · have z7 := bI_eq0 (show _ = (0 : Int) by omega)
    refine m_bipush dX12_lag_10 rfl (by decide) ?_
    refine m_iret dX12_lag_12 rfl ?_
    exact h _ _ ⟨(by unfold aLag; repeat' split; all_goals omega), Or.inr ⟨z7, rfl⟩⟩
theorem py_erase : SP g d mX12_erase 0 0 [vr 100] (shX nm no) (RX nm no) I (some (vi (I 100 18))) (shX nm no) (RX nm no) (upI I 100 18 0) := by
  intro Q h
  refine C_of rfl (Nat.le_of_ble_eq_true rfl) rfl ?_
  refine m_aload_n dX12_erase_0 rfl ?_
  refine m_gi (z := 18) dX12_erase_1 fl_X12_224 oX_100 rfl rfl ?_
  refine m_istore_n dX12_erase_4 (by decide) rfl rfl ?_
  refine m_aload_n dX12_erase_5 rfl ?_
  refine m_iconst dX12_erase_6 (by decide) ?_
  refine m_pi (z := 18) dX12_erase_7 fl_X12_224 oX_100 rfl rfl rfl ?_
  refine m_iload_n dX12_erase_10 rfl ?_
  refine m_iret dX12_erase_11 rfl ?_
  exact h
def obF (K : Int → Int) (o t : Int) : Nat → Int
  | 0 => -1
  | n + 1 => if K (8 * n + o) ≠ -1 ∧ K (8 * n + o) ≤ t then n else obF K o t n
theorem obF_bd (K : Int → Int) (o t : Int) : ∀ n : Nat, -1 ≤ obF K o t n ∧ obF K o t n < n
  | 0 => by unfold obF; omega
  | n + 1 => by have := obF_bd K o t n; unfold obF; split <;> omega
theorem obF_gb {I : II} {o t : Int} : ∀ n : Nat, (∀ k : Nat, k < n → I 117 (8 * k + o) = I (330 + k) o) → obF (I 117) o t n = gbF I o t n
  | 0, _ => rfl
  | n + 1, h => by
    unfold obF gbF
    rw [obF_gb n (fun k hk => h k (by omega)), h n (by omega)]
theorem y_ordersOf_loop {o t : Int} {nn : Nat} {Q : QT} (hc : I 100 27 = nn) (hn : nn ≤ 6) (ho : 0 ≤ o ∧ o < 8) (h : Q (some (vi (obF (I 117) o t nn))) (shX nm no) (RX nm no) I) : ∀ (k i : Nat), nn - i < k → i ≤ nn → T g d mX12_ordersOf 0 0 5 [some (vr 100), some (vi o), some (vi t), some (vi (obF (I 117) o t i)), some (vi i)] [] (shX nm no) (RX nm no) I Q := by
  intro k
  induction k with
  | zero => intro i hk; omega
  | succ k ih =>
    intro i hk h1
    have hb := obF_bd (I 117) o t i
    have e1 : obF (I 117) o t (i + 1) = if I 117 (8 * i + o) ≠ -1 ∧ I 117 (8 * i + o) ≤ t then (i : Int) else obF (I 117) o t i := rfl
    refine m_iload dX12_ordersOf_5 rfl ?_
    refine m_aload_n dX12_ordersOf_7 rfl ?_
    refine m_gi (z := 27) dX12_ordersOf_8 fl_X12_310 oX_100 rfl rfl ?_
    refine m_icmp_ge (tgt := 59) dX12_ordersOf_11 (by decide) (fun c11 => ?_) (fun c11 => ?_)
    · have ei : i = nn := by omega
      subst ei
      refine m_iload_n dX12_ordersOf_59 rfl ?_
      refine m_iret dX12_ordersOf_60 rfl ?_
      exact h
    · refine m_aload_n dX12_ordersOf_14 rfl ?_
      refine m_gr (z := 32) dX12_ordersOf_15 fl_X12_66 oX_100 rfl rfl rX_100_32 ?_
      refine m_bipush dX12_ordersOf_18 rfl (by decide) ?_
      refine m_iload dX12_ordersOf_20 rfl ?_
      refine m_imul dX12_ordersOf_22 (by omega) ?_
      refine m_iload_n dX12_ordersOf_23 rfl ?_
      refine m_iadd dX12_ordersOf_24 (by omega) ?_
      refine m_iald dX12_ordersOf_25 sX_117 (by omega) (by omega) ?_
      refine m_iconst dX12_ordersOf_26 (by decide) ?_
      refine m_ticmp_eq (tgt := 51) (M := 52) dX12_ordersOf_27 (by decide) (fun c27 hM27 => by
          refine m_iload_n dX12_ordersOf_51 rfl ?_
          exact hM27
        ) (fun c27 hM27 => by
          refine m_aload_n dX12_ordersOf_30 rfl ?_
          refine m_gr (z := 32) dX12_ordersOf_31 fl_X12_66 oX_100 rfl rfl rX_100_32 ?_
          refine m_bipush dX12_ordersOf_34 rfl (by decide) ?_
          refine m_iload dX12_ordersOf_36 rfl ?_
          refine m_imul dX12_ordersOf_38 (by omega) ?_
          refine m_iload_n dX12_ordersOf_39 rfl ?_
          refine m_iadd dX12_ordersOf_40 (by omega) ?_
          refine m_iald dX12_ordersOf_41 sX_117 (by omega) (by omega) ?_
          refine m_iload_n dX12_ordersOf_42 rfl ?_
          refine m_ticmp_gt (tgt := 51) (M := 52) dX12_ordersOf_43 (by decide) (fun c43 hM43 => by
              refine m_iload_n dX12_ordersOf_51 rfl ?_
              exact hM43
            ) (fun c43 hM43 => by
              refine m_iload dX12_ordersOf_46 rfl ?_
              refine m_goto (tgt := 52) dX12_ordersOf_48 (by decide) ?_
              exact hM43
            ) ?_
          exact hM27
        ) ?_
      refine m_top (obF (I 117) o t (i + 1)) (by rw [e1]; repeat' split; all_goals first | rfl | omega) ?_
      refine m_istore_n dX12_ordersOf_52 (by decide) rfl rfl ?_
      refine m_iinc dX12_ordersOf_53 rfl (by decide) rfl rfl (by omega) ?_
      refine m_goto (tgt := 5) dX12_ordersOf_56 (by decide) ?_
      exact ih (i + 1) (by omega) (by omega)
theorem y_ordersOf {o t : Int} {nn : Nat} (hc : I 100 27 = nn) (hn : nn ≤ 6) (ho : 0 ≤ o ∧ o < 8) : SP g d mX12_ordersOf 0 0 [vr 100, vi o, vi t] (shX nm no) (RX nm no) I (some (vi (obF (I 117) o t nn))) (shX nm no) (RX nm no) I := by
  intro Q h
  refine C_of rfl (Nat.le_of_ble_eq_true rfl) rfl ?_
  refine m_iconst dX12_ordersOf_0 (by decide) ?_
  refine m_istore_n dX12_ordersOf_1 (by decide) rfl rfl ?_
  refine m_iconst dX12_ordersOf_2 (by decide) ?_
  refine m_istore dX12_ordersOf_3 (by decide) rfl rfl ?_
  exact y_ordersOf_loop hc hn ho h (nn + 1) 0 (by omega) (by omega)
theorem py_knows {o k : Int} (hd : 2 ≤ d) {nn : Nat} (hc : I 100 27 = nn) (hn : nn ≤ 6) : SP g d mX12_knows 0 0 [vr 100, vi o, vi k] (shX nm no) (RX nm no) I (some (vi (aKnows o k nn (I 117 (8 * k + o))))) (shX nm no) (RX nm no) I := by
  intro Q h
  refine C_of rfl (Nat.le_of_ble_eq_true rfl) rfl ?_
  refine m_iload_n dX12_knows_0 rfl ?_
  refine m_Si [_] dX12_knows_1 lk_X12_133 rfl rfl (Nat.le_of_ble_eq_true rfl) (by omega) (y_isOffice (by omega)) ?_
  refine m_if_eq (tgt := 35) dX12_knows_4 (by decide) (fun c4 => ?_) (fun c4 => ?_)
  · have z4 := bI_eq0 c4
    refine m_bipush dX12_knows_35 rfl (by decide) ?_
    refine m_iret dX12_knows_37 rfl ?_
    unfold aKnows at h
    first | (rw [if_pos (by omega)] at h; exact h) | (rw [if_neg (by omega)] at h; exact h)
  · have z4 := bI_ne0 c4
    refine m_iload_n dX12_knows_7 rfl ?_
    refine m_iconst dX12_knows_8 (by decide) ?_
    refine m_aload_n dX12_knows_9 rfl ?_
    refine m_gi (z := 27) dX12_knows_10 fl_X12_310 oX_100 rfl rfl ?_
    refine m_iconst dX12_knows_13 (by decide) ?_
    refine m_isub dX12_knows_14 (by omega) ?_
    refine m_Si [_, _, _] dX12_knows_15 lk_X12_123 rfl rfl (Nat.le_of_ble_eq_true rfl) (by omega) y_in ?_
    refine m_if_eq (tgt := 35) dX12_knows_18 (by decide) (fun c18 => ?_) (fun c18 => ?_)
    · have z18 := bI_eq0 c18
      refine m_bipush dX12_knows_35 rfl (by decide) ?_
      refine m_iret dX12_knows_37 rfl ?_
      unfold aKnows at h
      first | (rw [if_pos (by omega)] at h; exact h) | (rw [if_neg (by omega)] at h; exact h)
    · have z18 := bI_ne0 c18
      refine m_aload_n dX12_knows_21 rfl ?_
      refine m_gr (z := 32) dX12_knows_22 fl_X12_66 oX_100 rfl rfl rX_100_32 ?_
      refine m_bipush dX12_knows_25 rfl (by decide) ?_
      refine m_iload_n dX12_knows_27 rfl ?_
      refine m_imul dX12_knows_28 (by omega) ?_
      refine m_iload_n dX12_knows_29 rfl ?_
      refine m_iadd dX12_knows_30 (by omega) ?_
      refine m_iald dX12_knows_31 sX_117 (by omega) (by omega) ?_
      refine m_goto (tgt := 37) dX12_knows_32 (by decide) ?_
      refine m_iret dX12_knows_37 rfl ?_
      unfold aKnows at h
      first | (rw [if_pos (by omega)] at h; exact h) | (rw [if_neg (by omega)] at h; exact h)
theorem py_orders {o t : Int} (hd : 2 ≤ d) {nn : Nat} (hc : I 100 27 = nn) (hn : nn ≤ 6) : SP g d mX12_orders 0 0 [vr 100, vi o, vi t] (shX nm no) (RX nm no) I (some (vi (aOrders o t (obF (I 117) o t nn)))) (shX nm no) (RX nm no) I := by
  intro Q h
  refine C_of rfl (Nat.le_of_ble_eq_true rfl) rfl ?_
  refine m_iload_n dX12_orders_0 rfl ?_
  refine m_Si [_] dX12_orders_1 lk_X12_133 rfl rfl (Nat.le_of_ble_eq_true rfl) (by omega) (y_isOffice (by omega)) ?_
  refine m_if_ne (tgt := 10) dX12_orders_4 (by decide) (fun c4 => ?_) (fun c4 => ?_)
  · have z4 := bI_ne0 c4
    refine m_iload_n dX12_orders_10 rfl ?_
    refine m_iconst dX12_orders_11 (by decide) ?_
    refine m_sipush dX12_orders_12 rfl (by decide) ?_
    refine m_Si [_, _, _] dX12_orders_15 lk_X12_123 rfl rfl (Nat.le_of_ble_eq_true rfl) (by omega) y_in ?_
    refine m_if_eq (tgt := 30) dX12_orders_18 (by decide) (fun c18 => ?_) (fun c18 => ?_)
    · have z18 := bI_eq0 c18
      refine m_bipush dX12_orders_30 rfl (by decide) ?_
      refine m_iret dX12_orders_32 rfl ?_
      have e : aOrders o t (obF (I 117) o t nn) = -3 := (by unfold aOrders; repeat' split; all_goals omega)
      rw [e] at h
      exact h
    · have z18 := bI_ne0 c18
      refine m_aload_n dX12_orders_21 rfl ?_
      refine m_iload_n dX12_orders_22 rfl ?_
      refine m_iload_n dX12_orders_23 rfl ?_
      refine m_Vi [_, _] dX12_orders_24 lk_X12_157 rfl oX_100 rfl (Nat.le_of_ble_eq_true rfl) (by omega) (y_ordersOf hc hn ⟨by omega, by omega⟩) ?_
      refine m_goto (tgt := 32) dX12_orders_27 (by decide) ?_
      refine m_iret dX12_orders_32 rfl ?_
      have e : aOrders o t (obF (I 117) o t nn) = obF (I 117) o t nn := (by unfold aOrders; repeat' split; all_goals omega)
      rw [e] at h
      exact h
  · have z4 := bI_eq0 (show _ = (0 : Int) by omega)
    refine m_bipush dX12_orders_7 rfl (by decide) ?_
    refine m_iret dX12_orders_9 rfl ?_
    have e : aOrders o t (obF (I 117) o t nn) = -2 := (by unfold aOrders; repeat' split; all_goals omega)
    rw [e] at h
    exact h
theorem py_at {m k : Int} (hd : 2 ≤ d) (hc : 0 ≤ I 100 13 ∧ I 100 13 ≤ 24) : SP g d mX12_at 0 0 [vr 100, vi m, vi k] (shX nm no) (RX nm no) I (some (vi (aAt m (I 100 13) k (I 110 (6 * m)) (I 110 (6 * m + 1)) (I 110 (6 * m + 2)) (I 110 (6 * m + 4)) (I 110 (6 * m + 5)) (I 109 (6 * m + 5)) (I 109 (6 * m + 4))))) (shX nm no) (RX nm no) I := by
  intro Q h
  refine C_of rfl (Nat.le_of_ble_eq_true rfl) rfl ?_
  refine m_aload_n dX12_at_0 rfl ?_
  refine m_iload_n dX12_at_1 rfl ?_
  refine m_Vi [_] dX12_at_2 lk_X12_213 rfl oX_100 rfl (Nat.le_of_ble_eq_true rfl) (by omega) (y_isMessage (by omega) ⟨by omega, by omega⟩) ?_
  refine m_if_ne (tgt := 11) dX12_at_5 (by decide) (fun c5 => ?_) (fun c5 => ?_)
  · have z5 := bI_ne0 c5
    refine m_bipush dX12_at_11 rfl (by decide) ?_
    refine m_iload_n dX12_at_13 rfl ?_
    refine m_imul dX12_at_14 (by omega) ?_
    refine m_istore_n dX12_at_15 (by decide) rfl rfl ?_
    refine m_iload_n dX12_at_16 rfl ?_
    by_cases e17_0 : k = 0
    · refine m_tableIn (tgt := 60) 0 dX12_at_17 e17_0 (by decide) (by decide) rfl (by decide) ?_
      refine m_aload_n dX12_at_60 rfl ?_
      refine m_gr (z := 15) dX12_at_61 fl_X12_42 oX_100 rfl rfl rX_100_15 ?_
      refine m_iload_n dX12_at_64 rfl ?_
      refine m_iald dX12_at_65 sX_110 (by omega) (by omega) ?_
      refine m_iret dX12_at_66 rfl ?_
      refine Eq.mp (congrArg (fun z => Q (some (vi z)) _ _ _) ?_) h
      unfold aAt
      repeat' split
      all_goals first | rfl | omega
    by_cases e17_1 : k = 1
    · refine m_tableIn (tgt := 67) 1 dX12_at_17 e17_1 (by decide) (by decide) rfl (by decide) ?_
      refine m_aload_n dX12_at_67 rfl ?_
      refine m_gr (z := 15) dX12_at_68 fl_X12_42 oX_100 rfl rfl rX_100_15 ?_
      refine m_iload_n dX12_at_71 rfl ?_
      refine m_iconst dX12_at_72 (by decide) ?_
      refine m_iadd dX12_at_73 (by omega) ?_
      refine m_iald dX12_at_74 sX_110 (by omega) (by omega) ?_
      refine m_iret dX12_at_75 rfl ?_
      refine Eq.mp (congrArg (fun z => Q (some (vi z)) _ _ _) ?_) h
      unfold aAt
      repeat' split
      all_goals first | rfl | omega
    by_cases e17_2 : k = 2
    · refine m_tableIn (tgt := 76) 2 dX12_at_17 e17_2 (by decide) (by decide) rfl (by decide) ?_
      refine m_aload_n dX12_at_76 rfl ?_
      refine m_gr (z := 15) dX12_at_77 fl_X12_42 oX_100 rfl rfl rX_100_15 ?_
      refine m_iload_n dX12_at_80 rfl ?_
      refine m_iconst dX12_at_81 (by decide) ?_
      refine m_iadd dX12_at_82 (by omega) ?_
      refine m_iald dX12_at_83 sX_110 (by omega) (by omega) ?_
      refine m_iret dX12_at_84 rfl ?_
      refine Eq.mp (congrArg (fun z => Q (some (vi z)) _ _ _) ?_) h
      unfold aAt
      repeat' split
      all_goals first | rfl | omega
    by_cases e17_3 : k = 3
    · refine m_tableIn (tgt := 85) 3 dX12_at_17 e17_3 (by decide) (by decide) rfl (by decide) ?_
      refine m_aload_n dX12_at_85 rfl ?_
      refine m_gr (z := 15) dX12_at_86 fl_X12_42 oX_100 rfl rfl rX_100_15 ?_
      refine m_iload_n dX12_at_89 rfl ?_
      refine m_iconst dX12_at_90 (by decide) ?_
      refine m_iadd dX12_at_91 (by omega) ?_
      refine m_iald dX12_at_92 sX_110 (by omega) (by omega) ?_
      refine m_iret dX12_at_93 rfl ?_
      refine Eq.mp (congrArg (fun z => Q (some (vi z)) _ _ _) ?_) h
      unfold aAt
      repeat' split
      all_goals first | rfl | omega
    by_cases e17_4 : k = 4
    · refine m_tableIn (tgt := 94) 4 dX12_at_17 e17_4 (by decide) (by decide) rfl (by decide) ?_
      refine m_aload_n dX12_at_94 rfl ?_
      refine m_gr (z := 15) dX12_at_95 fl_X12_42 oX_100 rfl rfl rX_100_15 ?_
      refine m_iload_n dX12_at_98 rfl ?_
      refine m_iconst dX12_at_99 (by decide) ?_
      refine m_iadd dX12_at_100 (by omega) ?_
      refine m_iald dX12_at_101 sX_110 (by omega) (by omega) ?_
      refine m_iret dX12_at_102 rfl ?_
      refine Eq.mp (congrArg (fun z => Q (some (vi z)) _ _ _) ?_) h
      unfold aAt
      repeat' split
      all_goals first | rfl | omega
    by_cases e17_5 : k = 5
    · refine m_tableIn (tgt := 103) 5 dX12_at_17 e17_5 (by decide) (by decide) rfl (by decide) ?_
      refine m_aload_n dX12_at_103 rfl ?_
      refine m_gr (z := 14) dX12_at_104 fl_X12_39 oX_100 rfl rfl rX_100_14 ?_
      refine m_iload_n dX12_at_107 rfl ?_
      refine m_iconst dX12_at_108 (by decide) ?_
      refine m_iadd dX12_at_109 (by omega) ?_
      refine m_iald dX12_at_110 sX_109 (by omega) (by omega) ?_
      refine m_iret dX12_at_111 rfl ?_
      refine Eq.mp (congrArg (fun z => Q (some (vi z)) _ _ _) ?_) h
      unfold aAt
      repeat' split
      all_goals first | rfl | omega
    by_cases e17_6 : k = 6
    · refine m_tableIn (tgt := 112) 6 dX12_at_17 e17_6 (by decide) (by decide) rfl (by decide) ?_
      refine m_aload_n dX12_at_112 rfl ?_
      refine m_gr (z := 14) dX12_at_113 fl_X12_39 oX_100 rfl rfl rX_100_14 ?_
      refine m_iload_n dX12_at_116 rfl ?_
      refine m_iconst dX12_at_117 (by decide) ?_
      refine m_iadd dX12_at_118 (by omega) ?_
      refine m_iald dX12_at_119 sX_109 (by omega) (by omega) ?_
      refine m_iret dX12_at_120 rfl ?_
      refine Eq.mp (congrArg (fun z => Q (some (vi z)) _ _ _) ?_) h
      unfold aAt
      repeat' split
      all_goals first | rfl | omega
    refine m_tableOut (tgt := 121) dX12_at_17 (by omega) (by decide) ?_
    refine m_bipush dX12_at_121 rfl (by decide) ?_
    refine m_iret dX12_at_123 rfl ?_
    refine Eq.mp (congrArg (fun z => Q (some (vi z)) _ _ _) ?_) h
    unfold aAt
    repeat' split
    all_goals first | rfl | omega
  · have z5 := bI_eq0 (show _ = (0 : Int) by omega)
    refine m_bipush dX12_at_8 rfl (by decide) ?_
    refine m_iret dX12_at_10 rfl ?_
    refine Eq.mp (congrArg (fun z => Q (some (vi z)) _ _ _) ?_) h
    unfold aAt
    repeat' split
    all_goals first | rfl | omega
end
