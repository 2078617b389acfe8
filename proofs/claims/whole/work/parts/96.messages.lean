/-! MESSAGE: class and reference -/
section
variable {g : GH} {d nm no : Nat} {I : II}
def msA (fr to : Int) : Prop := (0 ≤ fr ∧ fr ≤ 7) ∧ (0 ≤ to ∧ to ≤ 7) ∧ fr ≠ to
def msB (wo kd : Int) : Prop := (1 ≤ wo ∧ wo ≤ 99) ∧ 0 ≤ kd ∧ kd ≤ 4
def msR (fr to wo kd : Int) (op : Prop) (q : Nat) (r : Int) : Prop := (¬ msA fr to ∧ r = -2) ∨ (msA fr to ∧ ¬ msB wo kd ∧ r = -3) ∨ (msA fr to ∧ msB wo kd ∧ ¬ op ∧ r = -4) ∨ (msA fr to ∧ msB wo kd ∧ op ∧ q = 24 ∧ r = -5)
theorem px_message {fr to wo kd : Int} (hd : 5 ≤ d) (hm : nm ≤ 24) (hL : LawI I no) (h4 : I 43 4 = nm) (ht : 0 ≤ I 43 5) : ∀ Q : QT, (∀ r, msR fr to wo kd (I 22 fr ≤ I 43 5 % 1440 ∧ I 43 5 % 1440 ≤ I 23 fr) nm r → Q (some (vi r)) (shX nm no) (RX nm no) I) → (∀ J, msA fr to → msB wo kd → (I 22 fr ≤ I 43 5 % 1440 ∧ I 43 5 % 1440 ≤ I 23 fr) → nm < 24 → HIP nm no fr to wo kd I J → Q (some (vi nm)) (shX (nm + 1) no) (RX (nm + 1) no) J) → C g d mX11_message 2 30 [vr 20, vi fr, vi to, vi wo, vi kd] (shX nm no) (RX nm no) I Q := by
  intro Q h hh
  refine C_of rfl (Nat.le_of_ble_eq_true rfl) rfl ?_
  refine m_iload_n dX11_message_0 rfl ?_
  refine m_Si [_] dX11_message_1 lk_X11_67 rfl rfl (Nat.le_of_ble_eq_true rfl) (by omega) (x_isOffice (by omega)) ?_
  refine m_if_eq (tgt := 19) dX11_message_4 (by decide) (fun c4 => ?_) (fun c4 => ?_)
  · have z4 := bI_eq0 c4
    refine m_bipush dX11_message_19 rfl (by decide) ?_
    refine m_iret dX11_message_21 rfl ?_
    exact h _ (Or.inl ⟨fun z => by unfold msA at z; omega, rfl⟩)
  · have z4 := bI_ne0 c4
    refine m_iload_n dX11_message_7 rfl ?_
    refine m_Si [_] dX11_message_8 lk_X11_67 rfl rfl (Nat.le_of_ble_eq_true rfl) (by omega) (x_isOffice (by omega)) ?_
    refine m_if_eq (tgt := 19) dX11_message_11 (by decide) (fun c11 => ?_) (fun c11 => ?_)
    · have z11 := bI_eq0 c11
      refine m_bipush dX11_message_19 rfl (by decide) ?_
      refine m_iret dX11_message_21 rfl ?_
      exact h _ (Or.inl ⟨fun z => by unfold msA at z; omega, rfl⟩)
    · have z11 := bI_ne0 c11
      refine m_iload_n dX11_message_14 rfl ?_
      refine m_iload_n dX11_message_15 rfl ?_
      refine m_icmp_ne (tgt := 22) dX11_message_16 (by decide) (fun c16 => ?_) (fun c16 => ?_)
      · have gA : msA fr to := ⟨by omega, by omega, by omega⟩
        refine m_iload_n dX11_message_22 rfl ?_
        refine m_iconst dX11_message_23 (by decide) ?_
        refine m_bipush dX11_message_24 rfl (by decide) ?_
        refine m_Si [_, _, _] dX11_message_26 lk_X11_71 rfl rfl (Nat.le_of_ble_eq_true rfl) (by omega) x_isWithin ?_
        refine m_if_eq (tgt := 42) dX11_message_29 (by decide) (fun c29 => ?_) (fun c29 => ?_)
        · have z29 := bI_eq0 c29
          refine m_bipush dX11_message_42 rfl (by decide) ?_
          refine m_iret dX11_message_44 rfl ?_
          exact h _ (Or.inr (Or.inl ⟨gA, fun z => by unfold msB at z; omega, rfl⟩))
        · have z29 := bI_ne0 c29
          refine m_iload dX11_message_32 rfl ?_
          refine m_iconst dX11_message_34 (by decide) ?_
          refine m_iconst dX11_message_35 (by decide) ?_
          refine m_Si [_, _, _] dX11_message_36 lk_X11_71 rfl rfl (Nat.le_of_ble_eq_true rfl) (by omega) x_isWithin ?_
          refine m_if_ne (tgt := 45) dX11_message_39 (by decide) (fun c39 => ?_) (fun c39 => ?_)
          · have z39 := bI_ne0 c39
            refine m_aload_n dX11_message_45 rfl ?_
            refine m_gr (z := 0) dX11_message_46 fl_X11_10 oX_20 rfl rfl rX_20_0 ?_
            refine m_iload_n dX11_message_49 rfl ?_
            refine m_aload_n dX11_message_50 rfl ?_
            refine m_gr (z := 2) dX11_message_51 fl_X11_28 oX_20 rfl rfl rX_20_2 ?_
            refine m_gi (z := 5) dX11_message_54 fl_X11_105 oX_43 rfl rfl ?_
            refine m_Vi [_, _] dX11_message_57 lk_X11_108 rfl oX_21 rfl (Nat.le_of_ble_eq_true rfl) (by omega) (x_isOpen (by omega) (by omega) ht (by omega)) ?_
            refine m_if_ne (tgt := 66) dX11_message_60 (by decide) (fun c60 => ?_) (fun c60 => ?_)
            · have z60 := bI_ne0 c60
              refine m_aload_n dX11_message_66 rfl ?_
              refine m_gr (z := 2) dX11_message_67 fl_X11_28 oX_20 rfl rfl rX_20_2 ?_
              refine m_gi (z := 4) dX11_message_70 fl_X11_111 oX_43 rfl rfl ?_
              rw [h4]
              refine m_bipush dX11_message_73 rfl (by decide) ?_
              refine m_icmp_ne (tgt := 81) dX11_message_75 (by decide) (fun c75 => ?_) (fun c75 => ?_)
              · refine m_aload_n dX11_message_81 rfl ?_
                refine m_gr (z := 2) dX11_message_82 fl_X11_28 oX_20 rfl rfl rX_20_2 ?_
                refine m_iload_n dX11_message_85 rfl ?_
                refine m_iload_n dX11_message_86 rfl ?_
                refine m_iload_n dX11_message_87 rfl ?_
                refine m_iload dX11_message_88 rfl ?_
                refine m_callV [_, _, _, _] dX11_message_90 lk_X11_114 rfl oX_43 rfl (Nat.le_of_ble_eq_true rfl) (show d - 1 < d by omega) (Nat.le_refl _) (Nat.le_refl _) (x_handIn (by omega) (by omega) hL h4 ⟨by omega, by omega⟩ ⟨by omega, by omega⟩ ⟨by omega, by omega⟩ _ (fun J hJ => ?_))
                exact m_iret dX11_message_93 rfl (hh J gA ⟨by omega, by omega⟩ z60 (by omega) hJ)
              · refine m_bipush dX11_message_78 rfl (by decide) ?_
                refine m_iret dX11_message_80 rfl ?_
                exact h _ (Or.inr (Or.inr (Or.inr ⟨gA, ⟨by omega, by omega⟩, z60, by omega, rfl⟩)))
            · have z60 := bI_eq0 (show _ = (0 : Int) by omega)
              refine m_bipush dX11_message_63 rfl (by decide) ?_
              refine m_iret dX11_message_65 rfl ?_
              exact h _ (Or.inr (Or.inr (Or.inl ⟨gA, ⟨by omega, by omega⟩, z60, rfl⟩)))
          · have z39 := bI_eq0 (show _ = (0 : Int) by omega)
            refine m_bipush dX11_message_42 rfl (by decide) ?_
            refine m_iret dX11_message_44 rfl ?_
            exact h _ (Or.inr (Or.inl ⟨gA, fun z => by unfold msB at z; omega, rfl⟩))
      · refine m_bipush dX11_message_19 rfl (by decide) ?_
        refine m_iret dX11_message_21 rfl ?_
        exact h _ (Or.inl ⟨fun z => by unfold msA at z; omega, rfl⟩)
def MSP (q : Nat) (fr to wo kd pr : Int) (I J : II) : Prop := (∀ x, x ≠ 100 → x ≠ 109 → x ≠ 110 → J x = I x) ∧ (∀ j : Int, j ≠ 13 → J 100 j = I 100 j) ∧ J 100 13 = (q : Int) + 1 ∧ (∀ j : Int, j < 6 * (q : Int) → J 109 j = I 109 j ∧ J 110 j = I 110 j) ∧ (J 109 (6 * (q : Int) + 1) = to ∧ J 109 (6 * (q : Int) + 2) = wo ∧ J 109 (6 * (q : Int) + 3) = kd ∧ J 109 (6 * (q : Int) + 4) = I 100 0 ∧ J 109 (6 * (q : Int) + 5) = pr) ∧ stM J q = mk6 0 fr (-1) (-1) (-1) 0
theorem py_message {fr to wo kd : Int} {q no2 : Nat} (hd : 5 ≤ d) (h13 : I 100 13 = q) (hq : q ≤ 24) (hL : LnI I no2) (ht : 0 ≤ I 100 0 ∧ I 100 0 ≤ 9000) (hpr : ∀ fr : Int, 0 ≤ fr → fr < 8 → ∀ k, 0 ≤ k → k < 5 → 0 ≤ lsO I (obF (I 117) fr (I 100 0) no2) 1 k 1 ∧ lsO I (obF (I 117) fr (I 100 0) no2) 1 k 1 ≤ 99) (hob : ∀ fr : Int, 0 ≤ fr → fr < 8 → -1 ≤ obF (I 117) fr (I 100 0) no2 ∧ obF (I 117) fr (I 100 0) no2 < no2) : SI g d mX12_message [vr 100, vi fr, vi to, vi wo, vi kd] (shX nm no) (RX nm no) I (fun r J => (msR fr to wo kd (I 101 fr ≤ I 100 0 % 1440 ∧ I 100 0 % 1440 ≤ I 102 fr) q r ∧ J = I) ∨ (msA fr to ∧ msB wo kd ∧ (I 101 fr ≤ I 100 0 % 1440 ∧ I 100 0 % 1440 ≤ I 102 fr) ∧ q < 24 ∧ r = q ∧ MSP q fr to wo kd (max (wo * lsO I (obF (I 117) fr (I 100 0) no2) 1 kd 1) (lsO I (obF (I 117) fr (I 100 0) no2) 2 0 0)) I J)) := by
  intro Q h
  refine C_of rfl (Nat.le_of_ble_eq_true rfl) rfl ?_
  refine m_iload_n dX12_message_0 rfl ?_
  refine m_Si [_] dX12_message_1 lk_X12_133 rfl rfl (Nat.le_of_ble_eq_true rfl) (by omega) (y_isOffice (by omega)) ?_
  refine m_if_eq (tgt := 19) dX12_message_4 (by decide) (fun c4 => ?_) (fun c4 => ?_)
  · have z4 := bI_eq0 c4
    refine m_bipush dX12_message_19 rfl (by decide) ?_
    refine m_iret dX12_message_21 rfl ?_
    exact h _ _ (Or.inl ⟨Or.inl ⟨fun z => by unfold msA at z; omega, rfl⟩, rfl⟩)
  · have z4 := bI_ne0 c4
    refine m_iload_n dX12_message_7 rfl ?_
    refine m_Si [_] dX12_message_8 lk_X12_133 rfl rfl (Nat.le_of_ble_eq_true rfl) (by omega) (y_isOffice (by omega)) ?_
    refine m_if_eq (tgt := 19) dX12_message_11 (by decide) (fun c11 => ?_) (fun c11 => ?_)
    · have z11 := bI_eq0 c11
      refine m_bipush dX12_message_19 rfl (by decide) ?_
      refine m_iret dX12_message_21 rfl ?_
      exact h _ _ (Or.inl ⟨Or.inl ⟨fun z => by unfold msA at z; omega, rfl⟩, rfl⟩)
    · have z11 := bI_ne0 c11
      refine m_iload_n dX12_message_14 rfl ?_
      refine m_iload_n dX12_message_15 rfl ?_
      refine m_icmp_ne (tgt := 22) dX12_message_16 (by decide) (fun c16 => ?_) (fun c16 => ?_)
      · have gA : msA fr to := ⟨by omega, by omega, by omega⟩
        refine m_iload_n dX12_message_22 rfl ?_
        refine m_iconst dX12_message_23 (by decide) ?_
        refine m_bipush dX12_message_24 rfl (by decide) ?_
        refine m_Si [_, _, _] dX12_message_26 lk_X12_123 rfl rfl (Nat.le_of_ble_eq_true rfl) (by omega) y_in ?_
        refine m_if_eq (tgt := 42) dX12_message_29 (by decide) (fun c29 => ?_) (fun c29 => ?_)
        · have z29 := bI_eq0 c29
          refine m_bipush dX12_message_42 rfl (by decide) ?_
          refine m_iret dX12_message_44 rfl ?_
          exact h _ _ (Or.inl ⟨Or.inr (Or.inl ⟨gA, fun z => by unfold msB at z; omega, rfl⟩), rfl⟩)
        · have z29 := bI_ne0 c29
          refine m_iload dX12_message_32 rfl ?_
          refine m_iconst dX12_message_34 (by decide) ?_
          refine m_iconst dX12_message_35 (by decide) ?_
          refine m_Si [_, _, _] dX12_message_36 lk_X12_123 rfl rfl (Nat.le_of_ble_eq_true rfl) (by omega) y_in ?_
          refine m_if_ne (tgt := 45) dX12_message_39 (by decide) (fun c39 => ?_) (fun c39 => ?_)
          · have z39 := bI_ne0 c39
            refine m_aload_n dX12_message_45 rfl ?_
            refine m_iload_n dX12_message_46 rfl ?_
            refine m_aload_n dX12_message_47 rfl ?_
            refine m_gi (z := 0) dX12_message_48 fl_X12_144 oX_100 rfl rfl ?_
            refine m_Vi [_, _] dX12_message_51 lk_X12_153 rfl oX_100 rfl (Nat.le_of_ble_eq_true rfl) (by omega) (y_isOpen (by omega) ⟨by omega, by omega⟩ ht.1) ?_
            refine m_if_ne (tgt := 60) dX12_message_54 (by decide) (fun c54 => ?_) (fun c54 => ?_)
            · have z54 := bI_ne0 c54
              refine m_aload_n dX12_message_60 rfl ?_
              refine m_gi (z := 13) dX12_message_61 fl_X12_130 oX_100 rfl rfl ?_
              rw [h13]
              refine m_bipush dX12_message_64 rfl (by decide) ?_
              refine m_icmp_ne (tgt := 72) dX12_message_66 (by decide) (fun c66 => ?_) (fun c66 => ?_)
              · refine m_bipush dX12_message_72 rfl (by decide) ?_
                refine m_aload_n dX12_message_74 rfl ?_
                refine m_gi (z := 13) dX12_message_75 fl_X12_130 oX_100 rfl rfl ?_
                rw [h13]
                refine m_imul dX12_message_78 (by omega) ?_
                refine m_istore dX12_message_79 (by decide) rfl rfl ?_
                have hO := hob fr (by omega) (by omega)
                have hP := hpr fr (by omega) (by omega) kd (by omega) (by omega)
                have hmul : 0 ≤ wo * lsO I (obF (I 117) fr (I 100 0) no2) 1 kd 1 ∧ wo * lsO I (obF (I 117) fr (I 100 0) no2) 1 kd 1 ≤ 99 * 99 := ⟨Int.mul_nonneg (by omega) hP.1, Int.mul_le_mul (by omega) hP.2 hP.1 (by decide)⟩
                refine m_aload_n dX12_message_81 rfl ?_
                refine m_iload_n dX12_message_82 rfl ?_
                refine m_aload_n dX12_message_83 rfl ?_
                refine m_gi (z := 0) dX12_message_84 fl_X12_144 oX_100 rfl rfl ?_
                refine m_Vi [_, _] dX12_message_87 lk_X12_157 rfl oX_100 rfl (Nat.le_of_ble_eq_true rfl) (by omega) (y_ordersOf hL.1 hL.2.1 ⟨by omega, by omega⟩) ?_
                refine m_istore dX12_message_90 (by decide) rfl rfl ?_
                refine m_iload_n dX12_message_92 rfl ?_
                refine m_aload_n dX12_message_93 rfl ?_
                refine m_iload dX12_message_94 rfl ?_
                refine m_iconst dX12_message_96 (by decide) ?_
                refine m_iload dX12_message_97 rfl ?_
                refine m_iconst dX12_message_99 (by decide) ?_
                refine m_Vi [_, _, _, _] dX12_message_100 lk_X12_160 rfl oX_100 rfl (Nat.le_of_ble_eq_true rfl) (by omega) (y_lastOf hL hO) ?_
                refine m_imul dX12_message_103 (by omega) ?_
                refine m_istore dX12_message_104 (by decide) rfl rfl ?_
                refine m_aload_n dX12_message_106 rfl ?_
                refine m_iload dX12_message_107 rfl ?_
                refine m_iconst dX12_message_109 (by decide) ?_
                refine m_iconst dX12_message_110 (by decide) ?_
                refine m_iconst dX12_message_111 (by decide) ?_
                refine m_Vi [_, _, _, _] dX12_message_112 lk_X12_160 rfl oX_100 rfl (Nat.le_of_ble_eq_true rfl) (by omega) (y_lastOf hL hO) ?_
                refine m_istore dX12_message_115 (by decide) rfl rfl ?_
                refine m_aload_n dX12_message_117 rfl ?_
                refine m_gr (z := 14) dX12_message_118 fl_X12_39 oX_100 rfl rfl rX_100_14 ?_
                refine m_iload dX12_message_121 rfl ?_
                refine m_iload_n dX12_message_123 rfl ?_
                refine m_iast dX12_message_124 sX_109 (by omega) (by omega) ?_
                refine m_aload_n dX12_message_125 rfl ?_
                refine m_gr (z := 14) dX12_message_126 fl_X12_39 oX_100 rfl rfl rX_100_14 ?_
                refine m_iload dX12_message_129 rfl ?_
                refine m_iconst dX12_message_131 (by decide) ?_
                refine m_iadd dX12_message_132 (by omega) ?_
                refine m_iload_n dX12_message_133 rfl ?_
                refine m_iast dX12_message_134 sX_109 (by omega) (by omega) ?_
                refine m_aload_n dX12_message_135 rfl ?_
                refine m_gr (z := 14) dX12_message_136 fl_X12_39 oX_100 rfl rfl rX_100_14 ?_
                refine m_iload dX12_message_139 rfl ?_
                refine m_iconst dX12_message_141 (by decide) ?_
                refine m_iadd dX12_message_142 (by omega) ?_
                refine m_iload_n dX12_message_143 rfl ?_
                refine m_iast dX12_message_144 sX_109 (by omega) (by omega) ?_
                refine m_aload_n dX12_message_145 rfl ?_
                refine m_gr (z := 14) dX12_message_146 fl_X12_39 oX_100 rfl rfl rX_100_14 ?_
                refine m_iload dX12_message_149 rfl ?_
                refine m_iconst dX12_message_151 (by decide) ?_
                refine m_iadd dX12_message_152 (by omega) ?_
                refine m_iload dX12_message_153 rfl ?_
                refine m_iast dX12_message_155 sX_109 (by omega) (by omega) ?_
                refine m_aload_n dX12_message_156 rfl ?_
                refine m_gr (z := 14) dX12_message_157 fl_X12_39 oX_100 rfl rfl rX_100_14 ?_
                refine m_iload dX12_message_160 rfl ?_
                refine m_iconst dX12_message_162 (by decide) ?_
                refine m_iadd dX12_message_163 (by omega) ?_
                refine m_aload_n dX12_message_164 rfl ?_
                refine m_gi (z := 0) dX12_message_165 fl_X12_144 oX_100 rfl rfl ?_
                rw [upI_o (show (100 : Nat) ≠ 109 by omega), upI_o (show (100 : Nat) ≠ 109 by omega), upI_o (show (100 : Nat) ≠ 109 by omega), upI_o (show (100 : Nat) ≠ 109 by omega)]
                refine m_iast dX12_message_168 sX_109 (by omega) (by omega) ?_
                refine m_aload_n dX12_message_169 rfl ?_
                refine m_gr (z := 14) dX12_message_170 fl_X12_39 oX_100 rfl rfl rX_100_14 ?_
                refine m_iload dX12_message_173 rfl ?_
                refine m_iconst dX12_message_175 (by decide) ?_
                refine m_iadd dX12_message_176 (by omega) ?_
                refine m_iload dX12_message_177 rfl ?_
                refine m_iload dX12_message_179 rfl ?_
                refine m_ticmp_ge (tgt := 189) (M := 191) dX12_message_181 (by decide) (fun c181 hM181 => by
                    refine m_iload dX12_message_189 rfl ?_
                    exact hM181
                  ) (fun c181 hM181 => by
                    refine m_iload dX12_message_184 rfl ?_
                    refine m_goto (tgt := 191) dX12_message_186 (by decide) ?_
                    exact hM181
                  ) ?_
                refine m_top (max (wo * lsO I (obF (I 117) fr (I 100 0) no2) 1 kd 1) (lsO I (obF (I 117) fr (I 100 0) no2) 2 0 0)) (by omega) ?_
                refine m_iast dX12_message_191 sX_109 (by omega) (by omega) ?_
                refine m_aload_n dX12_message_192 rfl ?_
                refine m_gr (z := 15) dX12_message_193 fl_X12_42 oX_100 rfl rfl rX_100_15 ?_
                refine m_iload dX12_message_196 rfl ?_
                refine m_iconst dX12_message_198 (by decide) ?_
                refine m_iast dX12_message_199 sX_110 (by omega) (by omega) ?_
                refine m_aload_n dX12_message_200 rfl ?_
                refine m_gr (z := 15) dX12_message_201 fl_X12_42 oX_100 rfl rfl rX_100_15 ?_
                refine m_iload dX12_message_204 rfl ?_
                refine m_iconst dX12_message_206 (by decide) ?_
                refine m_iadd dX12_message_207 (by omega) ?_
                refine m_iload_n dX12_message_208 rfl ?_
                refine m_iast dX12_message_209 sX_110 (by omega) (by omega) ?_
                refine m_aload_n dX12_message_210 rfl ?_
                refine m_gr (z := 15) dX12_message_211 fl_X12_42 oX_100 rfl rfl rX_100_15 ?_
                refine m_iload dX12_message_214 rfl ?_
                refine m_iconst dX12_message_216 (by decide) ?_
                refine m_iadd dX12_message_217 (by omega) ?_
                refine m_iconst dX12_message_218 (by decide) ?_
                refine m_iast dX12_message_219 sX_110 (by omega) (by omega) ?_
                refine m_aload_n dX12_message_220 rfl ?_
                refine m_gr (z := 15) dX12_message_221 fl_X12_42 oX_100 rfl rfl rX_100_15 ?_
                refine m_iload dX12_message_224 rfl ?_
                refine m_iconst dX12_message_226 (by decide) ?_
                refine m_iadd dX12_message_227 (by omega) ?_
                refine m_iconst dX12_message_228 (by decide) ?_
                refine m_iast dX12_message_229 sX_110 (by omega) (by omega) ?_
                refine m_aload_n dX12_message_230 rfl ?_
                refine m_gr (z := 15) dX12_message_231 fl_X12_42 oX_100 rfl rfl rX_100_15 ?_
                refine m_iload dX12_message_234 rfl ?_
                refine m_iconst dX12_message_236 (by decide) ?_
                refine m_iadd dX12_message_237 (by omega) ?_
                refine m_iconst dX12_message_238 (by decide) ?_
                refine m_iast dX12_message_239 sX_110 (by omega) (by omega) ?_
                refine m_aload_n dX12_message_240 rfl ?_
                refine m_gr (z := 15) dX12_message_241 fl_X12_42 oX_100 rfl rfl rX_100_15 ?_
                refine m_iload dX12_message_244 rfl ?_
                refine m_iconst dX12_message_246 (by decide) ?_
                refine m_iadd dX12_message_247 (by omega) ?_
                refine m_iconst dX12_message_248 (by decide) ?_
                refine m_iast dX12_message_249 sX_110 (by omega) (by omega) ?_
                refine m_aload_n dX12_message_250 rfl ?_
                refine m_dup dX12_message_251 (fun _ z => by cases z) ?_
                refine m_gi (z := 13) dX12_message_252 fl_X12_130 oX_100 rfl rfl ?_
                rw [upI_o (show (100 : Nat) ≠ 110 by omega), upI_o (show (100 : Nat) ≠ 110 by omega), upI_o (show (100 : Nat) ≠ 110 by omega), upI_o (show (100 : Nat) ≠ 110 by omega), upI_o (show (100 : Nat) ≠ 110 by omega), upI_o (show (100 : Nat) ≠ 110 by omega), upI_o (show (100 : Nat) ≠ 109 by omega), upI_o (show (100 : Nat) ≠ 109 by omega), upI_o (show (100 : Nat) ≠ 109 by omega), upI_o (show (100 : Nat) ≠ 109 by omega), upI_o (show (100 : Nat) ≠ 109 by omega), upI_o (show (100 : Nat) ≠ 109 by omega)]
                rw [h13]
                refine m_iconst dX12_message_255 (by decide) ?_
                refine m_iadd dX12_message_256 (by omega) ?_
                refine m_pi (z := 13) dX12_message_257 fl_X12_130 oX_100 rfl rfl rfl ?_
                refine m_aload_n dX12_message_260 rfl ?_
                refine m_gi (z := 13) dX12_message_261 fl_X12_130 oX_100 rfl rfl ?_
                rw [upI_s]
                refine m_iconst dX12_message_264 (by decide) ?_
                refine m_isub dX12_message_265 (by omega) ?_
                refine m_iret dX12_message_266 rfl ?_
                rw [show (q : Int) + 1 - 1 = q by omega]
                refine h _ _ (Or.inr ⟨gA, ⟨by omega, by omega⟩, z54, by omega, rfl, ⟨fun x x1 x2 x3 => ?_, fun j hj => ?_, upI_s, fun j hj => ⟨?_, ?_⟩, ⟨?_, ?_, ?_, ?_, ?_⟩, ?_⟩⟩)
                · rw [upI_o x1, upI_o x3, upI_o x3, upI_o x3, upI_o x3, upI_o x3, upI_o x3, upI_o x2, upI_o x2, upI_o x2, upI_o x2, upI_o x2, upI_o x2]
                · rw [upI_j hj]
                  simp only [upI_o (show (100 : Nat) ≠ 110 by decide), upI_o (show (100 : Nat) ≠ 109 by decide)]
                · rw [upI_o (show (109 : Nat) ≠ 100 by decide)]
                  simp only [upI_o (show (109 : Nat) ≠ 110 by decide)]
                  rw [upI_j (by omega), upI_j (by omega), upI_j (by omega), upI_j (by omega), upI_j (by omega), upI_j (by omega)]
                · rw [upI_o (show (110 : Nat) ≠ 100 by decide), upI_j (by omega), upI_j (by omega), upI_j (by omega), upI_j (by omega), upI_j (by omega), upI_j (by omega)]
                  simp only [upI_o (show (110 : Nat) ≠ 109 by decide)]
                · rw [upI_o (show (109 : Nat) ≠ 100 by decide)]
                  simp only [upI_o (show (109 : Nat) ≠ 110 by decide)]
                  rw [upI_j (by omega), upI_j (by omega), upI_j (by omega), upI_j (by omega), upI_s]
                · rw [upI_o (show (109 : Nat) ≠ 100 by decide)]
                  simp only [upI_o (show (109 : Nat) ≠ 110 by decide)]
                  rw [upI_j (by omega), upI_j (by omega), upI_j (by omega), upI_s]
                · rw [upI_o (show (109 : Nat) ≠ 100 by decide)]
                  simp only [upI_o (show (109 : Nat) ≠ 110 by decide)]
                  rw [upI_j (by omega), upI_j (by omega), upI_s]
                · rw [upI_o (show (109 : Nat) ≠ 100 by decide)]
                  simp only [upI_o (show (109 : Nat) ≠ 110 by decide)]
                  rw [upI_j (by omega), upI_s]
                · rw [upI_o (show (109 : Nat) ≠ 100 by decide)]
                  simp only [upI_o (show (109 : Nat) ≠ 110 by decide)]
                  rw [upI_s]
                · unfold stM
                  rw [upI_o (show (110 : Nat) ≠ 100 by decide)]
                  have e0 : 6 * ((q : Nat) : Int) = 6 * (q : Int) := rfl
                  rw [upI_j (show 6 * (q : Int) ≠ 6 * (q : Int) + 5 by omega), upI_j (show 6 * (q : Int) ≠ 6 * (q : Int) + 4 by omega), upI_j (show 6 * (q : Int) ≠ 6 * (q : Int) + 3 by omega), upI_j (show 6 * (q : Int) ≠ 6 * (q : Int) + 2 by omega), upI_j (show 6 * (q : Int) ≠ 6 * (q : Int) + 1 by omega), upI_s]
                  rw [upI_j (show 6 * (q : Int) + 1 ≠ 6 * (q : Int) + 5 by omega), upI_j (show 6 * (q : Int) + 1 ≠ 6 * (q : Int) + 4 by omega), upI_j (show 6 * (q : Int) + 1 ≠ 6 * (q : Int) + 3 by omega), upI_j (show 6 * (q : Int) + 1 ≠ 6 * (q : Int) + 2 by omega), upI_s]
                  rw [upI_j (show 6 * (q : Int) + 2 ≠ 6 * (q : Int) + 5 by omega), upI_j (show 6 * (q : Int) + 2 ≠ 6 * (q : Int) + 4 by omega), upI_j (show 6 * (q : Int) + 2 ≠ 6 * (q : Int) + 3 by omega), upI_s]
                  rw [upI_j (show 6 * (q : Int) + 4 ≠ 6 * (q : Int) + 5 by omega), upI_s, upI_s]
                  rfl
              · refine m_bipush dX12_message_69 rfl (by decide) ?_
                refine m_iret dX12_message_71 rfl ?_
                exact h _ _ (Or.inl ⟨Or.inr (Or.inr (Or.inr ⟨gA, ⟨by omega, by omega⟩, z54, by omega, rfl⟩)), rfl⟩)
            · have z54 := bI_eq0 (show _ = (0 : Int) by omega)
              refine m_bipush dX12_message_57 rfl (by decide) ?_
              refine m_iret dX12_message_59 rfl ?_
              exact h _ _ (Or.inl ⟨Or.inr (Or.inr (Or.inl ⟨gA, ⟨by omega, by omega⟩, z54, rfl⟩)), rfl⟩)
          · have z39 := bI_eq0 (show _ = (0 : Int) by omega)
            refine m_bipush dX12_message_42 rfl (by decide) ?_
            refine m_iret dX12_message_44 rfl ?_
            exact h _ _ (Or.inl ⟨Or.inr (Or.inl ⟨gA, fun z => by unfold msB at z; omega, rfl⟩), rfl⟩)
      · refine m_bipush dX12_message_19 rfl (by decide) ?_
        refine m_iret dX12_message_21 rfl ?_
        exact h _ _ (Or.inl ⟨Or.inl ⟨fun z => by unfold msA at z; omega, rfl⟩, rfl⟩)
end
