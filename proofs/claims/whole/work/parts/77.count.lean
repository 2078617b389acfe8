/-! COUNT, TOLD, BACK -/
section
variable {g : GH} {d nm no : Nat} {I : II}
def aCount (k c0 c1 c2 c3 c4 c5 c6 c7 c8 c9 c10 : Int) : Int := if k = 0 then c0 else if k = 1 then c1 else if k = 2 then c2 else if k = 3 then c3 else if k = 4 then c4 else if k = 5 then c5 else if k = 6 then c6 else if k = 7 then c7 else if k = 8 then c8 else if k = 9 then c9 else if k = 10 then c10 else -3
theorem px_count {k : Int} (hd : 1 ≤ d) (hc : I 43 4 = nm) (hm : nm ≤ 24) (hp : ∀ m : Nat, m < nm → 0 ≤ I (200 + m) 3 ∧ I (200 + m) 3 ≤ 9801) : SP g d mX11_count 0 0 [vr 20, vi k] (shX nm no) (RX nm no) I (some (vi (aCount k (I 43 5) (I 21 9) (I 43 4) (cntP I 2 nm) (cntP I 1 nm) (sumP I nm) (I 37 3) (I 46 1) (I 55 4) (I 79 5) (szF (I 50) 16)))) (shX nm no) (RX nm no) I := by
  intro Q h
  refine C_of rfl (Nat.le_of_ble_eq_true rfl) rfl ?_
  refine m_iload_n dX11_count_0 rfl ?_
  by_cases e1_0 : k = 0
  · refine m_tableIn (tgt := 60) 0 dX11_count_1 e1_0 (by decide) (by decide) rfl (by decide) ?_
    refine m_aload_n dX11_count_60 rfl ?_
    refine m_gr (z := 2) dX11_count_61 fl_X11_28 oX_20 rfl rfl rX_20_2 ?_
    refine m_gi (z := 5) dX11_count_64 fl_X11_105 oX_43 rfl rfl ?_
    refine m_iret dX11_count_67 rfl ?_
    refine Eq.mp (congrArg (fun z => Q (some (vi z)) _ _ _) ?_) h
    unfold aCount
    (repeat' split) <;> first | rfl | omega
  by_cases e1_1 : k = 1
  · refine m_tableIn (tgt := 68) 1 dX11_count_1 e1_1 (by decide) (by decide) rfl (by decide) ?_
    refine m_aload_n dX11_count_68 rfl ?_
    refine m_gr (z := 0) dX11_count_69 fl_X11_10 oX_20 rfl rfl rX_20_0 ?_
    refine m_gi (z := 9) dX11_count_72 fl_X11_86 oX_21 rfl rfl ?_
    refine m_iret dX11_count_75 rfl ?_
    refine Eq.mp (congrArg (fun z => Q (some (vi z)) _ _ _) ?_) h
    unfold aCount
    (repeat' split) <;> first | rfl | omega
  by_cases e1_2 : k = 2
  · refine m_tableIn (tgt := 76) 2 dX11_count_1 e1_2 (by decide) (by decide) rfl (by decide) ?_
    refine m_aload_n dX11_count_76 rfl ?_
    refine m_gr (z := 2) dX11_count_77 fl_X11_28 oX_20 rfl rfl rX_20_2 ?_
    refine m_gi (z := 4) dX11_count_80 fl_X11_111 oX_43 rfl rfl ?_
    refine m_iret dX11_count_83 rfl ?_
    refine Eq.mp (congrArg (fun z => Q (some (vi z)) _ _ _) ?_) h
    unfold aCount
    (repeat' split) <;> first | rfl | omega
  by_cases e1_3 : k = 3
  · refine m_tableIn (tgt := 84) 3 dX11_count_1 e1_3 (by decide) (by decide) rfl (by decide) ?_
    refine m_aload_n dX11_count_84 rfl ?_
    refine m_gr (z := 2) dX11_count_85 fl_X11_28 oX_20 rfl rfl rX_20_2 ?_
    refine m_iconst dX11_count_88 (by decide) ?_
    refine m_Vi [_] dX11_count_89 lk_X11_189 rfl oX_43 rfl (Nat.le_of_ble_eq_true rfl) (by omega) (x_inPlace hc hm) ?_
    refine m_iret dX11_count_92 rfl ?_
    refine Eq.mp (congrArg (fun z => Q (some (vi z)) _ _ _) ?_) h
    unfold aCount
    (repeat' split) <;> first | rfl | omega
  by_cases e1_4 : k = 4
  · refine m_tableIn (tgt := 93) 4 dX11_count_1 e1_4 (by decide) (by decide) rfl (by decide) ?_
    refine m_aload_n dX11_count_93 rfl ?_
    refine m_gr (z := 2) dX11_count_94 fl_X11_28 oX_20 rfl rfl rX_20_2 ?_
    refine m_iconst dX11_count_97 (by decide) ?_
    refine m_Vi [_] dX11_count_98 lk_X11_189 rfl oX_43 rfl (Nat.le_of_ble_eq_true rfl) (by omega) (x_inPlace hc hm) ?_
    refine m_iret dX11_count_101 rfl ?_
    refine Eq.mp (congrArg (fun z => Q (some (vi z)) _ _ _) ?_) h
    unfold aCount
    (repeat' split) <;> first | rfl | omega
  by_cases e1_5 : k = 5
  · refine m_tableIn (tgt := 102) 5 dX11_count_1 e1_5 (by decide) (by decide) rfl (by decide) ?_
    refine m_aload_n dX11_count_102 rfl ?_
    refine m_gr (z := 2) dX11_count_103 fl_X11_28 oX_20 rfl rfl rX_20_2 ?_
    refine m_Vi [] dX11_count_106 lk_X11_346 rfl oX_43 rfl (Nat.le_of_ble_eq_true rfl) (by omega) (x_prices hc hm hp) ?_
    refine m_iret dX11_count_109 rfl ?_
    refine Eq.mp (congrArg (fun z => Q (some (vi z)) _ _ _) ?_) h
    unfold aCount
    (repeat' split) <;> first | rfl | omega
  by_cases e1_6 : k = 6
  · refine m_tableIn (tgt := 110) 6 dX11_count_1 e1_6 (by decide) (by decide) rfl (by decide) ?_
    refine m_aload_n dX11_count_110 rfl ?_
    refine m_gr (z := 1) dX11_count_111 fl_X11_19 oX_20 rfl rfl rX_20_1 ?_
    refine m_gi (z := 3) dX11_count_114 fl_X11_211 oX_37 rfl rfl ?_
    refine m_iret dX11_count_117 rfl ?_
    refine Eq.mp (congrArg (fun z => Q (some (vi z)) _ _ _) ?_) h
    unfold aCount
    (repeat' split) <;> first | rfl | omega
  by_cases e1_7 : k = 7
  · refine m_tableIn (tgt := 118) 7 dX11_count_1 e1_7 (by decide) (by decide) rfl (by decide) ?_
    refine m_aload_n dX11_count_118 rfl ?_
    refine m_gr (z := 3) dX11_count_119 fl_X11_35 oX_20 rfl rfl rX_20_3 ?_
    refine m_gi (z := 1) dX11_count_122 fl_X11_196 oX_46 rfl rfl ?_
    refine m_iret dX11_count_125 rfl ?_
    refine Eq.mp (congrArg (fun z => Q (some (vi z)) _ _ _) ?_) h
    unfold aCount
    (repeat' split) <;> first | rfl | omega
  by_cases e1_8 : k = 8
  · refine m_tableIn (tgt := 126) 8 dX11_count_1 e1_8 (by decide) (by decide) rfl (by decide) ?_
    refine m_aload_n dX11_count_126 rfl ?_
    refine m_gr (z := 5) dX11_count_127 fl_X11_49 oX_20 rfl rfl rX_20_5 ?_
    refine m_gi (z := 4) dX11_count_130 fl_X11_278 oX_55 rfl rfl ?_
    refine m_iret dX11_count_133 rfl ?_
    refine Eq.mp (congrArg (fun z => Q (some (vi z)) _ _ _) ?_) h
    unfold aCount
    (repeat' split) <;> first | rfl | omega
  by_cases e1_9 : k = 9
  · refine m_tableIn (tgt := 134) 9 dX11_count_1 e1_9 (by decide) (by decide) rfl (by decide) ?_
    refine m_aload_n dX11_count_134 rfl ?_
    refine m_gr (z := 7) dX11_count_135 fl_X11_63 oX_20 rfl rfl rX_20_7 ?_
    refine m_gi (z := 5) dX11_count_138 fl_X11_331 oX_79 rfl rfl ?_
    refine m_iret dX11_count_141 rfl ?_
    refine Eq.mp (congrArg (fun z => Q (some (vi z)) _ _ _) ?_) h
    unfold aCount
    (repeat' split) <;> first | rfl | omega
  by_cases e1_10 : k = 10
  · refine m_tableIn (tgt := 142) 10 dX11_count_1 e1_10 (by decide) (by decide) rfl (by decide) ?_
    refine m_aload_n dX11_count_142 rfl ?_
    refine m_gr (z := 4) dX11_count_143 fl_X11_42 oX_20 rfl rfl rX_20_4 ?_
    refine m_Vi [] dX11_count_146 lk_X11_271 rfl oX_48 rfl (Nat.le_of_ble_eq_true rfl) (by omega) x_size ?_
    refine m_iret dX11_count_149 rfl ?_
    refine Eq.mp (congrArg (fun z => Q (some (vi z)) _ _ _) ?_) h
    unfold aCount
    (repeat' split) <;> first | rfl | omega
  refine m_tableOut (tgt := 150) dX11_count_1 (by omega) (by decide) ?_
  refine m_bipush dX11_count_150 rfl (by decide) ?_
  refine m_iret dX11_count_152 rfl ?_
  refine Eq.mp (congrArg (fun z => Q (some (vi z)) _ _ _) ?_) h
  unfold aCount
  (repeat' split) <;> first | rfl | omega
def suF (v : Int → Int) : Nat → Int
  | 0 => 0
  | n + 1 => suF v n + v (6 * n + 5)
theorem suF_bd {v : Int → Int} : ∀ n : Nat, (∀ m : Nat, m < n → 0 ≤ v (6 * m + 5) ∧ v (6 * m + 5) ≤ 9801) → 0 ≤ suF v n ∧ suF v n ≤ 9801 * n
  | 0, _ => by unfold suF; omega
  | n + 1, h => by have := suF_bd n (fun m hm => h m (by omega)); have := h n (by omega); unfold suF; omega
theorem suF_eq {I : II} : ∀ n : Nat, (∀ m : Nat, m < n → I 109 (6 * m + 5) = I (200 + m) 3) → suF (I 109) n = sumP I n
  | 0, _ => rfl
  | n + 1, h => by unfold suF sumP; rw [suF_eq n (fun m hm => h m (by omega)), h n (by omega)]
theorem y_cnt_place {k : Int} {Q : QT} (hc : I 100 13 = nm) (hm : nm ≤ 24) (h : Q (some (vi (cntD (stM I) 1 nm))) (shX nm no) (RX nm no) I) : ∀ (q i : Nat), nm - i < q → i ≤ nm → T g d mX12_count 0 0 82 [some (vr 100), some (vi k), some (vi (cntD (stM I) 1 i)), some (vi i)] [] (shX nm no) (RX nm no) I Q := by
  intro q
  induction q with
  | zero => intro i hk; omega
  | succ q ih =>
    intro i hk hi
    have hb := cntD_bd (stM I) 1 i
    have e1 : cntD (stM I) 1 (i + 1) = cntD (stM I) 1 i + (if I 110 (6 * i) = 1 then 1 else 0) := rfl
    refine m_iload_n dX12_count_82 rfl ?_
    refine m_aload_n dX12_count_83 rfl ?_
    refine m_gi (z := 13) dX12_count_84 fl_X12_130 oX_100 rfl rfl ?_
    refine m_icmp_ge (tgt := 117) dX12_count_87 (by decide) (fun c87 => ?_) (fun c87 => ?_)
    · have ei : i = nm := by omega
      subst ei
      refine m_iload_n dX12_count_117 rfl ?_
      refine m_iret dX12_count_118 rfl ?_
      exact h
    · refine m_iload_n dX12_count_90 rfl ?_
      refine m_aload_n dX12_count_91 rfl ?_
      refine m_gr (z := 15) dX12_count_92 fl_X12_42 oX_100 rfl rfl rX_100_15 ?_
      refine m_bipush dX12_count_95 rfl (by decide) ?_
      refine m_iload_n dX12_count_97 rfl ?_
      refine m_imul dX12_count_98 (by omega) ?_
      refine m_iald dX12_count_99 sX_110 (by omega) (by omega) ?_
      refine m_iconst dX12_count_100 (by decide) ?_
      refine m_ticmp_ne (tgt := 108) (M := 109) dX12_count_101 (by decide) (fun c101 hM101 => by
          refine m_iconst dX12_count_108 (by decide) ?_
          exact hM101
        ) (fun c101 hM101 => by
          refine m_iconst dX12_count_104 (by decide) ?_
          refine m_goto (tgt := 109) dX12_count_105 (by decide) ?_
          exact hM101
        ) ?_
      refine m_top (if I 110 (6 * i) = 1 then 1 else 0) (by (repeat' split) <;> first | rfl | omega) ?_
      refine m_iadd dX12_count_109 (by split <;> omega) ?_
      rw [← e1]
      refine m_istore_n dX12_count_110 (by decide) rfl rfl ?_
      refine m_iinc dX12_count_111 rfl (by decide) rfl rfl (by omega) ?_
      refine m_goto (tgt := 82) dX12_count_114 (by decide) ?_
      exact ih (i + 1) (by omega) (by omega)
theorem y_cnt_price {k : Int} {Q : QT} (hc : I 100 13 = nm) (hm : nm ≤ 24) (hp : ∀ m : Nat, m < nm → 0 ≤ I 109 (6 * m + 5) ∧ I 109 (6 * m + 5) ≤ 9801) (h : Q (some (vi (suF (I 109) nm))) (shX nm no) (RX nm no) I) : ∀ (q i : Nat), nm - i < q → i ≤ nm → T g d mX12_count 0 0 121 [some (vr 100), some (vi k), some (vi (suF (I 109) i)), some (vi i)] [] (shX nm no) (RX nm no) I Q := by
  intro q
  induction q with
  | zero => intro i hk; omega
  | succ q ih =>
    intro i hk hi
    have hb := suF_bd (v := I 109) i (fun m hm => hp m (by omega))
    refine m_iload_n dX12_count_121 rfl ?_
    refine m_aload_n dX12_count_122 rfl ?_
    refine m_gi (z := 13) dX12_count_123 fl_X12_130 oX_100 rfl rfl ?_
    refine m_icmp_ge (tgt := 149) dX12_count_126 (by decide) (fun c126 => ?_) (fun c126 => ?_)
    · have ei : i = nm := by omega
      subst ei
      refine m_iload_n dX12_count_149 rfl ?_
      refine m_iret dX12_count_150 rfl ?_
      exact h
    · have hpi := hp i (by omega)
      refine m_iload_n dX12_count_129 rfl ?_
      refine m_aload_n dX12_count_130 rfl ?_
      refine m_gr (z := 14) dX12_count_131 fl_X12_39 oX_100 rfl rfl rX_100_14 ?_
      refine m_bipush dX12_count_134 rfl (by decide) ?_
      refine m_iload_n dX12_count_136 rfl ?_
      refine m_imul dX12_count_137 (by omega) ?_
      refine m_iconst dX12_count_138 (by decide) ?_
      refine m_iadd dX12_count_139 (by omega) ?_
      refine m_iald dX12_count_140 sX_109 (by omega) (by omega) ?_
      refine m_iadd dX12_count_141 (by omega) ?_
      rw [show suF (I 109) i + I 109 (6 * i + 5) = suF (I 109) (i + 1) from rfl]
      refine m_istore_n dX12_count_142 (by decide) rfl rfl ?_
      refine m_iinc dX12_count_143 rfl (by decide) rfl rfl (by omega) ?_
      refine m_goto (tgt := 121) dX12_count_146 (by decide) ?_
      exact ih (i + 1) (by omega) (by omega)
theorem y_cnt_book {k : Int} {Q : QT} (hs : ∀ j : Nat, j < 16 → 0 ≤ I 118 j) (h : Q (some (vi (szF (I 118) 16))) (shX nm no) (RX nm no) I) : ∀ (q i : Nat), 16 - i < q → i ≤ 16 → T g d mX12_count 0 0 173 [some (vr 100), some (vi k), some (vi (szF (I 118) i)), some (vi i)] [] (shX nm no) (RX nm no) I Q := by
  intro q
  induction q with
  | zero => intro i hk; omega
  | succ q ih =>
    intro i hk hi
    have hb := szF_bd (I 118) i
    have e1 : szF (I 118) (i + 1) = szF (I 118) i + (if I 118 i = 0 then 0 else 1) := rfl
    refine m_iload_n dX12_count_173 rfl ?_
    refine m_bipush dX12_count_174 rfl (by decide) ?_
    refine m_icmp_ge (tgt := 202) dX12_count_176 (by decide) (fun c176 => ?_) (fun c176 => ?_)
    · have ei : i = 16 := by omega
      subst ei
      refine m_iload_n dX12_count_202 rfl ?_
      refine m_iret dX12_count_203 rfl ?_
      exact h
    · have hsi := hs i (by omega)
      refine m_iload_n dX12_count_179 rfl ?_
      refine m_aload_n dX12_count_180 rfl ?_
      refine m_gr (z := 33) dX12_count_181 fl_X12_69 oX_100 rfl rfl rX_100_33 ?_
      refine m_iload_n dX12_count_184 rfl ?_
      refine m_iald dX12_count_185 sX_118 (by omega) (by omega) ?_
      refine m_tif_le (tgt := 193) (M := 194) dX12_count_186 (by decide) (fun c186 hM186 => by
          refine m_iconst dX12_count_193 (by decide) ?_
          exact hM186
        ) (fun c186 hM186 => by
          refine m_iconst dX12_count_189 (by decide) ?_
          refine m_goto (tgt := 194) dX12_count_190 (by decide) ?_
          exact hM186
        ) ?_
      refine m_top (if I 118 i = 0 then 0 else 1) (by (repeat' split) <;> first | rfl | omega) ?_
      refine m_iadd dX12_count_194 (by split <;> omega) ?_
      rw [← e1]
      refine m_istore_n dX12_count_195 (by decide) rfl rfl ?_
      refine m_iinc dX12_count_196 rfl (by decide) rfl rfl (by omega) ?_
      refine m_goto (tgt := 173) dX12_count_199 (by decide) ?_
      exact ih (i + 1) (by omega) (by omega)
theorem py_count {k : Int} (hd : 1 ≤ d) (hc : I 100 13 = nm) (hm : nm ≤ 24) (hp : ∀ m : Nat, m < nm → 0 ≤ I 109 (6 * m + 5) ∧ I 109 (6 * m + 5) ≤ 9801) (hs : ∀ j : Nat, j < 16 → 0 ≤ I 118 j) : SP g d mX12_count 0 0 [vr 100, vi k] (shX nm no) (RX nm no) I (some (vi (aCount k (I 100 0) (I 100 3) (I 100 13) (cntD (stM I) 2 nm) (cntD (stM I) 1 nm) (suF (I 109) nm) (I 100 27) (I 100 18) (I 100 41) (I 100 48) (szF (I 118) 16)))) (shX nm no) (RX nm no) I := by
  intro Q h
  refine C_of rfl (Nat.le_of_ble_eq_true rfl) rfl ?_
  refine m_iconst dX12_count_0 (by decide) ?_
  refine m_istore_n dX12_count_1 (by decide) rfl rfl ?_
  refine m_iload_n dX12_count_2 rfl ?_
  by_cases e3_0 : k = 0
  · refine m_tableIn (tgt := 60) 0 dX12_count_3 e3_0 (by decide) (by decide) rfl (by decide) ?_
    refine m_aload_n dX12_count_60 rfl ?_
    refine m_gi (z := 0) dX12_count_61 fl_X12_144 oX_100 rfl rfl ?_
    refine m_iret dX12_count_64 rfl ?_
    refine Eq.mp (congrArg (fun z => Q (some (vi z)) _ _ _) ?_) h
    unfold aCount
    (repeat' split) <;> first | rfl | omega
  by_cases e3_1 : k = 1
  · refine m_tableIn (tgt := 65) 1 dX12_count_3 e3_1 (by decide) (by decide) rfl (by decide) ?_
    refine m_aload_n dX12_count_65 rfl ?_
    refine m_gi (z := 3) dX12_count_66 fl_X12_127 oX_100 rfl rfl ?_
    refine m_iret dX12_count_69 rfl ?_
    refine Eq.mp (congrArg (fun z => Q (some (vi z)) _ _ _) ?_) h
    unfold aCount
    (repeat' split) <;> first | rfl | omega
  by_cases e3_2 : k = 2
  · refine m_tableIn (tgt := 70) 2 dX12_count_3 e3_2 (by decide) (by decide) rfl (by decide) ?_
    refine m_aload_n dX12_count_70 rfl ?_
    refine m_gi (z := 13) dX12_count_71 fl_X12_130 oX_100 rfl rfl ?_
    refine m_iret dX12_count_74 rfl ?_
    refine Eq.mp (congrArg (fun z => Q (some (vi z)) _ _ _) ?_) h
    unfold aCount
    (repeat' split) <;> first | rfl | omega
  by_cases e3_3 : k = 3
  · refine m_tableIn (tgt := 75) 3 dX12_count_3 e3_3 (by decide) (by decide) rfl (by decide) ?_
    refine m_aload_n dX12_count_75 rfl ?_
    refine m_Vi [] dX12_count_76 lk_X12_220 rfl oX_100 rfl (Nat.le_of_ble_eq_true rfl) (by omega) (y_given hc hm) ?_
    refine m_iret dX12_count_79 rfl ?_
    refine Eq.mp (congrArg (fun z => Q (some (vi z)) _ _ _) ?_) h
    unfold aCount
    (repeat' split) <;> first | rfl | omega
  by_cases e3_4 : k = 4
  · refine m_tableIn (tgt := 80) 4 dX12_count_3 e3_4 (by decide) (by decide) rfl (by decide) ?_
    refine m_iconst dX12_count_80 (by decide) ?_
    refine m_istore_n dX12_count_81 (by decide) rfl rfl ?_
    have e : aCount k (I 100 0) (I 100 3) (I 100 13) (cntD (stM I) 2 nm) (cntD (stM I) 1 nm) (suF (I 109) nm) (I 100 27) (I 100 18) (I 100 41) (I 100 48) (szF (I 118) 16) = cntD (stM I) 1 nm := by unfold aCount; (repeat' split) <;> first | rfl | omega
    rw [e] at h
    exact y_cnt_place hc hm h (nm + 1) 0 (by omega) (by omega)
  by_cases e3_5 : k = 5
  · refine m_tableIn (tgt := 119) 5 dX12_count_3 e3_5 (by decide) (by decide) rfl (by decide) ?_
    refine m_iconst dX12_count_119 (by decide) ?_
    refine m_istore_n dX12_count_120 (by decide) rfl rfl ?_
    have e : aCount k (I 100 0) (I 100 3) (I 100 13) (cntD (stM I) 2 nm) (cntD (stM I) 1 nm) (suF (I 109) nm) (I 100 27) (I 100 18) (I 100 41) (I 100 48) (szF (I 118) 16) = suF (I 109) nm := by unfold aCount; (repeat' split) <;> first | rfl | omega
    rw [e] at h
    exact y_cnt_price hc hm hp h (nm + 1) 0 (by omega) (by omega)
  by_cases e3_6 : k = 6
  · refine m_tableIn (tgt := 151) 6 dX12_count_3 e3_6 (by decide) (by decide) rfl (by decide) ?_
    refine m_aload_n dX12_count_151 rfl ?_
    refine m_gi (z := 27) dX12_count_152 fl_X12_310 oX_100 rfl rfl ?_
    refine m_iret dX12_count_155 rfl ?_
    refine Eq.mp (congrArg (fun z => Q (some (vi z)) _ _ _) ?_) h
    unfold aCount
    (repeat' split) <;> first | rfl | omega
  by_cases e3_7 : k = 7
  · refine m_tableIn (tgt := 156) 7 dX12_count_3 e3_7 (by decide) (by decide) rfl (by decide) ?_
    refine m_aload_n dX12_count_156 rfl ?_
    refine m_gi (z := 18) dX12_count_157 fl_X12_224 oX_100 rfl rfl ?_
    refine m_iret dX12_count_160 rfl ?_
    refine Eq.mp (congrArg (fun z => Q (some (vi z)) _ _ _) ?_) h
    unfold aCount
    (repeat' split) <;> first | rfl | omega
  by_cases e3_8 : k = 8
  · refine m_tableIn (tgt := 161) 8 dX12_count_3 e3_8 (by decide) (by decide) rfl (by decide) ?_
    refine m_aload_n dX12_count_161 rfl ?_
    refine m_gi (z := 41) dX12_count_162 fl_X12_327 oX_100 rfl rfl ?_
    refine m_iret dX12_count_165 rfl ?_
    refine Eq.mp (congrArg (fun z => Q (some (vi z)) _ _ _) ?_) h
    unfold aCount
    (repeat' split) <;> first | rfl | omega
  by_cases e3_9 : k = 9
  · refine m_tableIn (tgt := 166) 9 dX12_count_3 e3_9 (by decide) (by decide) rfl (by decide) ?_
    refine m_aload_n dX12_count_166 rfl ?_
    refine m_gi (z := 48) dX12_count_167 fl_X12_355 oX_100 rfl rfl ?_
    refine m_iret dX12_count_170 rfl ?_
    refine Eq.mp (congrArg (fun z => Q (some (vi z)) _ _ _) ?_) h
    unfold aCount
    (repeat' split) <;> first | rfl | omega
  by_cases e3_10 : k = 10
  · refine m_tableIn (tgt := 171) 10 dX12_count_3 e3_10 (by decide) (by decide) rfl (by decide) ?_
    refine m_iconst dX12_count_171 (by decide) ?_
    refine m_istore_n dX12_count_172 (by decide) rfl rfl ?_
    have e : aCount k (I 100 0) (I 100 3) (I 100 13) (cntD (stM I) 2 nm) (cntD (stM I) 1 nm) (suF (I 109) nm) (I 100 27) (I 100 18) (I 100 41) (I 100 48) (szF (I 118) 16) = szF (I 118) 16 := by unfold aCount; (repeat' split) <;> first | rfl | omega
    rw [e] at h
    exact y_cnt_book hs h 17 0 (by omega) (by omega)
  refine m_tableOut (tgt := 204) dX12_count_3 (by omega) (by decide) ?_
  refine m_bipush dX12_count_204 rfl (by decide) ?_
  refine m_iret dX12_count_206 rfl ?_
  refine Eq.mp (congrArg (fun z => Q (some (vi z)) _ _ _) ?_) h
  unfold aCount
  (repeat' split) <;> first | rfl | omega
theorem px_told {k what kind : Int} (hd : 3 ≤ d) (hm : nm ≤ 24) (hL : LawI I no) : SP g d mX11_told 0 0 [vr 20, vi k, vi what, vi kind] (shX nm no) (RX nm no) I (some (vi (aTold k what kind no (I (orw (oid no k) 0) kind) (I (orw (oid no k) 1) kind) (bP (kind = 4 ∨ bt (I (oid no k) 3) kind)) (I (oid no k) 4) (I (oid no k) 5) (bP (nightX I (oid no k) kind))))) (shX nm no) (RX nm no) I := by
  have hc := hL.1
  have hc2 := hL.2.1
  intro Q h
  refine C_of rfl (Nat.le_of_ble_eq_true rfl) rfl ?_
  refine m_iload_n dX11_told_0 rfl ?_
  refine m_iconst dX11_told_1 (by decide) ?_
  refine m_aload_n dX11_told_2 rfl ?_
  refine m_gr (z := 1) dX11_told_3 fl_X11_19 oX_20 rfl rfl rX_20_1 ?_
  refine m_gi (z := 3) dX11_told_6 fl_X11_211 oX_37 rfl rfl ?_
  refine m_iconst dX11_told_9 (by decide) ?_
  refine m_isub dX11_told_10 (by omega) ?_
  refine m_Si [_, _, _] dX11_told_11 lk_X11_71 rfl rfl (Nat.le_of_ble_eq_true rfl) (by omega) x_isWithin ?_
  refine m_if_ne (tgt := 20) dX11_told_14 (by decide) (fun c14 => ?_) (fun c14 => ?_)
  · have z14 := bI_ne0 c14
    refine m_iload_n dX11_told_20 rfl ?_
    refine m_iconst dX11_told_21 (by decide) ?_
    refine m_iconst dX11_told_22 (by decide) ?_
    refine m_Si [_, _, _] dX11_told_23 lk_X11_71 rfl rfl (Nat.le_of_ble_eq_true rfl) (by omega) x_isWithin ?_
    refine m_if_eq (tgt := 41) dX11_told_26 (by decide) (fun c26 => ?_) (fun c26 => ?_)
    · have z26 := bI_eq0 c26
      refine m_bipush dX11_told_41 rfl (by decide) ?_
      refine m_iret dX11_told_43 rfl ?_
      refine Eq.mp (congrArg (fun z => Q (some (vi z)) _ _ _) ?_) h
      unfold aTold
      (repeat' split) <;> first | rfl | omega
    · have z26 := bI_ne0 c26
      refine m_iload_n dX11_told_29 rfl ?_
      refine m_iconst dX11_told_30 (by decide) ?_
      refine m_iload_n dX11_told_31 rfl ?_
      refine m_Si [_] dX11_told_32 lk_X11_229 rfl rfl (Nat.le_of_ble_eq_true rfl) (by omega) x_mostKindTold ?_
      refine m_Si [_, _, _] dX11_told_35 lk_X11_71 rfl rfl (Nat.le_of_ble_eq_true rfl) (by omega) x_isWithin ?_
      refine m_if_ne (tgt := 44) dX11_told_38 (by decide) (fun c38 => ?_) (fun c38 => ?_)
      · have z38 := bI_ne0 c38
        have hO := ord_id (nm := nm) hm (show no ≤ 6 by omega) k
        have hq := hL.2.2 k
        refine m_aload_n dX11_told_44 rfl ?_
        refine m_gr (z := 1) dX11_told_45 fl_X11_19 oX_20 rfl rfl rX_20_1 ?_
        refine m_iload_n dX11_told_48 rfl ?_
        refine m_Vr [_] dX11_told_49 lk_X11_219 rfl oX_37 rfl (Nat.le_of_ble_eq_true rfl) (by omega) (x_numbered (by omega) hm (by omega) hc) ?_
        refine m_astore dX11_told_52 (by decide) rfl rfl ?_
        refine m_iload_n dX11_told_54 rfl ?_
        by_cases e55_0 : what = 0
        · refine m_tableIn (tgt := 88) 0 dX11_told_55 e55_0 (by decide) (by decide) rfl (by decide) ?_
          refine m_aload dX11_told_88 rfl ?_
          refine m_gr (z := 0) dX11_told_90 fl_X11_232 hO.1 rfl rfl hO.2.1 ?_
          refine m_iload_n dX11_told_93 rfl ?_
          refine m_iald dX11_told_94 hO.2.2.2.2.1 (by omega) (by split at z38 <;> omega) ?_
          refine m_iret dX11_told_95 rfl ?_
          refine Eq.mp (congrArg (fun z => Q (some (vi z)) _ _ _) ?_) h
          unfold aTold
          (repeat' split) <;> first | rfl | omega
        by_cases e55_1 : what = 1
        · refine m_tableIn (tgt := 96) 1 dX11_told_55 e55_1 (by decide) (by decide) rfl (by decide) ?_
          refine m_aload dX11_told_96 rfl ?_
          refine m_gr (z := 1) dX11_told_98 fl_X11_235 hO.1 rfl rfl hO.2.2.1 ?_
          refine m_iload_n dX11_told_101 rfl ?_
          refine m_iald dX11_told_102 hO.2.2.2.2.2.1 (by omega) (by split at z38 <;> omega) ?_
          refine m_iret dX11_told_103 rfl ?_
          refine Eq.mp (congrArg (fun z => Q (some (vi z)) _ _ _) ?_) h
          unfold aTold
          (repeat' split) <;> first | rfl | omega
        by_cases e55_2 : what = 2
        · refine m_tableIn (tgt := 104) 2 dX11_told_55 e55_2 (by decide) (by decide) rfl (by decide) ?_
          refine m_aload dX11_told_104 rfl ?_
          refine m_iload_n dX11_told_106 rfl ?_
          refine m_Vi [_] dX11_told_107 lk_X11_238 rfl hO.1 rfl (Nat.le_of_ble_eq_true rfl) (by omega) (x_isSentTwice (by omega) hO hq.1.1 (by omega) (by omega)) ?_
          refine m_if_eq (tgt := 117) dX11_told_110 (by decide) (fun c110 => ?_) (fun c110 => ?_)
          · have z2 := bI_eq0 c110
            rw [bP_f z2] at h
            refine m_iconst dX11_told_117 (by decide) ?_
            refine m_iret dX11_told_118 rfl ?_
            refine Eq.mp (congrArg (fun z => Q (some (vi z)) _ _ _) ?_) h
            unfold aTold
            (repeat' split) <;> first | rfl | omega
          · have z2 := bI_ne0 c110
            rw [bP_t z2] at h
            refine m_iconst dX11_told_113 (by decide) ?_
            refine m_goto (tgt := 118) dX11_told_114 (by decide) ?_
            refine m_iret dX11_told_118 rfl ?_
            refine Eq.mp (congrArg (fun z => Q (some (vi z)) _ _ _) ?_) h
            unfold aTold
            (repeat' split) <;> first | rfl | omega
        by_cases e55_3 : what = 3
        · refine m_tableIn (tgt := 119) 3 dX11_told_55 e55_3 (by decide) (by decide) rfl (by decide) ?_
          refine m_aload dX11_told_119 rfl ?_
          refine m_gi (z := 4) dX11_told_121 fl_X11_241 hO.1 rfl rfl ?_
          refine m_iret dX11_told_124 rfl ?_
          refine Eq.mp (congrArg (fun z => Q (some (vi z)) _ _ _) ?_) h
          unfold aTold
          (repeat' split) <;> first | rfl | omega
        by_cases e55_4 : what = 4
        · refine m_tableIn (tgt := 125) 4 dX11_told_55 e55_4 (by decide) (by decide) rfl (by decide) ?_
          refine m_aload dX11_told_125 rfl ?_
          refine m_gi (z := 5) dX11_told_127 fl_X11_244 hO.1 rfl rfl ?_
          refine m_iret dX11_told_130 rfl ?_
          refine Eq.mp (congrArg (fun z => Q (some (vi z)) _ _ _) ?_) h
          unfold aTold
          (repeat' split) <;> first | rfl | omega
        refine m_tableOut (tgt := 131) dX11_told_55 (by omega) (by decide) ?_
        refine m_aload dX11_told_131 rfl ?_
        refine m_iload_n dX11_told_133 rfl ?_
        refine m_Vi [_] dX11_told_134 lk_X11_247 rfl hO.1 rfl (Nat.le_of_ble_eq_true rfl) (by omega) (x_isNight (by omega) hO) ?_
        refine m_if_eq (tgt := 144) dX11_told_137 (by decide) (fun c137 => ?_) (fun c137 => ?_)
        · have z2 := bP_eq0 c137
          rw [bP_f z2] at h
          refine m_iconst dX11_told_144 (by decide) ?_
          refine m_iret dX11_told_145 rfl ?_
          refine Eq.mp (congrArg (fun z => Q (some (vi z)) _ _ _) ?_) h
          unfold aTold
          (repeat' split) <;> first | rfl | omega
        · have z2 := bP_ne0 c137
          rw [bP_t z2] at h
          refine m_iconst dX11_told_140 (by decide) ?_
          refine m_goto (tgt := 145) dX11_told_141 (by decide) ?_
          refine m_iret dX11_told_145 rfl ?_
          refine Eq.mp (congrArg (fun z => Q (some (vi z)) _ _ _) ?_) h
          unfold aTold
          (repeat' split) <;> first | rfl | omega
      · have z38 := bI_eq0 (show _ = (0 : Int) by omega)
        refine m_bipush dX11_told_41 rfl (by decide) ?_
        refine m_iret dX11_told_43 rfl ?_
        refine Eq.mp (congrArg (fun z => Q (some (vi z)) _ _ _) ?_) h
        unfold aTold
        (repeat' split) <;> first | rfl | omega
  · have z14 := bI_eq0 (show _ = (0 : Int) by omega)
    refine m_bipush dX11_told_17 rfl (by decide) ?_
    refine m_iret dX11_told_19 rfl ?_
    refine Eq.mp (congrArg (fun z => Q (some (vi z)) _ _ _) ?_) h
    unfold aTold
    (repeat' split) <;> first | rfl | omega
def aBack (m n p b : Int) : Int := if 0 ≤ m ∧ m ≤ n - 1 then p * b / 100 else -2
theorem px_back {m : Int} (hd : 3 ≤ d) (hI : PoI I nm no) : SP g d mX11_back 0 0 [vr 20, vi m] (shX nm no) (RX nm no) I (some (vi (aBack m nm (I (200 + m.toNat) 3) (I (goX I no (I (200 + m.toNat) 0) (I 43 5)) 5)))) (shX nm no) (RX nm no) I := by
  obtain ⟨a1, a2, a3, a4, a5, a6, a7, a8, a9, a10⟩ := id hI
  intro Q h
  refine C_of rfl (Nat.le_of_ble_eq_true rfl) rfl ?_
  refine m_aload_n dX11_back_0 rfl ?_
  refine m_iload_n dX11_back_1 rfl ?_
  refine m_Vi [_] dX11_back_2 lk_X11_122 rfl oX_20 rfl (Nat.le_of_ble_eq_true rfl) (by omega) (x_isMessage (by omega) ⟨by omega, by omega⟩) ?_
  refine m_if_ne (tgt := 11) dX11_back_5 (by decide) (fun c5 => ?_) (fun c5 => ?_)
  · have z5 := bI_ne0 c5
    have hq := sX_msg (no := no) (show m.toNat < nm by omega) a2
    have hs := a7 m.toNat (by omega)
    have hO := ord_id (nm := nm) a2 a6.2.1 (gbF I (I (200 + m.toNat) 0) (I 43 5) no)
    have hoi := (a6.2.2 (gbF I (I (200 + m.toNat) 0) (I 43 5) no)).2.2.1
    have hpb : 0 ≤ I (200 + m.toNat) 3 * I (goX I no (I (200 + m.toNat) 0) (I 43 5)) 5 ∧ I (200 + m.toNat) 3 * I (goX I no (I (200 + m.toNat) 0) (I 43 5)) 5 ≤ 9801 * 99 := ⟨Int.mul_nonneg hs.2.2.2.1.1 hoi.1, Int.mul_le_mul hs.2.2.2.1.2 hoi.2 hoi.1 (by omega)⟩
    refine m_aload_n dX11_back_11 rfl ?_
    refine m_gr (z := 2) dX11_back_12 fl_X11_28 oX_20 rfl rfl rX_20_2 ?_
    refine m_gr (z := 2) dX11_back_15 fl_X11_125 oX_43 rfl rfl rX_43_2 ?_
    refine m_iload_n dX11_back_18 rfl ?_
    refine m_al dX11_back_19 sX_44 (by decide) (by omega) (by omega) (rX_msg (by omega) (by omega)) ?_
    refine m_astore_n dX11_back_20 (by decide) rfl rfl ?_
    refine m_aload_n dX11_back_21 rfl ?_
    refine m_gi (z := 3) dX11_back_22 fl_X11_146 hq rfl rfl ?_
    refine m_aload_n dX11_back_25 rfl ?_
    refine m_gr (z := 1) dX11_back_26 fl_X11_19 oX_20 rfl rfl rX_20_1 ?_
    refine m_aload_n dX11_back_29 rfl ?_
    refine m_gi (z := 0) dX11_back_30 fl_X11_250 hq rfl rfl ?_
    refine m_aload_n dX11_back_33 rfl ?_
    refine m_gr (z := 2) dX11_back_34 fl_X11_28 oX_20 rfl rfl rX_20_2 ?_
    refine m_gi (z := 5) dX11_back_37 fl_X11_105 oX_43 rfl rfl ?_
    refine m_Vr [_, _] dX11_back_40 lk_X11_173 rfl oX_37 rfl (Nat.le_of_ble_eq_true rfl) (by omega) (x_goneBy (by omega) a2 a6.2.1 a6.1 hs.1.1 hs.1.2) ?_
    refine m_gi (z := 5) dX11_back_43 fl_X11_244 hO.1 rfl rfl ?_
    refine m_imul dX11_back_46 (by omega) ?_
    refine m_bipush dX11_back_47 rfl (by decide) ?_
    refine m_idiv dX11_back_49 (by omega) (by omega) ?_
    refine m_iret dX11_back_50 rfl ?_
    have e : aBack m nm (I (200 + m.toNat) 3) (I (goX I no (I (200 + m.toNat) 0) (I 43 5)) 5) = I (200 + m.toNat) 3 * I (goX I no (I (200 + m.toNat) 0) (I 43 5)) 5 / 100 := by unfold aBack; rw [if_pos (by omega)]
    rw [e] at h
    exact h
  · have z5 := bI_eq0 (show _ = (0 : Int) by omega)
    refine m_bipush dX11_back_8 rfl (by decide) ?_
    refine m_iret dX11_back_10 rfl ?_
    have e : aBack m nm (I (200 + m.toNat) 3) (I (goX I no (I (200 + m.toNat) 0) (I 43 5)) 5) = -2 := by unfold aBack; rw [if_neg (by omega)]
    rw [e] at h
    exact h
theorem py_back {m : Int} (hd : 2 ≤ d) (hS : SttI I nm no) : SP g d mX12_back 0 0 [vr 100, vi m] (shX nm no) (RX nm no) I (some (vi (aBack m nm (I 109 (6 * m + 5)) (lsO I (obF (I 117) (I 109 (6 * m + 1)) (I 100 0) no) 5 0 0)))) (shX nm no) (RX nm no) I := by
  have h13 := hS.2.2.2.1
  have h24 := hS.1.2.2.2.2.2
  intro Q h
  refine C_of rfl (Nat.le_of_ble_eq_true rfl) rfl ?_
  refine m_aload_n dX12_back_0 rfl ?_
  refine m_iload_n dX12_back_1 rfl ?_
  refine m_Vi [_] dX12_back_2 lk_X12_213 rfl oX_100 rfl (Nat.le_of_ble_eq_true rfl) (by omega) (y_isMessage (by omega) ⟨by omega, by omega⟩) ?_
  refine m_if_ne (tgt := 11) dX12_back_5 (by decide) (fun c5 => ?_) (fun c5 => ?_)
  · have z5 := bI_ne0 c5
    have hm5 := hS.2.2.2.2 m.toNat (by omega)
    have hs := hS.1.2.2.2.2.1 m.toNat (by omega)
    rw [show ((m.toNat : Nat) : Int) = m by omega] at hm5
    have ht : 0 ≤ I 109 (6 * m + 1) ∧ I 109 (6 * m + 1) < 8 := by rw [hm5.1]; exact hs.1
    have ob := obF_bd (I 117) (I 109 (6 * m + 1)) (I 100 0) no
    have hb : 0 ≤ (lsO I (obF (I 117) (I 109 (6 * m + 1)) (I 100 0) no) 5 0 0) ∧ (lsO I (obF (I 117) (I 109 (6 * m + 1)) (I 100 0) no) 5 0 0) ≤ 99 := by
      rw [← (hS.2.2.1.2.2.2 _ ob.1 ob.2).2.2.2.1]
      exact (hS.1.2.2.2.1.2.2 _).2.2.1
    have hp : 0 ≤ I 109 (6 * m + 5) ∧ I 109 (6 * m + 5) ≤ 9801 := by rw [hm5.2.2.2.2]; exact hs.2.2.2.1
    have hpb : 0 ≤ I 109 (6 * m + 5) * (lsO I (obF (I 117) (I 109 (6 * m + 1)) (I 100 0) no) 5 0 0) ∧ I 109 (6 * m + 5) * (lsO I (obF (I 117) (I 109 (6 * m + 1)) (I 100 0) no) 5 0 0) ≤ 9801 * 99 := ⟨Int.mul_nonneg hp.1 hb.1, Int.mul_le_mul hp.2 hb.2 hb.1 (by omega)⟩
    refine m_aload_n dX12_back_11 rfl ?_
    refine m_gr (z := 14) dX12_back_12 fl_X12_39 oX_100 rfl rfl rX_100_14 ?_
    refine m_bipush dX12_back_15 rfl (by decide) ?_
    refine m_iload_n dX12_back_17 rfl ?_
    refine m_imul dX12_back_18 (by omega) ?_
    refine m_iconst dX12_back_19 (by decide) ?_
    refine m_iadd dX12_back_20 (by omega) ?_
    refine m_iald dX12_back_21 sX_109 (by omega) (by omega) ?_
    refine m_aload_n dX12_back_22 rfl ?_
    refine m_aload_n dX12_back_23 rfl ?_
    refine m_aload_n dX12_back_24 rfl ?_
    refine m_gr (z := 14) dX12_back_25 fl_X12_39 oX_100 rfl rfl rX_100_14 ?_
    refine m_bipush dX12_back_28 rfl (by decide) ?_
    refine m_iload_n dX12_back_30 rfl ?_
    refine m_imul dX12_back_31 (by omega) ?_
    refine m_iconst dX12_back_32 (by decide) ?_
    refine m_iadd dX12_back_33 (by omega) ?_
    refine m_iald dX12_back_34 sX_109 (by omega) (by omega) ?_
    refine m_aload_n dX12_back_35 rfl ?_
    refine m_gi (z := 0) dX12_back_36 fl_X12_144 oX_100 rfl rfl ?_
    refine m_Vi [_, _] dX12_back_39 lk_X12_157 rfl oX_100 rfl (Nat.le_of_ble_eq_true rfl) (by omega) (y_ordersOf hS.2.2.1.1.1 hS.2.2.1.1.2.1 ht) ?_
    refine m_iconst dX12_back_42 (by decide) ?_
    refine m_iconst dX12_back_43 (by decide) ?_
    refine m_iconst dX12_back_44 (by decide) ?_
    refine m_Vi [_, _, _, _] dX12_back_45 lk_X12_160 rfl oX_100 rfl (Nat.le_of_ble_eq_true rfl) (by omega) (y_lastOf hS.2.2.1.1 ⟨ob.1, ob.2⟩) ?_
    refine m_imul dX12_back_48 (by omega) ?_
    refine m_bipush dX12_back_49 rfl (by decide) ?_
    refine m_idiv dX12_back_51 (by omega) (by omega) ?_
    refine m_iret dX12_back_52 rfl ?_
    have e : aBack m nm (I 109 (6 * m + 5)) (lsO I (obF (I 117) (I 109 (6 * m + 1)) (I 100 0) no) 5 0 0) = I 109 (6 * m + 5) * (lsO I (obF (I 117) (I 109 (6 * m + 1)) (I 100 0) no) 5 0 0) / 100 := by unfold aBack; rw [if_pos (by omega)]
    rw [e] at h
    exact h
  · have z5 := bI_eq0 (show _ = (0 : Int) by omega)
    refine m_bipush dX12_back_8 rfl (by decide) ?_
    refine m_iret dX12_back_10 rfl ?_
    have e : aBack m nm (I 109 (6 * m + 5)) (lsO I (obF (I 117) (I 109 (6 * m + 1)) (I 100 0) no) 5 0 0) = -2 := by unfold aBack; rw [if_neg (by omega)]
    rw [e] at h
    exact h
end
