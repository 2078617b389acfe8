/-! REFERENCE: apart, lookAtRound, findRound, round -/
section
variable {g : GH} {d nm no : Nat} {I : II}
def BoyM (I : II) (n : Nat) : Prop := I 100 48 = n ∧ n ≤ 6 ∧ (∀ j : Nat, j < n → 0 ≤ I 130 j ∧ I 130 j ≤ 20) ∧ (∀ j : Nat, j < n → 0 ≤ I 131 j ∧ I 131 j ≤ 20) ∧ ∀ j : Nat, j < n → 0 ≤ I 132 j ∧ I 132 j ≤ 200
theorem y_apart {a b : Int} (ha : 0 ≤ a ∧ a ≤ 1000) (hb : 0 ≤ b ∧ b ≤ 1000) : SP g d mX12_apart 0 0 [vi a, vi b] (shX nm no) (RX nm no) I (some (vi (max (b - a) (-(b - a))))) (shX nm no) (RX nm no) I := by
  intro Q h
  refine C_of rfl (Nat.le_of_ble_eq_true rfl) rfl ?_
  refine m_iload_n dX12_apart_0 rfl ?_
  refine m_iload_n dX12_apart_1 rfl ?_
  refine m_icmp_ge (tgt := 11) dX12_apart_2 (by decide) (fun c2 => ?_) (fun c2 => ?_)
  · refine m_iload_n dX12_apart_11 rfl ?_
    refine m_iload_n dX12_apart_12 rfl ?_
    refine m_isub dX12_apart_13 (by omega) ?_
    refine m_iret dX12_apart_14 rfl ?_
    first | (rw [show max (b - a) (-(b - a)) = b - a by omega] at h; exact h) | (rw [show max (b - a) (-(b - a)) = a - b by omega] at h; exact h)
  · refine m_iload_n dX12_apart_5 rfl ?_
    refine m_iload_n dX12_apart_6 rfl ?_
    refine m_isub dX12_apart_7 (by omega) ?_
    refine m_goto (tgt := 14) dX12_apart_8 (by decide) ?_
    refine m_iret dX12_apart_14 rfl ?_
    first | (rw [show max (b - a) (-(b - a)) = b - a by omega] at h; exact h) | (rw [show max (b - a) (-(b - a)) = a - b by omega] at h; exact h)
def bsC (a b bl be : Int) : Prop := bl = -1 ∨ rLt a b bl be
theorem y_look_copy {n : Nat} {p : Nat → Nat} {Q : QT} (hn : n ≤ 6) (hI : I 100 48 = n) (h : Q none (shX nm no) (RX nm no) (cpI I 134 (I 133) n)) : ∀ (m i : Nat) (l1 l2 l3 l6 : Option AV) (a4 : Int), n - i < m → i ≤ n → T g d mX12_lookAtRound 0 0 147 [some (vr 100), l1, l2, l3, some (vi a4), some (vi i), l6] [] (shX nm no) (RX nm no) (cpI I 134 (I 133) i) Q := by
  intro m
  induction m with
  | zero => intro i l1 l2 l3 l6 a4 hm; omega
  | succ m ih =>
    intro i l1 l2 l3 l6 a4 hm hi
    have e48 : cpI I 134 (I 133) (i : Int) 100 48 = n := by rw [cpI_o (by decide)]; exact hI
    have e133 : cpI I 134 (I 133) (i : Int) 133 = I 133 := cpI_o (by decide)
    refine m_iload dX12_lookAtRound_147 rfl ?_
    refine m_aload_n dX12_lookAtRound_149 rfl ?_
    refine m_gi (z := 48) dX12_lookAtRound_150 fl_X12_355 oX_100 rfl rfl ?_
    rw [e48]
    refine m_icmp_ge (tgt := 176) dX12_lookAtRound_153 (by decide) (fun c153 => ?_) (fun c153 => ?_)
    · have ei : i = n := by omega
      subst ei
      refine m_vret dX12_lookAtRound_176 rfl ?_
      exact h
    · refine m_aload_n dX12_lookAtRound_156 rfl ?_
      refine m_gr (z := 53) dX12_lookAtRound_157 fl_X12_120 oX_100 rfl rfl rX_100_53 ?_
      refine m_iload dX12_lookAtRound_160 rfl ?_
      refine m_aload_n dX12_lookAtRound_162 rfl ?_
      refine m_gr (z := 52) dX12_lookAtRound_163 fl_X12_117 oX_100 rfl rfl rX_100_52 ?_
      refine m_iload dX12_lookAtRound_166 rfl ?_
      refine m_iald dX12_lookAtRound_168 sX_133 (by omega) (by omega) ?_
      rw [e133]
      refine m_iast dX12_lookAtRound_169 sX_134 (by omega) (by omega) ?_
      refine m_iinc dX12_lookAtRound_170 rfl (by decide) rfl rfl (by omega) ?_
      refine m_goto (tgt := 147) dX12_lookAtRound_173 (by decide) ?_
      rw [cpI_up (by omega)]
      exact ih (i + 1) _ _ _ _ _ (by omega) (by omega)
theorem y_look_loop {n : Nat} {p : Nat → Nat} {Q : QT} (hd : 1 ≤ d) (hI : BoyM I n) (hp : ∀ j : Nat, j < n → I 133 j = p j ∧ p j < n) (h : ∀ J, (bsC (rL (I 130) (I 131) (I 132) p n) (rTm (I 130) (I 131) p n) (I 100 54) (I 100 55) ∧ J = cpI (upI (upI I 100 54 (rL (I 130) (I 131) (I 132) p n)) 100 55 (rTm (I 130) (I 131) p n)) 134 (I 133) n) ∨ (¬ bsC (rL (I 130) (I 131) (I 132) p n) (rTm (I 130) (I 131) p n) (I 100 54) (I 100 55) ∧ J = I) → Q none (shX nm no) (RX nm no) J) : ∀ (m i : Nat) (l6 : Option AV), n - i < m → i ≤ n → T g d mX12_lookAtRound 0 0 12 [some (vr 100), some (vi (rX (I 130) p i)), some (vi (rX (I 131) p i)), some (vi (rTm (I 130) (I 131) p i)), some (vi (rL (I 130) (I 131) (I 132) p i)), some (vi i), l6] [] (shX nm no) (RX nm no) I Q := by
  obtain ⟨c1, c2, c3, c4, c5⟩ := hI
  intro m
  induction m with
  | zero => intro i l6 hm; omega
  | succ m ih =>
    intro i l6 hm hi
    have tb := rT_bd c3 c4 (q := p) i (fun j hj => (hp j (by omega)).2)
    have lb := rL_bd (X := I 130) (Y := I 131) (D := I 132) (q := p) i
    have xb : 0 ≤ rX (I 130) p i ∧ rX (I 130) p i ≤ 20 := by
      unfold rX; split
      · omega
      · exact c3 _ (hp (i - 1) (by omega)).2
    have yb : 0 ≤ rX (I 131) p i ∧ rX (I 131) p i ≤ 20 := by
      unfold rX; split
      · omega
      · exact c4 _ (hp (i - 1) (by omega)).2
    refine m_iload dX12_lookAtRound_12 rfl ?_
    refine m_aload_n dX12_lookAtRound_14 rfl ?_
    refine m_gi (z := 48) dX12_lookAtRound_15 fl_X12_355 oX_100 rfl rfl ?_
    refine m_icmp_ge (tgt := 99) dX12_lookAtRound_18 (by decide) (fun c18 => ?_) (fun c18 => ?_)
    · have ei : i = n := by omega
      subst ei
      refine m_aload_n dX12_lookAtRound_99 rfl ?_
      refine m_gi (z := 54) dX12_lookAtRound_100 fl_X12_358 oX_100 rfl rfl ?_
      refine m_iconst dX12_lookAtRound_103 (by decide) ?_
      refine m_icmp_eq (tgt := 133) dX12_lookAtRound_104 (by decide) (fun c104 => ?_) (fun c104 => ?_)
      · refine m_aload_n dX12_lookAtRound_133 rfl ?_
        refine m_iload dX12_lookAtRound_134 rfl ?_
        refine m_pi (z := 54) dX12_lookAtRound_136 fl_X12_358 oX_100 rfl rfl rfl ?_
        refine m_aload_n dX12_lookAtRound_139 rfl ?_
        refine m_iload_n dX12_lookAtRound_140 rfl ?_
        refine m_pi (z := 55) dX12_lookAtRound_141 fl_X12_361 oX_100 rfl rfl rfl ?_
        refine m_iconst dX12_lookAtRound_144 (by decide) ?_
        refine m_istore dX12_lookAtRound_145 (by decide) rfl rfl ?_
        have z := y_look_copy (g := g) (d := d) (nm := nm) (no := no) (p := p) (I := (upI (upI I 100 54 (rL (I 130) (I 131) (I 132) p i)) 100 55 (rTm (I 130) (I 131) p i))) (Q := Q) c2 (by rw [upI_j (by decide), upI_j (by decide)]; exact c1) (h _ (Or.inl ⟨by unfold bsC rLt; omega, rfl⟩))
        have z2 := z (i + 1) 0
        rw [show ((0 : Nat) : Int) = 0 from rfl, cpI_0] at z2
        exact z2 _ _ _ _ _ (by omega) (by omega)
      · refine m_iload dX12_lookAtRound_107 rfl ?_
        refine m_aload_n dX12_lookAtRound_109 rfl ?_
        refine m_gi (z := 54) dX12_lookAtRound_110 fl_X12_358 oX_100 rfl rfl ?_
        refine m_icmp_lt (tgt := 133) dX12_lookAtRound_113 (by decide) (fun c113 => ?_) (fun c113 => ?_)
        · refine m_aload_n dX12_lookAtRound_133 rfl ?_
          refine m_iload dX12_lookAtRound_134 rfl ?_
          refine m_pi (z := 54) dX12_lookAtRound_136 fl_X12_358 oX_100 rfl rfl rfl ?_
          refine m_aload_n dX12_lookAtRound_139 rfl ?_
          refine m_iload_n dX12_lookAtRound_140 rfl ?_
          refine m_pi (z := 55) dX12_lookAtRound_141 fl_X12_361 oX_100 rfl rfl rfl ?_
          refine m_iconst dX12_lookAtRound_144 (by decide) ?_
          refine m_istore dX12_lookAtRound_145 (by decide) rfl rfl ?_
          have z := y_look_copy (g := g) (d := d) (nm := nm) (no := no) (p := p) (I := (upI (upI I 100 54 (rL (I 130) (I 131) (I 132) p i)) 100 55 (rTm (I 130) (I 131) p i))) (Q := Q) c2 (by rw [upI_j (by decide), upI_j (by decide)]; exact c1) (h _ (Or.inl ⟨by unfold bsC rLt; omega, rfl⟩))
          have z2 := z (i + 1) 0
          rw [show ((0 : Nat) : Int) = 0 from rfl, cpI_0] at z2
          exact z2 _ _ _ _ _ (by omega) (by omega)
        · refine m_iload dX12_lookAtRound_116 rfl ?_
          refine m_aload_n dX12_lookAtRound_118 rfl ?_
          refine m_gi (z := 54) dX12_lookAtRound_119 fl_X12_358 oX_100 rfl rfl ?_
          refine m_icmp_ne (tgt := 176) dX12_lookAtRound_122 (by decide) (fun c122 => ?_) (fun c122 => ?_)
          · refine m_vret dX12_lookAtRound_176 rfl ?_
            exact h _ (Or.inr ⟨by unfold bsC rLt; omega, rfl⟩)
          · refine m_iload_n dX12_lookAtRound_125 rfl ?_
            refine m_aload_n dX12_lookAtRound_126 rfl ?_
            refine m_gi (z := 55) dX12_lookAtRound_127 fl_X12_361 oX_100 rfl rfl ?_
            refine m_icmp_ge (tgt := 176) dX12_lookAtRound_130 (by decide) (fun c130 => ?_) (fun c130 => ?_)
            · refine m_vret dX12_lookAtRound_176 rfl ?_
              exact h _ (Or.inr ⟨by unfold bsC rLt; omega, rfl⟩)
            · refine m_aload_n dX12_lookAtRound_133 rfl ?_
              refine m_iload dX12_lookAtRound_134 rfl ?_
              refine m_pi (z := 54) dX12_lookAtRound_136 fl_X12_358 oX_100 rfl rfl rfl ?_
              refine m_aload_n dX12_lookAtRound_139 rfl ?_
              refine m_iload_n dX12_lookAtRound_140 rfl ?_
              refine m_pi (z := 55) dX12_lookAtRound_141 fl_X12_361 oX_100 rfl rfl rfl ?_
              refine m_iconst dX12_lookAtRound_144 (by decide) ?_
              refine m_istore dX12_lookAtRound_145 (by decide) rfl rfl ?_
              have z := y_look_copy (g := g) (d := d) (nm := nm) (no := no) (p := p) (I := (upI (upI I 100 54 (rL (I 130) (I 131) (I 132) p i)) 100 55 (rTm (I 130) (I 131) p i))) (Q := Q) c2 (by rw [upI_j (by decide), upI_j (by decide)]; exact c1) (h _ (Or.inl ⟨by unfold bsC rLt; omega, rfl⟩))
              have z2 := z (i + 1) 0
              rw [show ((0 : Nat) : Int) = 0 from rfl, cpI_0] at z2
              exact z2 _ _ _ _ _ (by omega) (by omega)
    · have hpi := hp i (by omega)
      have q3 := c3 (p i) hpi.2
      have q4 := c4 (p i) hpi.2
      have q5 := c5 (p i) hpi.2
      have tb2 := rT_bd c3 c4 (q := p) (i + 1) (fun j hj => (hp j (by omega)).2)
      have eT : (rTm (I 130) (I 131) p (i + 1)) = (rTm (I 130) (I 131) p i) + max (I 130 (p i) - rX (I 130) p i) (-(I 130 (p i) - rX (I 130) p i)) + max (I 131 (p i) - rX (I 131) p i) (-(I 131 (p i) - rX (I 131) p i)) := rfl
      have eL : (rL (I 130) (I 131) (I 132) p (i + 1)) = if I 132 (p i) < (rTm (I 130) (I 131) p (i + 1)) then (rL (I 130) (I 131) (I 132) p i) + 1 else (rL (I 130) (I 131) (I 132) p i) := rfl
      have ex : I 130 (p i) = rX (I 130) p (i + 1) := by unfold rX; rw [if_neg (by omega)]; rfl
      have ey : I 131 (p i) = rX (I 131) p (i + 1) := by unfold rX; rw [if_neg (by omega)]; rfl
      refine m_aload_n dX12_lookAtRound_21 rfl ?_
      refine m_gr (z := 52) dX12_lookAtRound_22 fl_X12_117 oX_100 rfl rfl rX_100_52 ?_
      refine m_iload dX12_lookAtRound_25 rfl ?_
      refine m_iald dX12_lookAtRound_27 sX_133 (by omega) (by omega) ?_
      rw [hpi.1]
      refine m_istore dX12_lookAtRound_28 (by decide) rfl rfl ?_
      refine m_iload_n dX12_lookAtRound_30 rfl ?_
      refine m_iload_n dX12_lookAtRound_31 rfl ?_
      refine m_aload_n dX12_lookAtRound_32 rfl ?_
      refine m_gr (z := 49) dX12_lookAtRound_33 fl_X12_108 oX_100 rfl rfl rX_100_49 ?_
      refine m_iload dX12_lookAtRound_36 rfl ?_
      refine m_iald dX12_lookAtRound_38 sX_130 (by omega) (by omega) ?_
      refine m_Si [_, _] dX12_lookAtRound_39 lk_X12_367 rfl rfl (Nat.le_of_ble_eq_true rfl) (by omega) (y_apart ⟨by omega, by omega⟩ ⟨by omega, by omega⟩) ?_
      refine m_iload_n dX12_lookAtRound_42 rfl ?_
      refine m_aload_n dX12_lookAtRound_43 rfl ?_
      refine m_gr (z := 50) dX12_lookAtRound_44 fl_X12_111 oX_100 rfl rfl rX_100_50 ?_
      refine m_iload dX12_lookAtRound_47 rfl ?_
      refine m_iald dX12_lookAtRound_49 sX_131 (by omega) (by omega) ?_
      refine m_Si [_, _] dX12_lookAtRound_50 lk_X12_367 rfl rfl (Nat.le_of_ble_eq_true rfl) (by omega) (y_apart ⟨by omega, by omega⟩ ⟨by omega, by omega⟩) ?_
      refine m_iadd dX12_lookAtRound_53 (by omega) ?_
      refine m_iadd dX12_lookAtRound_54 (by omega) ?_
      refine m_top (rTm (I 130) (I 131) p (i + 1)) (by rw [eT]; omega) ?_
      refine m_istore_n dX12_lookAtRound_55 (by decide) rfl rfl ?_
      refine m_aload_n dX12_lookAtRound_56 rfl ?_
      refine m_gr (z := 49) dX12_lookAtRound_57 fl_X12_108 oX_100 rfl rfl rX_100_49 ?_
      refine m_iload dX12_lookAtRound_60 rfl ?_
      refine m_iald dX12_lookAtRound_62 sX_130 (by omega) (by omega) ?_
      refine m_istore_n dX12_lookAtRound_63 (by decide) rfl rfl ?_
      refine m_aload_n dX12_lookAtRound_64 rfl ?_
      refine m_gr (z := 50) dX12_lookAtRound_65 fl_X12_111 oX_100 rfl rfl rX_100_50 ?_
      refine m_iload dX12_lookAtRound_68 rfl ?_
      refine m_iald dX12_lookAtRound_70 sX_131 (by omega) (by omega) ?_
      refine m_istore_n dX12_lookAtRound_71 (by decide) rfl rfl ?_
      refine m_iload dX12_lookAtRound_72 rfl ?_
      refine m_iload_n dX12_lookAtRound_74 rfl ?_
      refine m_aload_n dX12_lookAtRound_75 rfl ?_
      refine m_gr (z := 51) dX12_lookAtRound_76 fl_X12_114 oX_100 rfl rfl rX_100_51 ?_
      refine m_iload dX12_lookAtRound_79 rfl ?_
      refine m_iald dX12_lookAtRound_81 sX_132 (by omega) (by omega) ?_
      refine m_ticmp_le (tgt := 89) (M := 90) dX12_lookAtRound_82 (by decide) (fun c82 hM82 => by
          refine m_iconst dX12_lookAtRound_89 (by decide) ?_
          exact hM82
        ) (fun c82 hM82 => by
          refine m_iconst dX12_lookAtRound_85 (by decide) ?_
          refine m_goto (tgt := 90) dX12_lookAtRound_86 (by decide) ?_
          exact hM82
        ) ?_
      refine m_top (if I 132 (p i) < (rTm (I 130) (I 131) p (i + 1)) then 1 else 0) (by (repeat' split) <;> first | rfl | omega) ?_
      refine m_iadd dX12_lookAtRound_90 (by split <;> omega) ?_
      refine m_top (rL (I 130) (I 131) (I 132) p (i + 1)) (by rw [eL]; (repeat' split) <;> omega) ?_
      refine m_istore dX12_lookAtRound_91 (by decide) rfl rfl ?_
      refine m_iinc dX12_lookAtRound_93 rfl (by decide) rfl rfl (by omega) ?_
      refine m_goto (tgt := 12) dX12_lookAtRound_96 (by decide) ?_
      rw [ex, ey]
      exact ih (i + 1) _ (by omega) (by omega)
theorem y_lookAtRound {n : Nat} {p : Nat → Nat} (hd : 1 ≤ d) (hI : BoyM I n) (hp : ∀ j : Nat, j < n → I 133 j = p j ∧ p j < n) : SV g d mX12_lookAtRound [vr 100] (shX nm no) (RX nm no) I (fun J => (bsC (rL (I 130) (I 131) (I 132) p n) (rTm (I 130) (I 131) p n) (I 100 54) (I 100 55) ∧ J = cpI (upI (upI I 100 54 (rL (I 130) (I 131) (I 132) p n)) 100 55 (rTm (I 130) (I 131) p n)) 134 (I 133) n) ∨ (¬ bsC (rL (I 130) (I 131) (I 132) p n) (rTm (I 130) (I 131) p n) (I 100 54) (I 100 55) ∧ J = I)) := by
  intro Q h
  refine C_of rfl (Nat.le_of_ble_eq_true rfl) rfl ?_
  refine m_iconst dX12_lookAtRound_0 (by decide) ?_
  refine m_istore_n dX12_lookAtRound_1 (by decide) rfl rfl ?_
  refine m_iconst dX12_lookAtRound_2 (by decide) ?_
  refine m_istore_n dX12_lookAtRound_3 (by decide) rfl rfl ?_
  refine m_iconst dX12_lookAtRound_4 (by decide) ?_
  refine m_istore_n dX12_lookAtRound_5 (by decide) rfl rfl ?_
  refine m_iconst dX12_lookAtRound_6 (by decide) ?_
  refine m_istore dX12_lookAtRound_7 (by decide) rfl rfl ?_
  refine m_iconst dX12_lookAtRound_9 (by decide) ?_
  refine m_istore dX12_lookAtRound_10 (by decide) rfl rfl ?_
  exact y_look_loop hd hI hp h (n + 1) 0 _ (by omega) (by omega)
theorem bt_ext {a b : Int} (ha : 0 ≤ a) (hb : 0 ≤ b) (h : ∀ j : Nat, bt a j ↔ bt b j) : a = b := by
  have e : a.toNat = b.toNat := by
    refine Nat.eq_of_testBit_eq (fun j => ?_)
    have := h j
    unfold bt at this
    rw [Int.toNat_natCast] at this
    rcases h1 : a.toNat.testBit j with _ | _
    · rcases h2 : b.toNat.testBit j with _ | _
      · rfl
      · rw [h1, h2] at this; exact absurd (this.mpr rfl) (by decide)
    · rcases h2 : b.toNat.testBit j with _ | _
      · rw [h1, h2] at this; exact absurd (this.mp rfl) (by decide)
      · rfl
  omega
def FrL (I J : II) : Prop := (∀ x, x ≠ 100 → x ≠ 133 → x ≠ 134 → J x = I x) ∧ ∀ j : Int, j ≠ 54 → j ≠ 55 → J 100 j = I 100 j
theorem FrL_rf {I : II} : FrL I I := ⟨fun _ _ _ _ => rfl, fun _ _ _ => rfl⟩
theorem BoyM_fr {I J : II} {n : Nat} (h : FrL I J) (hI : BoyM I n) : BoyM J n := by
  unfold BoyM at *
  rw [h.2 48 (by decide) (by decide), h.1 130 (by decide) (by decide) (by decide), h.1 131 (by decide) (by decide) (by decide), h.1 132 (by decide) (by decide) (by decide)]
  exact hI
def BsM (I J : II) (n v : Nat) : Prop := BsI (J 100 54 = -1) n (I 130) (I 131) (I 132) n v (J 100 54) (J 100 55) (J 134)
/-- the digits of row v behind place k are there: left of it lf remains -/
def dgI (J : II) (n v k lf : Nat) : Prop := lf < n ^ k ∧ (∀ j : Nat, k ≤ j → j < n → 0 ≤ J 133 j ∧ J 133 j < n) ∧ ∀ q : Nat → Nat, (∀ j : Nat, k ≤ j → j < n → (q j : Int) = J 133 j) → rN n q k = lf → rN n q n = v
def mtI (J : II) (n k : Nat) (met : Int) : Prop := (0 ≤ met ∧ met < 4096) ∧ ∀ b : Nat, bt met b ↔ ∃ j : Nat, k ≤ j ∧ j < n ∧ J 133 j = b
theorem dg_step {J : II} {n v k lf : Nat} (hk : k < n) (h : dgI J n v (k + 1) lf) : dgI (upI J 133 k ((lf % n : Nat) : Int)) n v k (lf / n) := by
  have hn : 0 < n := by omega
  refine ⟨Nat.div_lt_of_lt_mul (by have := h.1; rw [Nat.pow_succ, Nat.mul_comm] at this; exact this), fun j j1 j2 => ?_, fun q hq he => ?_⟩
  · have := Nat.mod_lt lf hn
    by_cases e : j = k
    · subst e; rw [upI_s]; omega
    · rw [upI_j (by omega)]; exact h.2.1 j (by omega) j2
  · refine h.2.2 q (fun j j1 j2 => by rw [hq j (by omega) j2, upI_j (by omega)]) ?_
    have hk2 := hq k (Nat.le_refl _) hk
    rw [upI_s] at hk2
    have hk3 : q k = lf % n := by omega
    show rN n q k * n + q k = lf
    rw [he, hk3, Nat.mul_comm]
    exact Nat.div_add_mod lf n
theorem mt_step {J : II} {n k : Nat} {met v : Int} (hn : n ≤ 6) (hk : k < n) (hv : 0 ≤ v ∧ v < n) (h : mtI J n (k + 1) met) : mtI (upI J 133 k v) n k (f_ior met (f_ishl 1 v)) := by
  have z := fun b : Nat => bt_or (j := (b : Int)) h.1.1 h.1.2 hv.1 (show v < 12 by omega) (by omega)
  refine ⟨⟨(z 0).1, (z 0).2.1⟩, fun b => ?_⟩
  rw [(z b).2.2, h.2 b]
  constructor
  · rintro (⟨j, j1, j2, j3⟩ | e)
    · exact ⟨j, by omega, j2, by rw [upI_j (by omega)]; exact j3⟩
    · exact ⟨k, Nat.le_refl _, hk, by rw [upI_s]; omega⟩
  · rintro ⟨j, j1, j2, j3⟩
    by_cases e : j = k
    · subst e; rw [upI_s] at j3; right; omega
    · rw [upI_j (by omega)] at j3; exact Or.inl ⟨j, by omega, j2, j3⟩
theorem rd_all {J : II} {n v : Nat} (h : dgI J n v 0 0) : (∀ j : Nat, j < n → J 133 j = ((J 133 j).toNat : Nat) ∧ (J 133 j).toNat < n) ∧ rN n (fun j => (J 133 j).toNat) n = v := by
  refine ⟨fun j hj => ?_, h.2.2 _ (fun j j1 j2 => ?_) rfl⟩
  · have := h.2.1 j (by omega) hj; omega
  · have := h.2.1 j (by omega) j2
    show (((J 133 j).toNat : Nat) : Int) = J 133 j
    omega
theorem mt_full {J : II} {n v : Nat} {met : Int} (hn : n ≤ 6) (hg : dgI J n v 0 0) (h : mtI J n 0 met) : met = f_ishl 1 n - 1 ↔ rG n (fun j => (J 133 j).toNat) := by
  have hb := fun j : Nat => bt_all (n := (n : Int)) (j := (j : Int)) (by omega) (by omega) (by omega)
  have hq := (rd_all hg).1
  constructor
  · intro e
    refine ⟨fun j hj => (hq j hj).2, surj_inj n _ (fun j hj => (hq j hj).2) (fun b hb2 => ?_)⟩
    have z := (h.2 b).mp (by rw [e]; exact (hb b).2.2.mpr (by omega))
    obtain ⟨j, j1, j2, j3⟩ := z
    exact ⟨j, j2, by show (J 133 j).toNat = b; omega⟩
  · intro e
    refine bt_ext h.1.1 (hb 0).1 (fun b => ?_)
    rw [h.2 b, (hb b).2.2]
    constructor
    · rintro ⟨j, j1, j2, j3⟩
      have := hq j j2; omega
    · intro hb2
      obtain ⟨j, j1, j2⟩ := inj_surj n _ e.1 e.2 b (by omega)
      exact ⟨j, by omega, j1, by have := hq j j1; have e2 : (J 133 j).toNat = b := j2; omega⟩
theorem pow6 {n i : Nat} (hn : n ≤ 6) (hi : i ≤ 6) : n ^ i ≤ 46656 := by
  have h1 : n ^ i ≤ 6 ^ i := Nat.pow_le_pow_left hn i
  have h2 : 6 ^ i ≤ 6 ^ 6 := Nat.pow_le_pow_right (by omega) hi
  have h3 : (6 : Nat) ^ 6 = 46656 := rfl
  omega
theorem y_fr_digits {n v : Nat} {Q : QT} (hn : n ≤ 6) (hv : v < 46656) (al : Int)
    (hk : ∀ (J : II) (met : Int), (∀ x, x ≠ 133 → J x = I x) → dgI J n v 0 0 → mtI J n 0 met → T g d mX12_findRound 0 0 100 [some (vr 100), some (vi al), some (vi v), some (vi 0), some (vi met), some (vi (-1))] [] (shX nm no) (RX nm no) J Q) (h48 : I 100 48 = n) :
    ∀ (k lf : Nat) (met : Int) (J : II), k ≤ n → (∀ x, x ≠ 133 → J x = I x) → dgI J n v k lf → mtI J n k met → lf < 50000 → T g d mX12_findRound 0 0 55 [some (vr 100), some (vi al), some (vi v), some (vi lf), some (vi met), some (vi ((k : Int) - 1))] [] (shX nm no) (RX nm no) J Q := by
  intro k
  induction k with
  | zero =>
    intro lf met J hkn hF hg hm hl
    have e0 : lf = 0 := by have := hg.1; rw [Nat.pow_zero] at this; omega
    subst e0
    refine m_iload dX12_findRound_55 rfl ?_
    refine m_if_lt (tgt := 100) dX12_findRound_57 (by decide) (fun c57 => ?_) (fun c57 => ?_)
    · exact hk J met hF hg hm
    · omega
  | succ k ih =>
    intro lf met J hkn hF hg hm hl
    have e48 : J 100 48 = n := by rw [hF 100 (by decide)]; exact h48
    rw [show ((k + 1 : Nat) : Int) - 1 = k by omega]
    have ed : (lf : Int) / n = ((lf / n : Nat) : Int) := rfl
    have em : (lf : Int) % n = ((lf % n : Nat) : Int) := rfl
    have hmod := Nat.mod_lt lf (show 0 < n by omega)
    have hdiv := Nat.div_le_self lf n
    refine m_iload dX12_findRound_55 rfl ?_
    refine m_if_lt (tgt := 100) dX12_findRound_57 (by decide) (fun c57 => ?_) (fun c57 => ?_)
    · omega
    · refine m_aload_n dX12_findRound_60 rfl ?_
      refine m_gr (z := 52) dX12_findRound_61 fl_X12_117 oX_100 rfl rfl rX_100_52 ?_
      refine m_iload dX12_findRound_64 rfl ?_
      refine m_iload_n dX12_findRound_66 rfl ?_
      refine m_aload_n dX12_findRound_67 rfl ?_
      refine m_gi (z := 48) dX12_findRound_68 fl_X12_355 oX_100 rfl rfl ?_
      rw [e48]
      refine m_irem dX12_findRound_71 (by omega) (by omega) ?_
      rw [em]
      refine m_iast dX12_findRound_72 sX_133 (by omega) (by omega) ?_
      refine m_iload dX12_findRound_73 rfl ?_
      refine m_iconst dX12_findRound_75 (by decide) ?_
      refine m_aload_n dX12_findRound_76 rfl ?_
      refine m_gr (z := 52) dX12_findRound_77 fl_X12_117 oX_100 rfl rfl rX_100_52 ?_
      refine m_iload dX12_findRound_80 rfl ?_
      refine m_iald dX12_findRound_82 sX_133 (by omega) (by omega) ?_
      rw [upI_s]
      refine m_ishl dX12_findRound_83 ?_
      refine m_ior dX12_findRound_84 ?_
      refine m_istore dX12_findRound_85 (by decide) rfl rfl ?_
      refine m_iload_n dX12_findRound_87 rfl ?_
      refine m_aload_n dX12_findRound_88 rfl ?_
      refine m_gi (z := 48) dX12_findRound_89 fl_X12_355 oX_100 rfl rfl ?_
      rw [upI_o (show (100 : Nat) ≠ 133 by omega)]
      rw [e48]
      refine m_idiv dX12_findRound_92 (by omega) (by omega) ?_
      rw [ed]
      refine m_istore_n dX12_findRound_93 (by decide) rfl rfl ?_
      refine m_iinc dX12_findRound_94 rfl (by decide) rfl rfl (by omega) ?_
      refine m_goto (tgt := 55) dX12_findRound_97 (by decide) ?_
      refine ih (lf / n) _ _ (by omega) (fun x hx => by rw [upI_o hx]; exact hF x hx) (dg_step (by omega) hg) (mt_step hn (by omega) (by omega) hm) (by omega)
theorem y_fr_rows {n : Nat} {Q : QT} (hd : 2 ≤ d) (hI : BoyM I n)
    (h : ∀ J, FrL I J → BsM I J n (n ^ n) → Q none (shX nm no) (RX nm no) J) :
    ∀ (m v : Nat) (J : II) (l3 l4 l5 : Option AV), n ^ n - v < m → v ≤ n ^ n → FrL I J → BsM I J n v → T g d mX12_findRound 0 0 37 [some (vr 100), some (vi ((n ^ n : Nat) : Int)), some (vi v), l3, l4, l5] [] (shX nm no) (RX nm no) J Q := by
  have hp := pow6 hI.2.1 hI.2.1
  intro m
  induction m with
  | zero => intro v J l3 l4 l5 hm; omega
  | succ m ih =>
    intro v J l3 l4 l5 hm hv hF hB
    have e48 : J 100 48 = n := by rw [hF.2 48 (by decide) (by decide)]; exact hI.1
    have n6 := hI.2.1
    refine m_iload_n dX12_findRound_37 rfl ?_
    refine m_iload_n dX12_findRound_38 rfl ?_
    refine m_icmp_ge (tgt := 123) dX12_findRound_39 (by decide) (fun c39 => ?_) (fun c39 => ?_)
    · have ev : v = n ^ n := by omega
      rw [ev] at hB
      refine m_vret dX12_findRound_123 rfl ?_
      exact h J hF hB
    · refine m_iload_n dX12_findRound_42 rfl ?_
      refine m_istore_n dX12_findRound_43 (by decide) rfl rfl ?_
      refine m_iconst dX12_findRound_44 (by decide) ?_
      refine m_istore dX12_findRound_45 (by decide) rfl rfl ?_
      refine m_aload_n dX12_findRound_47 rfl ?_
      refine m_gi (z := 48) dX12_findRound_48 fl_X12_355 oX_100 rfl rfl ?_
      rw [e48]
      refine m_iconst dX12_findRound_51 (by decide) ?_
      refine m_isub dX12_findRound_52 (by omega) ?_
      refine m_istore dX12_findRound_53 (by decide) rfl rfl ?_
      refine y_fr_digits (I := J) (v := v) n6 (by omega) _ (fun K met hK hg hm => ?_) e48 n v 0 J (Nat.le_refl _) (fun _ _ => rfl) ⟨by omega, fun j j1 j2 => by omega, fun q _ e => e⟩ ⟨by omega, fun b => ⟨fun z => absurd z (bt_0 _), fun ⟨j, j1, j2, _⟩ => by omega⟩⟩ (by omega)
      have hF2 : FrL I K := ⟨fun x a b c => by rw [hK x b]; exact hF.1 x a b c, fun j a b => by rw [hK 100 (by decide)]; exact hF.2 j a b⟩
      have k48 : K 100 48 = n := by rw [hF2.2 48 (by decide) (by decide)]; exact hI.1
      have hM := mt_full n6 hg hm
      have hR := rd_all hg
      have hB2 : BsM I K n v := by unfold BsM at hB ⊢; rw [hK 100 (by decide), hK 134 (by decide)]; exact hB
      have hsh := bt_all (n := (n : Int)) (j := 0) (by omega) (by omega) (by omega)
      refine m_iload dX12_findRound_100 rfl ?_
      refine m_iconst dX12_findRound_102 (by decide) ?_
      refine m_aload_n dX12_findRound_103 rfl ?_
      refine m_gi (z := 48) dX12_findRound_104 fl_X12_355 oX_100 rfl rfl ?_
      rw [k48]
      refine m_ishl dX12_findRound_107 ?_
      refine m_iconst dX12_findRound_108 (by decide) ?_
      refine m_isub dX12_findRound_109 (by omega) ?_
      refine m_icmp_ne (tgt := 117) dX12_findRound_110 (by decide) (fun c110 => ?_) (fun c110 => ?_)
      · have hno : ¬ rG n (fun j => (K 133 j).toNat) := fun z => c110 (hM.mpr z)
        refine m_iinc dX12_findRound_117 rfl (by decide) rfl rfl (by omega) ?_
        refine m_goto (tgt := 37) dX12_findRound_120 (by decide) ?_
        first
        | (refine ih (v + 1) K _ _ _ (by omega) (by omega) hF2 (bs_skip hB2 (fun q hq hqv => ?_))
           exfalso
           have e := rN_inj n (fun j hj => ⟨(hR.1 j hj).2, hq.1 j hj⟩) (hR.2.trans hqv.symm)
           exact hno ⟨fun j hj => (hR.1 j hj).2, fun i j a b z => hq.2 i j a b (by rw [← e i (by omega), ← e j b]; exact z)⟩)
        | (have k130 : K 130 = I 130 := hF2.1 130 (by decide) (by decide) (by decide)
           have k131 : K 131 = I 131 := hF2.1 131 (by decide) (by decide) (by decide)
           have k132 : K 132 = I 132 := hF2.1 132 (by decide) (by decide) (by decide)
           rw [k130, k131, k132] at q114
           rcases q114 with ⟨w1, w2⟩ | ⟨w1, w2⟩
           · subst w2
             refine ih (v + 1) _ _ _ _ (by omega) (by omega) ⟨fun x a b c => by rw [cpI_o c, upI_o a, upI_o a]; exact hF2.1 x a b c, fun j a b => by rw [cpI_o (by decide), upI_j b, upI_j a]; exact hF2.2 j a b⟩ ?_
             unfold BsM
             rw [show ∀ (A : II) (f : Int → Int) (x : Int), cpI A 134 f x 100 = A 100 from fun A f x => cpI_o (by decide), upI_s, upI_j (show (54 : Int) ≠ 55 by decide), upI_s]
             have hN : K 100 54 = -1 → ∀ q, rG n q → ¬ rN n q n < v := fun zn q hq hqv => by
               rcases hB2.2 with z | ⟨q0, a1, a2, a3, a4⟩
               · exact z.2 q hq hqv
               · have := rL_bd (X := I 130) (Y := I 131) (D := I 132) (q := q0) n
                 omega
             have z := bs_take (best' := cpI (upI (upI K 100 54 (rL (I 130) (I 131) (I 132) (fun j => (K 133 j).toNat) n)) 100 55 (rTm (I 130) (I 131) (fun j => (K 133 j).toNat) n)) 134 (K 133) n 134) hB2 hG hR.2 w1 hN (fun j hj => by rw [cpI_in (by omega) (by omega)]; exact (hR.1 j hj).1)
             exact ⟨z.1, Or.inr (z.2.resolve_left (fun a => a.2 _ hG (by rw [hR.2]; omega)))⟩
           · subst w2
             refine ih (v + 1) _ _ _ _ (by omega) (by omega) hF2 (bs_skip hB2 (fun q hq hqv => ?_))
             have e := rN_inj n (fun j hj => ⟨hq.1 j hj, (hR.1 j hj).2⟩) (hqv.trans hR.2.symm)
             rw [rL_congr n e, rT_congr n e]
             unfold bsC rLt at w1
             unfold rLe
             constructor <;> omega)
      · have hG := hM.mp (by omega)
        refine m_aload_n dX12_findRound_113 rfl ?_
        refine m_VV [] dX12_findRound_114 lk_X12_364 rfl oX_100 rfl (Nat.le_of_ble_eq_true rfl) (by omega) (y_lookAtRound (n := n) (p := fun j => (K 133 j).toNat) (by omega) (BoyM_fr hF2 hI) (fun j hj => ⟨(hR.1 j hj).1, (hR.1 j hj).2⟩)) ?_
        intro I114 q114
        refine m_iinc dX12_findRound_117 rfl (by decide) rfl rfl (by omega) ?_
        refine m_goto (tgt := 37) dX12_findRound_120 (by decide) ?_
        first
        | (refine ih (v + 1) K _ _ _ (by omega) (by omega) hF2 (bs_skip hB2 (fun q hq hqv => ?_))
           exfalso
           have e := rN_inj n (fun j hj => ⟨(hR.1 j hj).2, hq.1 j hj⟩) (hR.2.trans hqv.symm)
           exact hno ⟨fun j hj => (hR.1 j hj).2, fun i j a b z => hq.2 i j a b (by rw [← e i (by omega), ← e j b]; exact z)⟩)
        | (have k130 : K 130 = I 130 := hF2.1 130 (by decide) (by decide) (by decide)
           have k131 : K 131 = I 131 := hF2.1 131 (by decide) (by decide) (by decide)
           have k132 : K 132 = I 132 := hF2.1 132 (by decide) (by decide) (by decide)
           rw [k130, k131, k132] at q114
           rcases q114 with ⟨w1, w2⟩ | ⟨w1, w2⟩
           · subst w2
             refine ih (v + 1) _ _ _ _ (by omega) (by omega) ⟨fun x a b c => by rw [cpI_o c, upI_o a, upI_o a]; exact hF2.1 x a b c, fun j a b => by rw [cpI_o (by decide), upI_j b, upI_j a]; exact hF2.2 j a b⟩ ?_
             unfold BsM
             rw [show ∀ (A : II) (f : Int → Int) (x : Int), cpI A 134 f x 100 = A 100 from fun A f x => cpI_o (by decide), upI_s, upI_j (show (54 : Int) ≠ 55 by decide), upI_s]
             have hN : K 100 54 = -1 → ∀ q, rG n q → ¬ rN n q n < v := fun zn q hq hqv => by
               rcases hB2.2 with z | ⟨q0, a1, a2, a3, a4⟩
               · exact z.2 q hq hqv
               · have := rL_bd (X := I 130) (Y := I 131) (D := I 132) (q := q0) n
                 omega
             have z := bs_take (best' := cpI (upI (upI K 100 54 (rL (I 130) (I 131) (I 132) (fun j => (K 133 j).toNat) n)) 100 55 (rTm (I 130) (I 131) (fun j => (K 133 j).toNat) n)) 134 (K 133) n 134) hB2 hG hR.2 w1 hN (fun j hj => by rw [cpI_in (by omega) (by omega)]; exact (hR.1 j hj).1)
             exact ⟨z.1, Or.inr (z.2.resolve_left (fun a => a.2 _ hG (by rw [hR.2]; omega)))⟩
           · subst w2
             refine ih (v + 1) _ _ _ _ (by omega) (by omega) hF2 (bs_skip hB2 (fun q hq hqv => ?_))
             have e := rN_inj n (fun j hj => ⟨hq.1 j hj, (hR.1 j hj).2⟩) (hqv.trans hR.2.symm)
             rw [rL_congr n e, rT_congr n e]
             unfold bsC rLt at w1
             unfold rLe
             constructor <;> omega)
theorem y_fr_pow {n : Nat} {Q : QT} (hn : n ≤ 6) (h48 : I 100 48 = n) (h : T g d mX12_findRound 0 0 25 [some (vr 100), some (vi ((n ^ n : Nat) : Int)), some (vi n), none, none, none] [] (shX nm no) (RX nm no) I Q) : ∀ (m i : Nat), n - i < m → i ≤ n → T g d mX12_findRound 0 0 4 [some (vr 100), some (vi ((n ^ i : Nat) : Int)), some (vi i), none, none, none] [] (shX nm no) (RX nm no) I Q := by
  intro m
  induction m with
  | zero => intro i hm; omega
  | succ m ih =>
    intro i hm hi
    have p1 := pow6 (n := n) (i := i) hn (by omega)
    refine m_iload_n dX12_findRound_4 rfl ?_
    refine m_aload_n dX12_findRound_5 rfl ?_
    refine m_gi (z := 48) dX12_findRound_6 fl_X12_355 oX_100 rfl rfl ?_
    refine m_icmp_ge (tgt := 25) dX12_findRound_9 (by decide) (fun c9 => ?_) (fun c9 => ?_)
    · have ei : i = n := by omega
      subst ei
      exact h
    · have p2 := pow6 (n := n) (i := i + 1) hn (by omega)
      have ep : ((n ^ i : Nat) : Int) * n = ((n ^ (i + 1) : Nat) : Int) := by rw [Nat.pow_succ]; exact (Int.natCast_mul _ _).symm
      refine m_iload_n dX12_findRound_12 rfl ?_
      refine m_aload_n dX12_findRound_13 rfl ?_
      refine m_gi (z := 48) dX12_findRound_14 fl_X12_355 oX_100 rfl rfl ?_
      rw [h48]
      refine m_imul dX12_findRound_17 (by rw [ep]; omega) ?_
      rw [ep]
      refine m_istore_n dX12_findRound_18 (by decide) rfl rfl ?_
      refine m_iinc dX12_findRound_19 rfl (by decide) rfl rfl (by omega) ?_
      refine m_goto (tgt := 4) dX12_findRound_22 (by decide) ?_
      exact ih (i + 1) (by omega) (by omega)
theorem y_findRound {n : Nat} (hd : 2 ≤ d) (hI : BoyM I n) : SV g d mX12_findRound [vr 100] (shX nm no) (RX nm no) I (fun J => FrL I J ∧ BsM I J n (n ^ n)) := by
  intro Q h
  refine C_of rfl (Nat.le_of_ble_eq_true rfl) rfl ?_
  refine m_iconst dX12_findRound_0 (by decide) ?_
  refine m_istore_n dX12_findRound_1 (by decide) rfl rfl ?_
  refine m_iconst dX12_findRound_2 (by decide) ?_
  refine m_istore_n dX12_findRound_3 (by decide) rfl rfl ?_
  refine y_fr_pow (n := n) hI.2.1 hI.1 ?_ (n + 1) 0 (by omega) (by omega)
  refine m_aload_n dX12_findRound_25 rfl ?_
  refine m_iconst dX12_findRound_26 (by decide) ?_
  refine m_pi (z := 54) dX12_findRound_27 fl_X12_358 oX_100 rfl rfl rfl ?_
  refine m_aload_n dX12_findRound_30 rfl ?_
  refine m_iconst dX12_findRound_31 (by decide) ?_
  refine m_pi (z := 55) dX12_findRound_32 fl_X12_361 oX_100 rfl rfl rfl ?_
  refine m_iconst dX12_findRound_35 (by decide) ?_
  refine m_istore_n dX12_findRound_36 (by decide) rfl rfl ?_
  exact y_fr_rows hd hI (fun J a b => h J ⟨a, b⟩) _ 0 _ _ _ _ (Nat.lt_succ_self _) (by omega) ⟨fun x a b c => by rw [upI_o a, upI_o a], fun j a b => by rw [upI_j b, upI_j a]⟩ ⟨fun q hq hv => by omega, Or.inl ⟨by rw [upI_j (by decide), upI_s], fun q hq hv => by omega⟩⟩
theorem py_round {k : Int} {n : Nat} (hd : 3 ≤ d) (hI : BoyM I n) : SI g d mX12_round [vr 100, vi k] (shX nm no) (RX nm no) I (fun r J => (k < 0 ∧ r = -3 ∧ J = I) ∨ (0 ≤ k ∧ FrL I J ∧ BsM I J n (n ^ n) ∧ r = (if k = 0 then J 100 54 else if k = 1 then J 100 55 else if k - 2 < n then J 134 (k - 2) else -1))) := by
  intro Q h
  refine C_of rfl (Nat.le_of_ble_eq_true rfl) rfl ?_
  refine m_iload_n dX12_round_0 rfl ?_
  refine m_if_ge (tgt := 7) dX12_round_1 (by decide) (fun c1 => ?_) (fun c1 => ?_)
  · refine m_aload_n dX12_round_7 rfl ?_
    refine m_VV [] dX12_round_8 lk_X12_370 rfl oX_100 rfl (Nat.le_of_ble_eq_true rfl) (by omega) (y_findRound (by omega) hI) ?_
    intro I8 q8
    obtain ⟨w1, w2⟩ := q8
    have w5 : I8 100 48 = n := by rw [w1.2 48 (by decide) (by decide)]; exact hI.1
    have w6 := hI.2.1
    refine m_iload_n dX12_round_11 rfl ?_
    refine m_if_ne (tgt := 22) dX12_round_12 (by decide) (fun c12 => ?_) (fun c12 => ?_)
    · refine m_iload_n dX12_round_22 rfl ?_
      refine m_iconst dX12_round_23 (by decide) ?_
      refine m_icmp_ne (tgt := 34) dX12_round_24 (by decide) (fun c24 => ?_) (fun c24 => ?_)
      · refine m_rngL 1 rfl (fun rk => ?_)
        unfold R32 at rk
        refine m_iload_n dX12_round_34 rfl ?_
        refine m_iconst dX12_round_35 (by decide) ?_
        refine m_isub dX12_round_36 (by omega) ?_
        refine m_aload_n dX12_round_37 rfl ?_
        refine m_gi (z := 48) dX12_round_38 fl_X12_355 oX_100 rfl rfl ?_
        refine m_icmp_ge (tgt := 55) dX12_round_41 (by decide) (fun c41 => ?_) (fun c41 => ?_)
        · refine m_iconst dX12_round_55 (by decide) ?_
          refine m_iret dX12_round_56 rfl ?_
          refine h _ _ (Or.inr ⟨by omega, w1, w2, ?_⟩)
          (repeat' split) <;> first | rfl | omega
        · refine m_aload_n dX12_round_44 rfl ?_
          refine m_gr (z := 53) dX12_round_45 fl_X12_120 oX_100 rfl rfl rX_100_53 ?_
          refine m_iload_n dX12_round_48 rfl ?_
          refine m_iconst dX12_round_49 (by decide) ?_
          refine m_isub dX12_round_50 (by omega) ?_
          refine m_iald dX12_round_51 sX_134 (by omega) (by omega) ?_
          refine m_goto (tgt := 56) dX12_round_52 (by decide) ?_
          refine m_iret dX12_round_56 rfl ?_
          refine h _ _ (Or.inr ⟨by omega, w1, w2, ?_⟩)
          (repeat' split) <;> first | rfl | omega
      · refine m_aload_n dX12_round_27 rfl ?_
        refine m_gi (z := 55) dX12_round_28 fl_X12_361 oX_100 rfl rfl ?_
        refine m_goto (tgt := 56) dX12_round_31 (by decide) ?_
        refine m_iret dX12_round_56 rfl ?_
        refine h _ _ (Or.inr ⟨by omega, w1, w2, ?_⟩)
        (repeat' split) <;> first | rfl | omega
    · refine m_aload_n dX12_round_15 rfl ?_
      refine m_gi (z := 54) dX12_round_16 fl_X12_358 oX_100 rfl rfl ?_
      refine m_goto (tgt := 56) dX12_round_19 (by decide) ?_
      refine m_iret dX12_round_56 rfl ?_
      refine h _ _ (Or.inr ⟨by omega, w1, w2, ?_⟩)
      (repeat' split) <;> first | rfl | omega
  · refine m_bipush dX12_round_4 rfl (by decide) ?_
    refine m_iret dX12_round_6 rfl ?_
    exact h _ _ (Or.inl ⟨by omega, rfl, rfl⟩)
end
