/-! THE REFERENCE: force -/
section
variable {g : GH} {d nm no : Nat} {I : II}
/-- places b .. b + n - 1 of cell o hold f -/
def cpS (I : II) (o : Nat) (b : Int) (f : Int → Int) (n : Int) : II := fun x j => if x = o ∧ b ≤ j ∧ j < b + n then f (j - b) else I x j
theorem cpS_o {I : II} {o x : Nat} {b n : Int} {f : Int → Int} (h : x ≠ o) : cpS I o b f n x = I x := funext fun j => if_neg fun q => h q.1
theorem cpS_in {I : II} {o : Nat} {b n j : Int} {f : Int → Int} (h0 : 0 ≤ j) (h1 : j < n) : cpS I o b f n o (b + j) = f j := by
  unfold cpS
  rw [if_pos ⟨rfl, by omega, by omega⟩, show b + j - b = j by omega]
theorem cpS_out {I : II} {o x : Nat} {b n j : Int} {f : Int → Int} (h : j < b ∨ b + n ≤ j) : cpS I o b f n x j = I x j := if_neg fun q => by omega
theorem cpS_0 {I : II} {o : Nat} {b : Int} {f : Int → Int} : cpS I o b f 0 = I := by
  funext x j; exact if_neg fun q => by omega
theorem cpS_up {I : II} {o : Nat} {b n : Int} {f : Int → Int} (h : 0 ≤ n) : upI (cpS I o b f n) o (b + n) (f n) = cpS I o b f (n + 1) := by
  funext x j
  unfold upI cpS
  by_cases e : x = o ∧ j = b + n
  · rw [if_pos e, if_pos ⟨e.1, by omega, by omega⟩, show j - b = n by omega]
  · rw [if_neg e]
    by_cases e2 : x = o ∧ b ≤ j ∧ j < b + n
    · rw [if_pos e2, if_pos ⟨e2.1, e2.2.1, by omega⟩]
    · rw [if_neg e2, if_neg (fun q => by
        rcases (show j = b + n ∨ j < b + n by omega) with z | z
        · exact e ⟨q.1, z⟩
        · exact e2 ⟨q.1, q.2.1, z⟩)]
def knF (mi lg : Int) (s : Int → Int) : Int → Int := fun o => if 1000000 ≤ s o then -1 else mi + lg * s o
theorem kn_bd {mi lg a : Int} (hm : 0 ≤ mi ∧ mi ≤ 9000) (hl : 0 ≤ lg ∧ lg ≤ 99) (h0 : 0 ≤ a) (h1 : a < 1000000) : 0 ≤ lg * a ∧ lg * a ≤ 99000000 := by
  refine ⟨Int.mul_nonneg hl.1 h0, ?_⟩
  have := Int.mul_le_mul hl.2 (show a ≤ 1000000 by omega) h0 (by decide : (0 : Int) ≤ 99)
  omega
theorem y_fc_loop {J : II} {q : Nat} {Q : QT} (h27 : J 100 27 = q) (hq : q < 6) (hk : T g d mX12_force 0 0 56 [some (vr 100), some (vi 30)] [] (shX nm no) (RX nm no) (cpS J 116 (30 * (q : Int)) (J 114) 30) Q) :
    ∀ (m : Nat) (i : Int), (30 - i).toNat < m → 0 ≤ i → i ≤ 30 → T g d mX12_force 0 0 24 [some (vr 100), some (vi i)] [] (shX nm no) (RX nm no) (cpS J 116 (30 * (q : Int)) (J 114) i) Q := by
  intro m
  induction m with
  | zero => intro i hm; omega
  | succ m ih =>
    intro i hm h0 h1
    refine m_iload_n dX12_force_24 rfl ?_
    refine m_bipush dX12_force_25 rfl (by decide) ?_
    refine m_icmp_ge (tgt := 56) dX12_force_27 (by decide) (fun c27 => ?_) (fun c27 => ?_)
    · have ei : i = 30 := by omega
      subst ei
      exact hk
    · refine m_aload_n dX12_force_30 rfl ?_
      refine m_gr (z := 31) dX12_force_31 fl_X12_63 oX_100 rfl rfl rX_100_31 ?_
      refine m_bipush dX12_force_34 rfl (by decide) ?_
      refine m_aload_n dX12_force_36 rfl ?_
      refine m_gi (z := 27) dX12_force_37 fl_X12_310 oX_100 rfl rfl ?_
      rw [cpS_o (by decide), h27]
      refine m_imul dX12_force_40 (by omega) ?_
      refine m_iload_n dX12_force_41 rfl ?_
      refine m_iadd dX12_force_42 (by omega) ?_
      refine m_aload_n dX12_force_43 rfl ?_
      refine m_gr (z := 29) dX12_force_44 fl_X12_57 oX_100 rfl rfl rX_100_29 ?_
      refine m_iload_n dX12_force_47 rfl ?_
      refine m_iald dX12_force_48 sX_114 (by omega) (by omega) ?_
      rw [cpS_o (by decide)]
      refine m_iast dX12_force_49 sX_116 (by omega) (by omega) ?_
      refine m_iinc dX12_force_50 rfl (by decide) rfl rfl (by omega) ?_
      refine m_goto (tgt := 24) dX12_force_53 (by decide) ?_
      rw [cpS_up h0]
      exact ih (i + 1) (by omega) (by omega) (by omega)
theorem y_fk_loop {J : II} {q : Nat} {mi lg : Int} {Q : QT} (h27 : J 100 27 = q) (hq : q < 6) (h0' : J 100 0 = mi) (h26 : J 100 26 = lg) (hm' : 0 ≤ mi ∧ mi ≤ 9000) (hl : 0 ≤ lg ∧ lg ≤ 99) (hs : ∀ o, 0 ≤ o → o < 8 → 0 ≤ J 112 o ∧ J 112 o ≤ 1000000) (hk : T g d mX12_force 0 0 132 [some (vr 100), some (vi 8)] [] (shX nm no) (RX nm no) (cpS J 117 (8 * (q : Int)) (knF mi lg (J 112)) 8) Q) :
    ∀ (m : Nat) (i : Int), (8 - i).toNat < m → 0 ≤ i → i ≤ 8 → T g d mX12_force 0 0 75 [some (vr 100), some (vi i)] [] (shX nm no) (RX nm no) (cpS J 117 (8 * (q : Int)) (knF mi lg (J 112)) i) Q := by
  intro m
  induction m with
  | zero => intro i hm; omega
  | succ m ih =>
    intro i hm h0 h1
    refine m_iload_n dX12_force_75 rfl ?_
    refine m_bipush dX12_force_76 rfl (by decide) ?_
    refine m_icmp_ge (tgt := 132) dX12_force_78 (by decide) (fun c78 => ?_) (fun c78 => ?_)
    · have ei : i = 8 := by omega
      subst ei
      exact hk
    · have hb := hs i h0 (by omega)
      refine m_aload_n dX12_force_81 rfl ?_
      refine m_gr (z := 32) dX12_force_82 fl_X12_66 oX_100 rfl rfl rX_100_32 ?_
      refine m_bipush dX12_force_85 rfl (by decide) ?_
      refine m_aload_n dX12_force_87 rfl ?_
      refine m_gi (z := 27) dX12_force_88 fl_X12_310 oX_100 rfl rfl ?_
      rw [cpS_o (by decide), h27]
      refine m_imul dX12_force_91 (by omega) ?_
      refine m_iload_n dX12_force_92 rfl ?_
      refine m_iadd dX12_force_93 (by omega) ?_
      refine m_aload_n dX12_force_94 rfl ?_
      refine m_gr (z := 17) dX12_force_95 fl_X12_48 oX_100 rfl rfl rX_100_17 ?_
      refine m_iload_n dX12_force_98 rfl ?_
      refine m_iald dX12_force_99 sX_112 (by omega) (by omega) ?_
      rw [cpS_o (by decide)]
      refine m_ldc (a := 1000000) dX12_force_100 kc_X12_167 rfl ?_
      refine m_icmp_lt (tgt := 109) dX12_force_102 (by decide) (fun c102 => ?_) (fun c102 => ?_)
      · have hx := kn_bd hm' hl hb.1 c102
        refine m_aload_n dX12_force_109 rfl ?_
        refine m_gi (z := 0) dX12_force_110 fl_X12_144 oX_100 rfl rfl ?_
        rw [cpS_o (by decide), h0']
        refine m_aload_n dX12_force_113 rfl ?_
        refine m_gi (z := 26) dX12_force_114 fl_X12_54 oX_100 rfl rfl ?_
        rw [cpS_o (by decide), h26]
        refine m_aload_n dX12_force_117 rfl ?_
        refine m_gr (z := 17) dX12_force_118 fl_X12_48 oX_100 rfl rfl rX_100_17 ?_
        refine m_iload_n dX12_force_121 rfl ?_
        refine m_iald dX12_force_122 sX_112 (by omega) (by omega) ?_
        rw [cpS_o (by decide)]
        refine m_imul dX12_force_123 (by omega) ?_
        refine m_iadd dX12_force_124 (by omega) ?_
        refine m_iast dX12_force_125 sX_117 (by omega) (by omega) ?_
        first
        | rw [show mi + lg * J 112 i = knF mi lg (J 112) i from (if_neg (by omega)).symm]
        | rw [show (-1 : Int) = knF mi lg (J 112) i from (if_pos (by omega)).symm]
        refine m_iinc dX12_force_126 rfl (by decide) rfl rfl (by omega) ?_
        refine m_goto (tgt := 75) dX12_force_129 (by decide) ?_
        rw [cpS_up h0]
        exact ih (i + 1) (by omega) (by omega) (by omega)
      · refine m_iconst dX12_force_105 (by decide) ?_
        refine m_goto (tgt := 125) dX12_force_106 (by decide) ?_
        refine m_iast dX12_force_125 sX_117 (by omega) (by omega) ?_
        first
        | rw [show mi + lg * J 112 i = knF mi lg (J 112) i from (if_neg (by omega)).symm]
        | rw [show (-1 : Int) = knF mi lg (J 112) i from (if_pos (by omega)).symm]
        refine m_iinc dX12_force_126 rfl (by decide) rfl rfl (by omega) ?_
        refine m_goto (tgt := 75) dX12_force_129 (by decide) ?_
        rw [cpS_up h0]
        exact ih (i + 1) (by omega) (by omega) (by omega)
def FOP (f : Int → Int) (n : Int) (q : Nat) (I : II) (r : Int) (J : II) : Prop := (∃ k r', rdO f n k r' ∧ r' ≠ -1 ∧ r = -4 ∧ FrQ I J) ∨ (q = 6 ∧ (∃ k, rdO f n k (-1)) ∧ r = -5 ∧ FrQ I J) ∨ (q < 6 ∧ r = q ∧ ∃ k, rdO f n k (-1) ∧ ((∀ x, x ≠ 100 → x ≠ 112 → x ≠ 114 → x ≠ 115 → x ≠ 116 → x ≠ 117 → J x = I x) ∧ ∀ j : Int, (j < 20 ∨ 25 < j) → j ≠ 28 → j ≠ 18 → j ≠ 27 → J 100 j = I 100 j) ∧ (J 100 18 = 0 ∧ J 100 27 = (q : Int) + 1) ∧ (J 115 q = (k : Int) + 1 ∧ ∀ x : Int, x ≠ q → J 115 x = I 115 x) ∧ (∀ x : Int, 0 ≤ x → x < 3 * ((k : Int) + 1) → J 116 (30 * (q : Int) + x) = lvF f n x) ∧ (∀ x : Int, (x < 30 * (q : Int) ∨ 30 * (q : Int) + 30 ≤ x) → J 116 x = I 116 x) ∧ (∃ s, stS I s ∧ ∀ o : Int, 0 ≤ o → o < 8 → J 117 (8 * (q : Int) + o) = knF (I 100 0) (I 100 26) s o) ∧ ∀ x : Int, (x < 8 * (q : Int) ∨ 8 * (q : Int) + 8 ≤ x) → J 117 x = I 117 x)
theorem netM_cg {I J : II} (h : NetM I) (e0 : J 100 3 = I 100 3) (e1 : J 100 8 = I 100 8) (e2 : J 100 10 = I 100 10) (e3 : J 103 = I 103) (e4 : J 104 = I 104) (e5 : J 105 = I 105) (e6 : J 106 = I 106) : NetM J := by
  unfold NetM at *; rw [e0, e1, e2, e3, e4, e5, e6]; exact h
theorem py_force {f : Int → Int} {n : Int} {q : Nat} (hf : I 113 = f) (hn : I 100 18 = n) (hT : TyI I) (hN : NetM I) (h27 : I 100 27 = q) (hq : q ≤ 6) (hmi : 0 ≤ I 100 0 ∧ I 100 0 ≤ 9000) (hlg : 0 ≤ I 100 26 ∧ I 100 26 ≤ 99) (hd : 7 ≤ d) : SI g d mX12_force [vr 100] (shX nm no) (RX nm no) I (FOP f n q I) := by
  intro Q h
  refine C_of rfl (Nat.le_of_ble_eq_true rfl) rfl ?_
  refine m_aload_n dX12_force_0 rfl ?_
  refine m_VI [] dX12_force_1 lk_X12_307 rfl oX_100 rfl (Nat.le_of_ble_eq_true rfl) (by omega) (y_isRead hf hn hT (by omega)) ?_
  intro r1 I1 q1
  refine m_if_ne (tgt := 10) dX12_force_4 (by decide) (fun c4 => ?_) (fun c4 => ?_)
  · obtain ⟨f1, k1, rd1, j28, jv⟩ : FrQ I I1 ∧ ∃ k, rdO f n k (-1) ∧ I1 100 28 = (k : Int) + 1 ∧ ∀ x : Int, 0 ≤ x → x < 3 * ((k : Int) + 1) → I1 114 x = lvF f n x := (by rcases q1 with ⟨a, z | z⟩; exact ⟨a, z.2⟩; exact absurd z.1 c4)
    have j27 : I1 100 27 = q := (f1.2 27 (by decide) (by decide)).trans h27
    refine m_aload_n dX12_force_10 rfl ?_
    refine m_gi (z := 27) dX12_force_11 fl_X12_310 oX_100 rfl rfl ?_
    rw [j27]
    refine m_bipush dX12_force_14 rfl (by decide) ?_
    refine m_icmp_ne (tgt := 22) dX12_force_16 (by decide) (fun c16 => ?_) (fun c16 => ?_)
    · refine m_iconst dX12_force_22 (by decide) ?_
      refine m_istore_n dX12_force_23 (by decide) rfl rfl ?_
      have hk9 := rd1.1
      have z := y_fc_loop (g := g) (d := d) (nm := nm) (no := no) (J := I1) (q := q) (Q := Q) j27 (by omega) ?_ 31 0 (by decide) (by decide) (by decide)
      · rw [cpS_0] at z; exact z
      generalize hM : cpS I1 116 (30 * (q : Int)) (I1 114) 30 = M
      have mo : ∀ x, x ≠ 116 → M x = I1 x := fun x hx => by rw [← hM]; exact cpS_o hx
      have min_ : ∀ x : Int, 0 ≤ x → x < 30 → M 116 (30 * (q : Int) + x) = I1 114 x := fun x x0 x1 => by rw [← hM]; exact cpS_in x0 x1
      have mout : ∀ x : Int, (x < 30 * (q : Int) ∨ 30 * (q : Int) + 30 ≤ x) → M 116 x = I1 116 x := fun x hx => by rw [← hM]; exact cpS_out hx
      have m27 : M 100 27 = q := by rw [mo 100 (by decide)]; exact j27
      have m28 : M 100 28 = (k1 : Int) + 1 := by rw [mo 100 (by decide)]; exact j28
      refine m_aload_n dX12_force_56 rfl ?_
      refine m_gr (z := 30) dX12_force_57 fl_X12_60 oX_100 rfl rfl rX_100_30 ?_
      refine m_aload_n dX12_force_60 rfl ?_
      refine m_gi (z := 27) dX12_force_61 fl_X12_310 oX_100 rfl rfl ?_
      rw [m27]
      refine m_aload_n dX12_force_64 rfl ?_
      refine m_gi (z := 28) dX12_force_65 fl_X12_301 oX_100 rfl rfl ?_
      rw [m28]
      refine m_iast dX12_force_68 sX_115 (by omega) (by omega) ?_
      refine m_aload_n dX12_force_69 rfl ?_
      refine m_VV [] dX12_force_70 lk_X12_313 rfl oX_100 rfl (Nat.le_of_ble_eq_true rfl) (by omega) (y_findSteps (I := upI M 115 q ((k1 : Int) + 1)) (netM_cg hN (by rw [upI_o (by decide), mo 100 (by decide)]; exact f1.2 3 (by decide) (by decide)) (by rw [upI_o (by decide), mo 100 (by decide)]; exact f1.2 8 (by decide) (by decide)) (by rw [upI_o (by decide), mo 100 (by decide)]; exact f1.2 10 (by decide) (by decide)) (by rw [upI_o (by decide), mo 103 (by decide)]; exact f1.1 103 (by decide) (by decide)) (by rw [upI_o (by decide), mo 104 (by decide)]; exact f1.1 104 (by decide) (by decide)) (by rw [upI_o (by decide), mo 105 (by decide)]; exact f1.1 105 (by decide) (by decide)) (by rw [upI_o (by decide), mo 106 (by decide)]; exact f1.1 106 (by decide) (by decide)))) ?_
      intro I70 q70
      refine m_iconst dX12_force_73 (by decide) ?_
      refine m_istore_n dX12_force_74 (by decide) rfl rfl ?_
      obtain ⟨g70, s70⟩ := q70
      have a100 : I70 100 = I1 100 := by rw [g70 100 (by decide), upI_o (by decide), mo 100 (by decide)]
      have a115 : I70 115 = upF (I1 115) q ((k1 : Int) + 1) := by
        rw [g70 115 (by decide)]
        funext j
        show (if (115 : Nat) = 115 ∧ j = (q : Int) then _ else M 115 j) = (if j = (q : Int) then _ else I1 115 j)
        by_cases e : j = (q : Int)
        · rw [if_pos ⟨rfl, e⟩, if_pos e]
        · rw [if_neg (fun z => e z.2), if_neg e, mo 115 (by decide)]
      have a116 : I70 116 = M 116 := by rw [g70 116 (by decide), upI_o (by decide)]
      have a117 : I70 117 = I1 117 := by rw [g70 117 (by decide), upI_o (by decide), mo 117 (by decide)]
      have aS : stS I (I70 112) := by
        have s9 := s70
        unfold stS at s9 ⊢
        rw [upI_o (by decide), upI_o (by decide), upI_o (by decide), mo 100 (by decide), mo 103 (by decide), mo 104 (by decide), f1.2 3 (by decide) (by decide), f1.1 103 (by decide) (by decide), f1.1 104 (by decide) (by decide)] at s9
        exact s9
      have z := y_fk_loop (g := g) (d := d) (nm := nm) (no := no) (J := I70) (q := q) (mi := I 100 0) (lg := I 100 26) (Q := Q) (by rw [a100]; exact j27) (by omega) (by rw [a100]; exact f1.2 0 (by decide) (by decide)) (by rw [a100]; exact f1.2 26 (by decide) (by decide)) hmi hlg aS.1.2.1 ?_ 9 0 (by decide) (by decide) (by decide)
      · rw [cpS_0] at z; exact z
      refine m_aload_n dX12_force_132 rfl ?_
      refine m_iconst dX12_force_133 (by decide) ?_
      refine m_pi (z := 18) dX12_force_134 fl_X12_224 oX_100 rfl rfl rfl ?_
      refine m_aload_n dX12_force_137 rfl ?_
      refine m_dup dX12_force_138 (fun _ z => by cases z) ?_
      refine m_gi (z := 27) dX12_force_139 fl_X12_310 oX_100 rfl rfl ?_
      rw [upI_j (show (27 : Int) ≠ 18 by decide)]
      rw [cpS_o (by decide), a100, j27]
      refine m_iconst dX12_force_142 (by decide) ?_
      refine m_iadd dX12_force_143 (by omega) ?_
      refine m_pi (z := 27) dX12_force_144 fl_X12_310 oX_100 rfl rfl rfl ?_
      refine m_aload_n dX12_force_147 rfl ?_
      refine m_gi (z := 27) dX12_force_148 fl_X12_310 oX_100 rfl rfl ?_
      rw [upI_s]
      refine m_iconst dX12_force_151 (by decide) ?_
      refine m_isub dX12_force_152 (by omega) ?_
      refine m_iret dX12_force_153 rfl ?_
      rw [show (q : Int) + 1 - 1 = q by omega]
      refine h _ _ (Or.inr (Or.inr ⟨by omega, rfl, k1, rd1, ⟨fun x x1 x2 x3 x4 x5 x6 => ?_, fun j j1 j2 j3 j4 => ?_⟩, ⟨?_, upI_s⟩, ⟨?_, fun x hx => ?_⟩, fun x x0 x1 => ?_, fun x hx => ?_, ⟨I70 112, aS, fun o o0 o1 => ?_⟩, fun x hx => ?_⟩))
      · rw [upI_o x1, upI_o x1, cpS_o x6, g70 x x2, upI_o x4, mo x x5]; exact f1.1 x x1 x3
      · rw [upI_j j4, upI_j j3, cpS_o (by decide), a100]; exact f1.2 j j1 j2
      · rw [upI_j (by decide), upI_s]
      · rw [upI_o (by decide), upI_o (by decide), cpS_o (by decide), a115, upF_s]
      · rw [upI_o (by decide), upI_o (by decide), cpS_o (by decide), a115, upF_n hx]; exact congrFun (f1.1 115 (by decide) (by decide)) x
      · rw [upI_o (by decide), upI_o (by decide), cpS_o (by decide), a116, min_ x x0 (by omega)]; exact jv x x0 x1
      · rw [upI_o (by decide), upI_o (by decide), cpS_o (by decide), a116, mout x hx]; exact congrFun (f1.1 116 (by decide) (by decide)) x
      · rw [upI_o (by decide), upI_o (by decide)]; exact cpS_in o0 o1
      · rw [upI_o (by decide), upI_o (by decide), cpS_out hx, a117]; exact congrFun (f1.1 117 (by decide) (by decide)) x
    · refine m_bipush dX12_force_19 rfl (by decide) ?_
      refine m_iret dX12_force_21 rfl ?_
      exact h _ _ (Or.inr (Or.inl ⟨by omega, ⟨k1, rd1⟩, rfl, f1⟩))
  · obtain ⟨f1, k1, rd1, ne1⟩ : FrQ I I1 ∧ ∃ k, rdO f n k (I1 100 25) ∧ I1 100 25 ≠ -1 := (by rcases q1 with ⟨a, z | z⟩; exact absurd z.1 (by omega); exact ⟨a, z.2⟩)
    refine m_bipush dX12_force_7 rfl (by decide) ?_
    refine m_iret dX12_force_9 rfl ?_
    exact h _ _ (Or.inl ⟨k1, _, rd1, ne1, rfl, f1⟩)
end
