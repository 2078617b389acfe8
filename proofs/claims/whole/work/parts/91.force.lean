/-! THE REFERENCE: findSteps, force -/
section
variable {g : GH} {d nm no : Nat} {I : II}
abbrev k1F : Int → Int := fun _ => 1
abbrev uAll : Int → Prop := fun _ => True
theorem okSt {I : II} (h : NetM I) : pOK (I 100 3) (I 103) (I 104) k1F uAll := fun v hv => by
  have z := h.2.2.2 v hv.1 hv.2.1
  exact ⟨z.1, z.2.1, Int.le_refl 1⟩
def stS (I : II) (r : Int → Int) : Prop := pSol (I 100 3) (I 103) (I 104) k1F uAll 0 r
theorem y_fs_113 {r0 : Int → Int} {v t : Int} {K : II} {Q : QT} (hN : NetM I) (hF : Fr112 I K) (h0 : 0 ≤ v) (h1 : v < I 100 3) (hb : ∀ o, 0 ≤ o → o < 8 → 0 ≤ K 112 o ∧ K 112 o ≤ 1000000)
    (hT : (pTurn (I 100 3) (I 103) (I 104) k1F uAll 0 r0 (K 112) (v + 1) ∧ K 112 (I 104 v) ≤ K 112 (I 103 v) + 1) ∨ (pTurn (I 100 3) (I 103) (I 104) k1F uAll 0 r0 (K 112) v ∧ K 112 (I 103 v) ≤ K 112 (I 104 v) + 1)) (hk : ∀ K', Fr112 I K' → pTurn (I 100 3) (I 103) (I 104) k1F uAll 0 r0 (K' 112) (v + 1) → T g d mX12_findSteps 0 0 40 [some (vr 100), some (vi t), some (vi (v + 1))] [] (shX nm no) (RX nm no) K' Q) : T g d mX12_findSteps 0 0 113 [some (vr 100), some (vi t), some (vi v)] [] (shX nm no) (RX nm no) K Q := by
  have k103 : K 103 = I 103 := hF 103 (by decide)
  have k104 : K 104 = I 104 := hF 104 (by decide)
  have k3 : K 100 3 = I 100 3 := by rw [hF 100 (by decide)]
  have hv := hN.2.2.2 v h0 h1
  have hw := hN.1
  have ba := hb _ hv.1.1 hv.1.2
  have bb := hb _ hv.2.1.1 hv.2.1.2
  have hin : pIn (I 100 3) uAll v := ⟨h0, h1, trivial⟩
  refine m_aload_n dX12_findSteps_113 rfl ?_
  refine m_gr (z := 17) dX12_findSteps_114 fl_X12_48 oX_100 rfl rfl rX_100_17 ?_
  refine m_aload_n dX12_findSteps_117 rfl ?_
  refine m_gr (z := 5) dX12_findSteps_118 fl_X12_19 oX_100 rfl rfl rX_100_5 ?_
  refine m_iload_n dX12_findSteps_121 rfl ?_
  refine m_iald dX12_findSteps_122 sX_104 (by omega) (by omega) ?_
  rw [k104]
  refine m_aload_n dX12_findSteps_123 rfl ?_
  refine m_gr (z := 17) dX12_findSteps_124 fl_X12_48 oX_100 rfl rfl rX_100_17 ?_
  refine m_aload_n dX12_findSteps_127 rfl ?_
  refine m_gr (z := 4) dX12_findSteps_128 fl_X12_16 oX_100 rfl rfl rX_100_4 ?_
  refine m_iload_n dX12_findSteps_131 rfl ?_
  refine m_iald dX12_findSteps_132 sX_103 (by omega) (by omega) ?_
  rw [k103]
  refine m_iald dX12_findSteps_133 sX_112 (by omega) (by omega) ?_
  refine m_iconst dX12_findSteps_134 (by decide) ?_
  refine m_iadd dX12_findSteps_135 (by omega) ?_
  refine m_aload_n dX12_findSteps_136 rfl ?_
  refine m_gr (z := 17) dX12_findSteps_137 fl_X12_48 oX_100 rfl rfl rX_100_17 ?_
  refine m_aload_n dX12_findSteps_140 rfl ?_
  refine m_gr (z := 5) dX12_findSteps_141 fl_X12_19 oX_100 rfl rfl rX_100_5 ?_
  refine m_iload_n dX12_findSteps_144 rfl ?_
  refine m_iald dX12_findSteps_145 sX_104 (by omega) (by omega) ?_
  rw [k104]
  refine m_iald dX12_findSteps_146 sX_112 (by omega) (by omega) ?_
  refine m_icmp_ge (tgt := 166) dX12_findSteps_147 (by decide) (fun c147 => ?_) (fun c147 => ?_)
  · refine m_aload_n dX12_findSteps_166 rfl ?_
    refine m_gr (z := 17) dX12_findSteps_167 fl_X12_48 oX_100 rfl rfl rX_100_17 ?_
    refine m_aload_n dX12_findSteps_170 rfl ?_
    refine m_gr (z := 5) dX12_findSteps_171 fl_X12_19 oX_100 rfl rfl rX_100_5 ?_
    refine m_iload_n dX12_findSteps_174 rfl ?_
    refine m_iald dX12_findSteps_175 sX_104 (by omega) (by omega) ?_
    rw [k104]
    refine m_iald dX12_findSteps_176 sX_112 (by omega) (by omega) ?_
    refine m_iast dX12_findSteps_177 sX_112 (by omega) (by omega) ?_
    first
    | (rw [upI_id]
       refine m_iinc dX12_findSteps_178 rfl (by decide) rfl rfl (by omega) ?_
       refine m_goto (tgt := 40) dX12_findSteps_181 (by decide) ?_
       refine hk _ hF ?_
       rcases hT with z | z
       · exact z.1
       · exact tn_ok (okSt hN) z.1 hin c147 z.2)
    | (refine m_iinc dX12_findSteps_178 rfl (by decide) rfl rfl (by omega) ?_
       refine m_goto (tgt := 40) dX12_findSteps_181 (by decide) ?_
       refine hk _ (fun x hx => by rw [upI_o hx]; exact hF x hx) ?_
       rw [upI_112]
       rcases hT with z | z
       · exact absurd z.2 (by omega)
       · exact tn_up (okSt hN) z.1 hin (Or.inl ⟨rfl, rfl⟩) (show K 112 (I 103 v) + 1 < K 112 (I 104 v) by omega))
  · refine m_aload_n dX12_findSteps_150 rfl ?_
    refine m_gr (z := 17) dX12_findSteps_151 fl_X12_48 oX_100 rfl rfl rX_100_17 ?_
    refine m_aload_n dX12_findSteps_154 rfl ?_
    refine m_gr (z := 4) dX12_findSteps_155 fl_X12_16 oX_100 rfl rfl rX_100_4 ?_
    refine m_iload_n dX12_findSteps_158 rfl ?_
    refine m_iald dX12_findSteps_159 sX_103 (by omega) (by omega) ?_
    rw [k103]
    refine m_iald dX12_findSteps_160 sX_112 (by omega) (by omega) ?_
    refine m_iconst dX12_findSteps_161 (by decide) ?_
    refine m_iadd dX12_findSteps_162 (by omega) ?_
    refine m_goto (tgt := 177) dX12_findSteps_163 (by decide) ?_
    refine m_iast dX12_findSteps_177 sX_112 (by omega) (by omega) ?_
    first
    | (rw [upI_id]
       refine m_iinc dX12_findSteps_178 rfl (by decide) rfl rfl (by omega) ?_
       refine m_goto (tgt := 40) dX12_findSteps_181 (by decide) ?_
       refine hk _ hF ?_
       rcases hT with z | z
       · exact z.1
       · exact tn_ok (okSt hN) z.1 hin c147 z.2)
    | (refine m_iinc dX12_findSteps_178 rfl (by decide) rfl rfl (by omega) ?_
       refine m_goto (tgt := 40) dX12_findSteps_181 (by decide) ?_
       refine hk _ (fun x hx => by rw [upI_o hx]; exact hF x hx) ?_
       rw [upI_112]
       rcases hT with z | z
       · exact absurd z.2 (by omega)
       · exact tn_up (okSt hN) z.1 hin (Or.inl ⟨rfl, rfl⟩) (show K 112 (I 103 v) + 1 < K 112 (I 104 v) by omega))
theorem y_fs_turn {r0 : Int → Int} {t : Int} {Q : QT} (hN : NetM I) (hk : ∀ (K' : II) (l2 : Int), Fr112 I K' → pTurn (I 100 3) (I 103) (I 104) k1F uAll 0 r0 (K' 112) (I 100 3) → T g d mX12_findSteps 0 0 184 [some (vr 100), some (vi t), some (vi l2)] [] (shX nm no) (RX nm no) K' Q) :
    ∀ (m : Nat) (v : Int) (K : II), (I 100 3 - v).toNat < m → 0 ≤ v → v ≤ I 100 3 → Fr112 I K → pTurn (I 100 3) (I 103) (I 104) k1F uAll 0 r0 (K 112) v → T g d mX12_findSteps 0 0 40 [some (vr 100), some (vi t), some (vi v)] [] (shX nm no) (RX nm no) K Q := by
  have hw := hN.1
  intro m
  induction m with
  | zero => intro v K hm; omega
  | succ m ih =>
    intro v K hm h0 h1 hF hT
    have k103 : K 103 = I 103 := hF 103 (by decide)
    have k104 : K 104 = I 104 := hF 104 (by decide)
    have k3 : K 100 3 = I 100 3 := by rw [hF 100 (by decide)]
    have hb := hT.1.2.1
    refine m_iload_n dX12_findSteps_40 rfl ?_
    refine m_aload_n dX12_findSteps_41 rfl ?_
    refine m_gi (z := 3) dX12_findSteps_42 fl_X12_127 oX_100 rfl rfl ?_
    rw [k3]
    refine m_icmp_ge (tgt := 184) dX12_findSteps_45 (by decide) (fun c45 => ?_) (fun c45 => ?_)
    · have ev : v = I 100 3 := by omega
      subst ev
      exact hk K _ hF hT
    · have hv := hN.2.2.2 v h0 (by omega)
      have ba := hb _ hv.1.1 hv.1.2
      have bb := hb _ hv.2.1.1 hv.2.1.2
      have hin : pIn (I 100 3) uAll v := ⟨h0, by omega, trivial⟩
      refine m_aload_n dX12_findSteps_48 rfl ?_
      refine m_gr (z := 17) dX12_findSteps_49 fl_X12_48 oX_100 rfl rfl rX_100_17 ?_
      refine m_aload_n dX12_findSteps_52 rfl ?_
      refine m_gr (z := 4) dX12_findSteps_53 fl_X12_16 oX_100 rfl rfl rX_100_4 ?_
      refine m_iload_n dX12_findSteps_56 rfl ?_
      refine m_iald dX12_findSteps_57 sX_103 (by omega) (by omega) ?_
      rw [k103]
      refine m_aload_n dX12_findSteps_58 rfl ?_
      refine m_gr (z := 17) dX12_findSteps_59 fl_X12_48 oX_100 rfl rfl rX_100_17 ?_
      refine m_aload_n dX12_findSteps_62 rfl ?_
      refine m_gr (z := 5) dX12_findSteps_63 fl_X12_19 oX_100 rfl rfl rX_100_5 ?_
      refine m_iload_n dX12_findSteps_66 rfl ?_
      refine m_iald dX12_findSteps_67 sX_104 (by omega) (by omega) ?_
      rw [k104]
      refine m_iald dX12_findSteps_68 sX_112 (by omega) (by omega) ?_
      refine m_iconst dX12_findSteps_69 (by decide) ?_
      refine m_iadd dX12_findSteps_70 (by omega) ?_
      refine m_aload_n dX12_findSteps_71 rfl ?_
      refine m_gr (z := 17) dX12_findSteps_72 fl_X12_48 oX_100 rfl rfl rX_100_17 ?_
      refine m_aload_n dX12_findSteps_75 rfl ?_
      refine m_gr (z := 4) dX12_findSteps_76 fl_X12_16 oX_100 rfl rfl rX_100_4 ?_
      refine m_iload_n dX12_findSteps_79 rfl ?_
      refine m_iald dX12_findSteps_80 sX_103 (by omega) (by omega) ?_
      rw [k103]
      refine m_iald dX12_findSteps_81 sX_112 (by omega) (by omega) ?_
      refine m_icmp_ge (tgt := 101) dX12_findSteps_82 (by decide) (fun c82 => ?_) (fun c82 => ?_)
      · refine m_aload_n dX12_findSteps_101 rfl ?_
        refine m_gr (z := 17) dX12_findSteps_102 fl_X12_48 oX_100 rfl rfl rX_100_17 ?_
        refine m_aload_n dX12_findSteps_105 rfl ?_
        refine m_gr (z := 4) dX12_findSteps_106 fl_X12_16 oX_100 rfl rfl rX_100_4 ?_
        refine m_iload_n dX12_findSteps_109 rfl ?_
        refine m_iald dX12_findSteps_110 sX_103 (by omega) (by omega) ?_
        rw [k103]
        refine m_iald dX12_findSteps_111 sX_112 (by omega) (by omega) ?_
        refine m_iast dX12_findSteps_112 sX_112 (by omega) (by omega) ?_
        first
        | (rw [upI_id]
           exact y_fs_113 hN hF h0 (by omega) hb (Or.inr ⟨hT, c82⟩) (fun K' f' t' => ih (v + 1) K' (by omega) (by omega) (by omega) f' t'))
        | (have hu := tn_up (okSt hN) hT hin (Or.inr ⟨rfl, rfl⟩) (show K 112 (I 104 v) + 1 < K 112 (I 103 v) by omega)
           rw [← upI_112] at hu
           refine y_fs_113 hN (fun x hx => by rw [upI_o hx]; exact hF x hx) h0 (by omega) hu.1.2.1 (Or.inl ⟨hu, ?_⟩) (fun K' f' t' => ih (v + 1) K' (by omega) (by omega) (by omega) f' t')
           rw [upI_s, upI_j (fun z => hv.2.2.1 z.symm)]
           omega)
      · refine m_aload_n dX12_findSteps_85 rfl ?_
        refine m_gr (z := 17) dX12_findSteps_86 fl_X12_48 oX_100 rfl rfl rX_100_17 ?_
        refine m_aload_n dX12_findSteps_89 rfl ?_
        refine m_gr (z := 5) dX12_findSteps_90 fl_X12_19 oX_100 rfl rfl rX_100_5 ?_
        refine m_iload_n dX12_findSteps_93 rfl ?_
        refine m_iald dX12_findSteps_94 sX_104 (by omega) (by omega) ?_
        rw [k104]
        refine m_iald dX12_findSteps_95 sX_112 (by omega) (by omega) ?_
        refine m_iconst dX12_findSteps_96 (by decide) ?_
        refine m_iadd dX12_findSteps_97 (by omega) ?_
        refine m_goto (tgt := 112) dX12_findSteps_98 (by decide) ?_
        refine m_iast dX12_findSteps_112 sX_112 (by omega) (by omega) ?_
        first
        | (rw [upI_id]
           exact y_fs_113 hN hF h0 (by omega) hb (Or.inr ⟨hT, c82⟩) (fun K' f' t' => ih (v + 1) K' (by omega) (by omega) (by omega) f' t'))
        | (have hu := tn_up (okSt hN) hT hin (Or.inr ⟨rfl, rfl⟩) (show K 112 (I 104 v) + 1 < K 112 (I 103 v) by omega)
           rw [← upI_112] at hu
           refine y_fs_113 hN (fun x hx => by rw [upI_o hx]; exact hF x hx) h0 (by omega) hu.1.2.1 (Or.inl ⟨hu, ?_⟩) (fun K' f' t' => ih (v + 1) K' (by omega) (by omega) (by omega) f' t')
           rw [upI_s, upI_j (fun z => hv.2.2.1 z.symm)]
           omega)
theorem y_fs_turns {s : Int → Int} {Q : QT} (hN : NetM I) (hs : stS I s) (h : ∀ J, Fr112 I J ∧ stS I (J 112) → Q none (shX nm no) (RX nm no) J) :
    ∀ (m t : Nat) (K : II) (l2 : Option AV), 8 - t < m → t ≤ 8 → Fr112 I K → pInv (I 100 3) (I 103) (I 104) k1F uAll 0 (K 112) → (pBad s (K 112) + t ≤ 8 ∨ pBad s (K 112) = 0) → T g d mX12_findSteps 0 0 32 [some (vr 100), some (vi t), l2] [] (shX nm no) (RX nm no) K Q := by
  have hw := hN.1
  intro m
  induction m with
  | zero => intro t K l2 hm; omega
  | succ m ih =>
    intro t K l2 hm ht hF hi hB
    have hO := okSt hN
    refine m_iload_n dX12_findSteps_32 rfl ?_
    refine m_bipush dX12_findSteps_33 rfl (by decide) ?_
    refine m_icmp_ge (tgt := 190) dX12_findSteps_35 (by decide) (fun c35 => ?_) (fun c35 => ?_)
    · have e0 : pBad s (K 112) = 0 := by omega
      refine m_vret dX12_findSteps_190 rfl ?_
      refine h K ⟨hF, p_congr hO (by decide) hs (fun o o0 o1 => Classical.byContradiction fun z => pc8_0 8 e0 o o0 (by omega) z)⟩
    · refine m_iconst dX12_findSteps_38 (by decide) ?_
      refine m_istore_n dX12_findSteps_39 (by decide) rfl rfl ?_
      refine y_fs_turn (r0 := K 112) hN (fun K' l2' f' t' => ?_) _ 0 K (Nat.lt_succ_self _) (by omega) (by omega) hF ⟨hi, fun o _ _ => Int.le_refl _, fun w hw' z => absurd hw'.1 (by omega)⟩
      refine m_iinc dX12_findSteps_184 rfl (by decide) rfl rfl (by omega) ?_
      refine m_goto (tgt := 32) dX12_findSteps_187 (by decide) ?_
      have z := ih (t + 1) K' (some (vi l2')) (by omega) (by omega) f' t'.1 (by
        by_cases e : 0 < pBad s (K 112)
        · have := p_bad hO (by decide) hs hi t' e
          omega
        · right
          have e0 : pBad s (K 112) = 0 := by omega
          have lo := p_low hO hs t'.1 (by decide)
          have le : pBad s (K' 112) ≤ pBad s (K 112) := pc8_le 8 (fun o o0 o1 z e1 => z (by
            have a := t'.2.1 o o0 (by omega)
            have b := lo o o0 (by omega)
            omega))
          omega)
      rw [show ((t + 1 : Nat) : Int) = (t : Int) + 1 by omega] at z
      exact z
theorem y_fs_init {Q : QT} (hk : ∀ K : II, Fr112 I K → K 112 0 = 0 → (∀ o : Int, 0 ≤ o → o < 8 → o ≠ 0 → K 112 o = 1000000) → T g d mX12_findSteps 0 0 30 [some (vr 100), some (vi 8), none] [] (shX nm no) (RX nm no) K Q) :
    ∀ (m : Nat) (i : Int) (K : II), (8 - i).toNat < m → 0 ≤ i → i ≤ 8 → Fr112 I K → (∀ o : Int, 0 ≤ o → o < i → K 112 o = if o = 0 then 0 else 1000000) → T g d mX12_findSteps 0 0 2 [some (vr 100), some (vi i), none] [] (shX nm no) (RX nm no) K Q := by
  intro m
  induction m with
  | zero => intro i K hm; omega
  | succ m ih =>
    intro i K hm h0 h1 hF hv
    refine m_iload_n dX12_findSteps_2 rfl ?_
    refine m_bipush dX12_findSteps_3 rfl (by decide) ?_
    refine m_icmp_ge (tgt := 30) dX12_findSteps_5 (by decide) (fun c5 => ?_) (fun c5 => ?_)
    · have ei : i = 8 := by omega
      subst ei
      exact hk K hF (by rw [hv 0 (by decide) (by decide)]; rfl) (fun o o0 o1 o2 => by rw [hv o o0 o1, if_neg o2])
    · refine m_aload_n dX12_findSteps_8 rfl ?_
      refine m_gr (z := 17) dX12_findSteps_9 fl_X12_48 oX_100 rfl rfl rX_100_17 ?_
      refine m_iload_n dX12_findSteps_12 rfl ?_
      refine m_iload_n dX12_findSteps_13 rfl ?_
      refine m_if_ne (tgt := 21) dX12_findSteps_14 (by decide) (fun c14 => ?_) (fun c14 => ?_)
      · refine m_ldc (a := 1000000) dX12_findSteps_21 kc_X12_167 rfl ?_
        refine m_iast dX12_findSteps_23 sX_112 (by omega) (by omega) ?_
        refine m_iinc dX12_findSteps_24 rfl (by decide) rfl rfl (by omega) ?_
        refine m_goto (tgt := 2) dX12_findSteps_27 (by decide) ?_
        refine ih (i + 1) _ (by omega) (by omega) (by omega) (fun x hx => by rw [upI_o hx]; exact hF x hx) (fun o o0 o1 => ?_)
        by_cases e : o = i
        · subst e
          rw [upI_s]
          first
          | rw [if_pos (by omega)]
          | rw [if_neg (by omega)]
        · rw [upI_j e]; exact hv o o0 (by omega)
      · refine m_iconst dX12_findSteps_17 (by decide) ?_
        refine m_goto (tgt := 23) dX12_findSteps_18 (by decide) ?_
        refine m_iast dX12_findSteps_23 sX_112 (by omega) (by omega) ?_
        refine m_iinc dX12_findSteps_24 rfl (by decide) rfl rfl (by omega) ?_
        refine m_goto (tgt := 2) dX12_findSteps_27 (by decide) ?_
        refine ih (i + 1) _ (by omega) (by omega) (by omega) (fun x hx => by rw [upI_o hx]; exact hF x hx) (fun o o0 o1 => ?_)
        by_cases e : o = i
        · subst e
          rw [upI_s]
          first
          | rw [if_pos (by omega)]
          | rw [if_neg (by omega)]
        · rw [upI_j e]; exact hv o o0 (by omega)
theorem y_findSteps (hN : NetM I) : SV g d mX12_findSteps [vr 100] (shX nm no) (RX nm no) I (fun J => Fr112 I J ∧ stS I (J 112)) := by
  intro Q h
  refine C_of rfl (Nat.le_of_ble_eq_true rfl) rfl ?_
  refine m_iconst dX12_findSteps_0 (by decide) ?_
  refine m_istore_n dX12_findSteps_1 (by decide) rfl rfl ?_
  refine y_fs_init (I := I) (fun K hF k0 kf => ?_) 9 0 I (by decide) (by decide) (by decide) (fun _ _ => rfl) (fun o o0 o1 => by omega)
  refine m_iconst dX12_findSteps_30 (by decide) ?_
  refine m_istore_n dX12_findSteps_31 (by decide) rfl rfl ?_
  have hO := okSt hN
  have hi : pInv (I 100 3) (I 103) (I 104) k1F uAll 0 (K 112) := p_start (by decide) k0 kf
  obtain ⟨s, hs⟩ := p_ex hO (by decide) _ _ (Nat.lt_succ_self _) hi
  have hb : pBad s (K 112) ≤ 8 := pc8_max 8
  exact y_fs_turns hN hs h 9 0 K none (by decide) (by decide) hF hi (Or.inl (by omega))
end
