/-! THE REFERENCE: isUp, nextOf -/
section
variable {g : GH} {d nm no : Nat} {I : II}
def NetM (I : II) : Prop := (0 ≤ I 100 3 ∧ I 100 3 ≤ 12) ∧ (0 ≤ I 100 8 ∧ I 100 8 ≤ 12) ∧ (0 ≤ I 100 10 ∧ I 100 10 ≤ 6) ∧ ∀ v, 0 ≤ v → v < I 100 3 → (0 ≤ I 103 v ∧ I 103 v < 8) ∧ (0 ≤ I 104 v ∧ I 104 v < 8) ∧ I 103 v ≠ I 104 v ∧ (1 ≤ I 105 v ∧ I 105 v ≤ 40) ∧ (I 106 v = 0 ∨ I 106 v = 1)
def sM (f : Int → Int) (v t k : Int) : Prop := f (3 * k) = v ∧ f (3 * k + 1) ≤ t ∧ t ≤ f (3 * k + 2)
def upM (I : II) (t v : Int) : Prop := v ≠ I 100 12 ∧ (∀ k, 0 ≤ k → k < I 100 8 → ¬ sM (I 107) v t k) ∧ ∀ k, 0 ≤ k → k < I 100 10 → ¬ sM (I 108) v t k
theorem y_up_st {v t : Int} {P0 : Prop} {Q : QT} (hd : 1 ≤ d) (hc : 0 ≤ I 100 8 ∧ I 100 8 ≤ 12) (hk : ∀ (f l4 : Int), isB f (P0 ∧ ∀ k, 0 ≤ k → k < I 100 8 → ¬ sM (I 107) v t k) → T g d mX12_isUp 0 0 84 [some (vr 100), some (vi v), some (vi t), some (vi f), some (vi l4)] [] (shX nm no) (RX nm no) I Q) : ∀ (m : Nat) (i f : Int), (I 100 8 - i).toNat < m → 0 ≤ i → i ≤ I 100 8 → isB f (P0 ∧ ∀ k, 0 ≤ k → k < i → ¬ sM (I 107) v t k) → T g d mX12_isUp 0 0 17 [some (vr 100), some (vi v), some (vi t), some (vi f), some (vi i)] [] (shX nm no) (RX nm no) I Q := by
  intro m
  induction m with
  | zero => intro i f hm; omega
  | succ m ih =>
    intro i f hm h0 h1 hf
    have hf1 := hf.1
    refine m_iload dX12_isUp_17 rfl ?_
    refine m_aload_n dX12_isUp_19 rfl ?_
    refine m_gi (z := 8) dX12_isUp_20 fl_X12_147 oX_100 rfl rfl ?_
    refine m_icmp_ge (tgt := 84) dX12_isUp_23 (by decide) (fun c23 => ?_) (fun c23 => ?_)
    · have ei : i = I 100 8 := by omega
      rw [ei] at hf
      exact hk _ _ hf
    · refine m_iload_n dX12_isUp_26 rfl ?_
      refine m_tif_eq (tgt := 76) (M := 77) dX12_isUp_27 (by decide) (fun c27 hM27 => by
          refine m_iconst dX12_isUp_76 (by decide) ?_
          exact hM27
        ) (fun c27 hM27 => by
          refine m_aload_n dX12_isUp_30 rfl ?_
          refine m_gr (z := 9) dX12_isUp_31 fl_X12_29 oX_100 rfl rfl rX_100_9 ?_
          refine m_iconst dX12_isUp_34 (by decide) ?_
          refine m_iload dX12_isUp_35 rfl ?_
          refine m_imul dX12_isUp_37 (by omega) ?_
          refine m_iald dX12_isUp_38 sX_107 (by omega) (by omega) ?_
          refine m_iload_n dX12_isUp_39 rfl ?_
          refine m_ticmp_ne (tgt := 72) (M := 77) dX12_isUp_40 (by decide) (fun c40 hM40 => by
              refine m_iconst dX12_isUp_72 (by decide) ?_
              refine m_goto (tgt := 77) dX12_isUp_73 (by decide) ?_
              exact hM40
            ) (fun c40 hM40 => by
              refine m_iload_n dX12_isUp_43 rfl ?_
              refine m_aload_n dX12_isUp_44 rfl ?_
              refine m_gr (z := 9) dX12_isUp_45 fl_X12_29 oX_100 rfl rfl rX_100_9 ?_
              refine m_iconst dX12_isUp_48 (by decide) ?_
              refine m_iload dX12_isUp_49 rfl ?_
              refine m_imul dX12_isUp_51 (by omega) ?_
              refine m_iconst dX12_isUp_52 (by decide) ?_
              refine m_iadd dX12_isUp_53 (by omega) ?_
              refine m_iald dX12_isUp_54 sX_107 (by omega) (by omega) ?_
              refine m_aload_n dX12_isUp_55 rfl ?_
              refine m_gr (z := 9) dX12_isUp_56 fl_X12_29 oX_100 rfl rfl rX_100_9 ?_
              refine m_iconst dX12_isUp_59 (by decide) ?_
              refine m_iload dX12_isUp_60 rfl ?_
              refine m_imul dX12_isUp_62 (by omega) ?_
              refine m_iconst dX12_isUp_63 (by decide) ?_
              refine m_iadd dX12_isUp_64 (by omega) ?_
              refine m_iald dX12_isUp_65 sX_107 (by omega) (by omega) ?_
              refine m_Si [_, _, _] dX12_isUp_66 lk_X12_123 rfl rfl (Nat.le_of_ble_eq_true rfl) (by omega) y_in ?_
              refine m_tif_ne (tgt := 76) (M := 77) dX12_isUp_69 (by decide) (fun c69 hM69 => by
                  have z69 := bI_ne0 c69
                  refine m_iconst dX12_isUp_76 (by decide) ?_
                  exact hM69
                ) (fun c69 hM69 => by
                  have z69 := bI_eq0 c69
                  refine m_iconst dX12_isUp_72 (by decide) ?_
                  refine m_goto (tgt := 77) dX12_isUp_73 (by decide) ?_
                  exact hM69
                ) ?_
              exact hM40
            ) ?_
          exact hM27
        ) ?_
      refine m_top (bI (f = 1 ∧ ¬ (I 107 (3 * i) = v ∧ I 107 (3 * i + 1) ≤ t ∧ t ≤ I 107 (3 * i + 2)))) (by
        unfold bI
        (repeat' split) <;> first | rfl | omega) ?_
      refine m_istore_n dX12_isUp_77 (by decide) rfl rfl ?_
      refine m_iinc dX12_isUp_78 rfl (by decide) rfl rfl (by omega) ?_
      refine m_goto (tgt := 17) dX12_isUp_81 (by decide) ?_
      refine ih (i + 1) _ (by omega) (by omega) (by omega) (isB_bI ?_)
      constructor
      · rintro ⟨z1, z2⟩
        obtain ⟨y1, y2⟩ := hf.2.mp z1
        refine ⟨y1, fun k k0 k1 => ?_⟩
        rcases (show k < i ∨ k = i by omega) with q | q
        · exact y2 k k0 q
        · subst q; exact z2
      · rintro ⟨y1, y2⟩
        exact ⟨hf.2.mpr ⟨y1, fun k k0 k1 => y2 k k0 (by omega)⟩, y2 i h0 (by omega)⟩
theorem y_up_le {v t : Int} {P0 : Prop} {Q : QT} (hd : 1 ≤ d) (hc : 0 ≤ I 100 10 ∧ I 100 10 ≤ 6) (hk : ∀ (f l4 : Int), isB f (P0 ∧ ∀ k, 0 ≤ k → k < I 100 10 → ¬ sM (I 108) v t k) → T g d mX12_isUp 0 0 154 [some (vr 100), some (vi v), some (vi t), some (vi f), some (vi l4)] [] (shX nm no) (RX nm no) I Q) : ∀ (m : Nat) (i f : Int), (I 100 10 - i).toNat < m → 0 ≤ i → i ≤ I 100 10 → isB f (P0 ∧ ∀ k, 0 ≤ k → k < i → ¬ sM (I 108) v t k) → T g d mX12_isUp 0 0 87 [some (vr 100), some (vi v), some (vi t), some (vi f), some (vi i)] [] (shX nm no) (RX nm no) I Q := by
  intro m
  induction m with
  | zero => intro i f hm; omega
  | succ m ih =>
    intro i f hm h0 h1 hf
    have hf1 := hf.1
    refine m_iload dX12_isUp_87 rfl ?_
    refine m_aload_n dX12_isUp_89 rfl ?_
    refine m_gi (z := 10) dX12_isUp_90 fl_X12_150 oX_100 rfl rfl ?_
    refine m_icmp_ge (tgt := 154) dX12_isUp_93 (by decide) (fun c93 => ?_) (fun c93 => ?_)
    · have ei : i = I 100 10 := by omega
      rw [ei] at hf
      exact hk _ _ hf
    · refine m_iload_n dX12_isUp_96 rfl ?_
      refine m_tif_eq (tgt := 146) (M := 147) dX12_isUp_97 (by decide) (fun c97 hM97 => by
          refine m_iconst dX12_isUp_146 (by decide) ?_
          exact hM97
        ) (fun c97 hM97 => by
          refine m_aload_n dX12_isUp_100 rfl ?_
          refine m_gr (z := 11) dX12_isUp_101 fl_X12_32 oX_100 rfl rfl rX_100_11 ?_
          refine m_iconst dX12_isUp_104 (by decide) ?_
          refine m_iload dX12_isUp_105 rfl ?_
          refine m_imul dX12_isUp_107 (by omega) ?_
          refine m_iald dX12_isUp_108 sX_108 (by omega) (by omega) ?_
          refine m_iload_n dX12_isUp_109 rfl ?_
          refine m_ticmp_ne (tgt := 142) (M := 147) dX12_isUp_110 (by decide) (fun c110 hM110 => by
              refine m_iconst dX12_isUp_142 (by decide) ?_
              refine m_goto (tgt := 147) dX12_isUp_143 (by decide) ?_
              exact hM110
            ) (fun c110 hM110 => by
              refine m_iload_n dX12_isUp_113 rfl ?_
              refine m_aload_n dX12_isUp_114 rfl ?_
              refine m_gr (z := 11) dX12_isUp_115 fl_X12_32 oX_100 rfl rfl rX_100_11 ?_
              refine m_iconst dX12_isUp_118 (by decide) ?_
              refine m_iload dX12_isUp_119 rfl ?_
              refine m_imul dX12_isUp_121 (by omega) ?_
              refine m_iconst dX12_isUp_122 (by decide) ?_
              refine m_iadd dX12_isUp_123 (by omega) ?_
              refine m_iald dX12_isUp_124 sX_108 (by omega) (by omega) ?_
              refine m_aload_n dX12_isUp_125 rfl ?_
              refine m_gr (z := 11) dX12_isUp_126 fl_X12_32 oX_100 rfl rfl rX_100_11 ?_
              refine m_iconst dX12_isUp_129 (by decide) ?_
              refine m_iload dX12_isUp_130 rfl ?_
              refine m_imul dX12_isUp_132 (by omega) ?_
              refine m_iconst dX12_isUp_133 (by decide) ?_
              refine m_iadd dX12_isUp_134 (by omega) ?_
              refine m_iald dX12_isUp_135 sX_108 (by omega) (by omega) ?_
              refine m_Si [_, _, _] dX12_isUp_136 lk_X12_123 rfl rfl (Nat.le_of_ble_eq_true rfl) (by omega) y_in ?_
              refine m_tif_ne (tgt := 146) (M := 147) dX12_isUp_139 (by decide) (fun c139 hM139 => by
                  have z69 := bI_ne0 c139
                  refine m_iconst dX12_isUp_146 (by decide) ?_
                  exact hM139
                ) (fun c139 hM139 => by
                  have z69 := bI_eq0 c139
                  refine m_iconst dX12_isUp_142 (by decide) ?_
                  refine m_goto (tgt := 147) dX12_isUp_143 (by decide) ?_
                  exact hM139
                ) ?_
              exact hM110
            ) ?_
          exact hM97
        ) ?_
      refine m_top (bI (f = 1 ∧ ¬ (I 108 (3 * i) = v ∧ I 108 (3 * i + 1) ≤ t ∧ t ≤ I 108 (3 * i + 2)))) (by
        unfold bI
        (repeat' split) <;> first | rfl | omega) ?_
      refine m_istore_n dX12_isUp_147 (by decide) rfl rfl ?_
      refine m_iinc dX12_isUp_148 rfl (by decide) rfl rfl (by omega) ?_
      refine m_goto (tgt := 87) dX12_isUp_151 (by decide) ?_
      refine ih (i + 1) _ (by omega) (by omega) (by omega) (isB_bI ?_)
      constructor
      · rintro ⟨z1, z2⟩
        obtain ⟨y1, y2⟩ := hf.2.mp z1
        refine ⟨y1, fun k k0 k1 => ?_⟩
        rcases (show k < i ∨ k = i by omega) with q | q
        · exact y2 k k0 q
        · subst q; exact z2
      · rintro ⟨y1, y2⟩
        exact ⟨hf.2.mpr ⟨y1, fun k k0 k1 => y2 k k0 (by omega)⟩, y2 i h0 (by omega)⟩
theorem y_isUp {v t : Int} (hd : 1 ≤ d) (hN : NetM I) : SP g d mX12_isUp 0 0 [vr 100, vi v, vi t] (shX nm no) (RX nm no) I (some (vi (bP (upM I t v)))) (shX nm no) (RX nm no) I := by
  intro Q h
  refine C_of rfl (Nat.le_of_ble_eq_true rfl) rfl ?_
  refine m_iload_n dX12_isUp_0 rfl ?_
  refine m_aload_n dX12_isUp_1 rfl ?_
  refine m_gi (z := 12) dX12_isUp_2 fl_X12_35 oX_100 rfl rfl ?_
  refine m_ticmp_eq (tgt := 12) (M := 13) dX12_isUp_5 (by decide) (fun c5 hM5 => by
      refine m_iconst dX12_isUp_12 (by decide) ?_
      exact hM5
    ) (fun c5 hM5 => by
      refine m_iconst dX12_isUp_8 (by decide) ?_
      refine m_goto (tgt := 13) dX12_isUp_9 (by decide) ?_
      exact hM5
    ) ?_
  refine m_top (bI (v ≠ I 100 12)) (by unfold bI; (repeat' split) <;> first | rfl | omega) ?_
  refine m_istore_n dX12_isUp_13 (by decide) rfl rfl ?_
  refine m_iconst dX12_isUp_14 (by decide) ?_
  refine m_istore dX12_isUp_15 (by decide) rfl rfl ?_
  refine y_up_st (P0 := v ≠ I 100 12) hd hN.2.1 (fun f l4 hf => ?_) _ 0 _ (Nat.lt_succ_self _) (by omega) hN.2.1.1 (isB_bI ⟨fun z => ⟨z, fun k k0 k1 => by omega⟩, fun z => z.1⟩)
  refine m_iconst dX12_isUp_84 (by decide) ?_
  refine m_istore dX12_isUp_85 (by decide) rfl rfl ?_
  refine y_up_le (P0 := v ≠ I 100 12 ∧ ∀ k, 0 ≤ k → k < I 100 8 → ¬ sM (I 107) v t k) hd hN.2.2.1 (fun f l4 hf => ?_) _ 0 _ (Nat.lt_succ_self _) (by omega) hN.2.2.1.1 (hf.cg ⟨fun z => ⟨z, fun k k0 k1 => by omega⟩, fun z => z.1⟩)
  refine m_iload_n dX12_isUp_154 rfl ?_
  refine m_zret dX12_isUp_155 rfl hf.1 ?_
  rw [(hf.cg ⟨fun z => ⟨z.1.1, z.1.2, z.2⟩, fun z => ⟨⟨z.1, z.2.1⟩, z.2.2⟩⟩ : isB f (upM I t v)).bp]
  exact h
def Fr112 (I J : II) : Prop := ∀ x, x ≠ 112 → J x = I x
theorem netM_fr {I J : II} (h : Fr112 I J) (hN : NetM I) : NetM J := by
  unfold NetM at *
  rw [h 100 (by decide), h 103 (by decide), h 104 (by decide), h 105 (by decide), h 106 (by decide)]
  exact hN
theorem upM_fr {I J : II} (h : Fr112 I J) (t v : Int) : upM J t v = upM I t v := by
  unfold upM
  rw [h 100 (by decide), h 107 (by decide), h 108 (by decide)]
abbrev KtM (I : II) (n : Int) : Int → Int := fun v => (n + I 105 v - 1) / I 105 v
theorem netOKM {I : II} (h : NetM I) {n : Int} (hn : 1 ≤ n) {U : Int → Prop} : pOK (I 100 3) (I 103) (I 104) (KtM I n) U := fun v hv => by
  have z := h.2.2.2 v hv.1 hv.2.1
  exact ⟨z.1, z.2.1, (tk_bd hn z.2.2.2.1.1).1⟩
def sum8 (r : Int → Int) : Int := r 0 + r 1 + r 2 + r 3 + r 4 + r 5 + r 6 + r 7
theorem sum8_up {r : Int → Int} {q v : Int} (hq : 0 ≤ q ∧ q < 8) (hv : v < r q) : sum8 (upF r q v) < sum8 r := by
  unfold sum8
  rcases (show q = 0 ∨ q = 1 ∨ q = 2 ∨ q = 3 ∨ q = 4 ∨ q = 5 ∨ q = 6 ∨ q = 7 by omega) with e | e | e | e | e | e | e | e <;> subst e <;> simp [upF] <;> omega
theorem upI_112 {I : II} {o v : Int} : upI I 112 o v 112 = upF (I 112) o v := by
  funext j
  unfold upI upF
  by_cases e : j = o
  · rw [if_pos ⟨rfl, e⟩, if_pos e]
  · rw [if_neg (fun q => e q.2), if_neg e]
/-- where half edge k leads to -/
def heA (I : II) (k : Int) : Int := if k % 2 = 0 then I 103 (k / 2) else I 104 (k / 2)
def heB (I : II) (k : Int) : Int := if k % 2 = 0 then I 104 (k / 2) else I 103 (k / 2)
/-- one pass over the half edges: nothing was changed and all seen stand, or the sum fell -/
def psI (I : II) (n : Int) (U : Int → Prop) (r0 : Int → Int) (k f : Int) (r : Int → Int) : Prop := (f = 0 ∧ r = r0 ∧ ∀ j, 0 ≤ j → j < k → U (j / 2) → r0 (heA I j) ≤ r0 (heB I j) + KtM I n (j / 2)) ∨ (f = 1 ∧ sum8 r < sum8 r0)
theorem ps_fix {I : II} {n : Int} {U : Int → Prop} {r0 r : Int → Int} (h : psI I n U r0 (2 * I 100 3) 0 r) : pFix (I 100 3) (I 103) (I 104) (KtM I n) U r := by
  rcases h with ⟨_, e, h⟩ | ⟨z, _⟩
  · subst e
    intro v hv
    have h1 := h (2 * v) (by have := hv.1; omega) (by have := hv.2.1; omega) (by rw [show 2 * v / 2 = v by omega]; exact hv.2.2)
    have h2 := h (2 * v + 1) (by have := hv.1; omega) (by have := hv.2.1; omega) (by rw [show (2 * v + 1) / 2 = v by omega]; exact hv.2.2)
    unfold heA heB at h1 h2
    rw [if_pos (by omega), if_pos (by omega), show 2 * v / 2 = v by omega] at h1
    rw [if_neg (by omega), if_neg (by omega), show (2 * v + 1) / 2 = v by omega] at h2
    exact ⟨h1, h2⟩
  · omega
theorem y_nx_pass {o to n t : Int} {r0 : Int → Int} {Q : QT} (hd : 2 ≤ d) (hN : NetM I) (hn : 1 ≤ n ∧ n ≤ 1000) (ht : 0 ≤ to ∧ to < 8)
    (hk : ∀ (J : II) (f l6 : Int) (l7 l8 l9 : Option AV), Fr112 I J → (f = 0 ∨ f = 1) → pInv (I 100 3) (I 103) (I 104) (KtM I n) (upM I t) to (J 112) → psI I n (upM I t) r0 (2 * I 100 3) f (J 112) → T g d mX12_nextOf 0 0 156 [some (vr 100), some (vi o), some (vi to), some (vi n), some (vi t), some (vi f), some (vi l6), l7, l8, l9] [] (shX nm no) (RX nm no) J Q) :
    ∀ (m : Nat) (k f : Int) (J : II) (l7 l8 l9 : Option AV), (2 * I 100 3 - k).toNat < m → 0 ≤ k → k ≤ 2 * I 100 3 → Fr112 I J → (f = 0 ∨ f = 1) → pInv (I 100 3) (I 103) (I 104) (KtM I n) (upM I t) to (J 112) → psI I n (upM I t) r0 k f (J 112) → T g d mX12_nextOf 0 0 49 [some (vr 100), some (vi o), some (vi to), some (vi n), some (vi t), some (vi f), some (vi k), l7, l8, l9] [] (shX nm no) (RX nm no) J Q := by
  have hO := netOKM hN hn.1 (U := upM I t)
  have hW := hN.1
  intro m
  induction m with
  | zero => intro k f J l7 l8 l9 hm; omega
  | succ m ih =>
    intro k f J l7 l8 l9 hm h0 h1 hF hf hI hp
    have e100 : J 100 = I 100 := hF 100 (by decide)
    have e103 : J 103 = I 103 := hF 103 (by decide)
    have e104 : J 104 = I 104 := hF 104 (by decide)
    have e105 : J 105 = I 105 := hF 105 (by decide)
    have hNJ := netM_fr hF hN
    refine m_iload dX12_nextOf_49 rfl ?_
    refine m_iconst dX12_nextOf_51 (by decide) ?_
    refine m_aload_n dX12_nextOf_52 rfl ?_
    refine m_gi (z := 3) dX12_nextOf_53 fl_X12_127 oX_100 rfl rfl ?_
    rw [e100]
    refine m_imul dX12_nextOf_56 (by omega) ?_
    refine m_icmp_ge (tgt := 156) dX12_nextOf_57 (by decide) (fun c57 => ?_) (fun c57 => ?_)
    · have ek : k = 2 * I 100 3 := by omega
      subst ek
      exact hk J f _ _ _ _ hF hf hI hp
    · have hv := hN.2.2.2 (k / 2) (by omega) (by omega)
      have hA : 0 ≤ heA I k ∧ heA I k < 8 := by unfold heA; split <;> omega
      have hB : 0 ≤ heB I k ∧ heB I k < 8 := by unfold heB; split <;> omega
      have eo : othF (I 103) (I 104) (k / 2) (heA I k) = heB I k := by
        unfold othF heA heB
        by_cases z : k % 2 = 0
        · rw [if_pos z, if_pos z, if_pos rfl]
        · rw [if_neg z, if_neg z, if_neg hv.2.2.1]
      have hrA := hI.2.1 (heA I k) hA.1 hA.2
      have hrB := hI.2.1 (heB I k) hB.1 hB.2
      have hK := tk_bd (n := n) (s := I 105 (k / 2)) hn.1 hv.2.2.2.1.1
      refine m_iload dX12_nextOf_60 rfl ?_
      refine m_iconst dX12_nextOf_62 (by decide) ?_
      refine m_idiv dX12_nextOf_63 (by omega) (by omega) ?_
      refine m_istore dX12_nextOf_64 (by decide) rfl rfl ?_
      refine m_iload dX12_nextOf_66 rfl ?_
      refine m_iconst dX12_nextOf_68 (by decide) ?_
      refine m_irem dX12_nextOf_69 (by omega) (by omega) ?_
      refine m_tif_ne (tgt := 83) (M := 90) dX12_nextOf_70 (by decide) (fun c70 hM70 => by
          refine m_aload_n dX12_nextOf_83 rfl ?_
          refine m_gr (z := 5) dX12_nextOf_84 fl_X12_19 oX_100 rfl rfl rX_100_5 ?_
          refine m_iload dX12_nextOf_87 rfl ?_
          refine m_iald dX12_nextOf_89 sX_104 (by omega) (by omega) ?_
          exact hM70
        ) (fun c70 hM70 => by
          refine m_aload_n dX12_nextOf_73 rfl ?_
          refine m_gr (z := 4) dX12_nextOf_74 fl_X12_16 oX_100 rfl rfl rX_100_4 ?_
          refine m_iload dX12_nextOf_77 rfl ?_
          refine m_iald dX12_nextOf_79 sX_103 (by omega) (by omega) ?_
          refine m_goto (tgt := 90) dX12_nextOf_80 (by decide) ?_
          exact hM70
        ) ?_
      refine m_top (heA I k) (by rw [e103, e104]; unfold heA; (repeat' split) <;> first | rfl | omega) ?_
      refine m_istore dX12_nextOf_90 (by decide) rfl rfl ?_
      refine m_aload_n dX12_nextOf_92 rfl ?_
      refine m_gr (z := 17) dX12_nextOf_93 fl_X12_48 oX_100 rfl rfl rX_100_17 ?_
      refine m_aload_n dX12_nextOf_96 rfl ?_
      refine m_iload dX12_nextOf_97 rfl ?_
      refine m_iload dX12_nextOf_99 rfl ?_
      refine m_Vi [_, _] dX12_nextOf_101 lk_X12_168 rfl oX_100 rfl (Nat.le_of_ble_eq_true rfl) (by omega) (y_otherEnd ⟨by omega, by omega⟩) ?_
      rw [e103, e104, eo]
      refine m_iald dX12_nextOf_104 sX_112 (by omega) (by omega) ?_
      refine m_aload_n dX12_nextOf_105 rfl ?_
      refine m_iload dX12_nextOf_106 rfl ?_
      refine m_iload_n dX12_nextOf_108 rfl ?_
      refine m_Vi [_, _] dX12_nextOf_109 lk_X12_171 rfl oX_100 rfl (Nat.le_of_ble_eq_true rfl) (by omega) (y_takes ⟨by omega, by omega⟩ (by rw [e105]; exact hv.2.2.2.1) hn) ?_
      rw [e105]
      refine m_iadd dX12_nextOf_112 (by omega) ?_
      refine m_istore dX12_nextOf_113 (by decide) rfl rfl ?_
      refine m_iload dX12_nextOf_115 rfl ?_
      refine m_aload_n dX12_nextOf_117 rfl ?_
      refine m_gr (z := 17) dX12_nextOf_118 fl_X12_48 oX_100 rfl rfl rX_100_17 ?_
      refine m_iload dX12_nextOf_121 rfl ?_
      refine m_iald dX12_nextOf_123 sX_112 (by omega) (by omega) ?_
      refine m_icmp_ge (tgt := 150) dX12_nextOf_124 (by decide) (fun c124 => ?_) (fun c124 => ?_)
      · have hps : psI I n (upM I t) r0 (k + 1) f (J 112) := by
          rcases hp with ⟨z1, z2, z3⟩ | z
          · refine Or.inl ⟨z1, z2, fun j j0 j1 hu => ?_⟩
            rcases (show j < k ∨ j = k by omega) with q | q
            · exact z3 j j0 q hu
            · subst q; rw [z2] at c124; exact c124
          · exact Or.inr z
        refine m_iinc dX12_nextOf_150 rfl (by decide) rfl rfl (by omega) ?_
        refine m_goto (tgt := 49) dX12_nextOf_153 (by decide) ?_
        first
        | exact ih (k + 1) f J _ _ _ (by omega) (by omega) (by omega) hF hf hI hps
        | (refine ih (k + 1) 1 _ _ _ _ (by omega) (by omega) (by omega) (fun x hx => by rw [upI_o hx]; exact hF x hx) (Or.inr rfl) (by rw [upI_112]; exact hI2) (Or.inr ⟨rfl, ?_⟩)
           rw [upI_112]
           rcases hp with ⟨z1, z2, z3⟩ | z
           · rw [← z2]; exact hsum
           · exact Int.lt_trans hsum z.2)
      · refine m_aload_n dX12_nextOf_127 rfl ?_
        refine m_iload dX12_nextOf_128 rfl ?_
        refine m_iload dX12_nextOf_130 rfl ?_
        refine m_Vi [_, _] dX12_nextOf_132 lk_X12_174 rfl oX_100 rfl (Nat.le_of_ble_eq_true rfl) (by omega) (y_isUp (by omega) hNJ) ?_
        refine m_if_eq (tgt := 150) dX12_nextOf_135 (by decide) (fun c135 => ?_) (fun c135 => ?_)
        · have hnu := bP_eq0 c135
          rw [upM_fr hF] at hnu
          have hps : psI I n (upM I t) r0 (k + 1) f (J 112) := by
            rcases hp with ⟨z1, z2, z3⟩ | z
            · refine Or.inl ⟨z1, z2, fun j j0 j1 hu => ?_⟩
              rcases (show j < k ∨ j = k by omega) with q | q
              · exact z3 j j0 q hu
              · subst q; exact absurd hu hnu
            · exact Or.inr z
          refine m_iinc dX12_nextOf_150 rfl (by decide) rfl rfl (by omega) ?_
          refine m_goto (tgt := 49) dX12_nextOf_153 (by decide) ?_
          first
          | exact ih (k + 1) f J _ _ _ (by omega) (by omega) (by omega) hF hf hI hps
          | (refine ih (k + 1) 1 _ _ _ _ (by omega) (by omega) (by omega) (fun x hx => by rw [upI_o hx]; exact hF x hx) (Or.inr rfl) (by rw [upI_112]; exact hI2) (Or.inr ⟨rfl, ?_⟩)
             rw [upI_112]
             rcases hp with ⟨z1, z2, z3⟩ | z
             · rw [← z2]; exact hsum
             · exact Int.lt_trans hsum z.2)
        · have hu := bP_ne0 c135
          rw [upM_fr hF] at hu
          have hin : pIn (I 100 3) (upM I t) (k / 2) := ⟨by omega, by omega, hu⟩
          have hI2 := p_relax hO hI hin (p := heB I k) (q := heA I k) (by
            unfold heA heB
            by_cases z : k % 2 = 0
            · rw [if_pos z, if_pos z]; exact Or.inr ⟨rfl, rfl⟩
            · rw [if_neg z, if_neg z]; exact Or.inl ⟨rfl, rfl⟩) (by show J 112 (heB I k) + (n + I 105 (k / 2) - 1) / I 105 (k / 2) < J 112 (heA I k); omega)
          have hsum := sum8_up (r := J 112) (v := J 112 (heB I k) + (n + I 105 (k / 2) - 1) / I 105 (k / 2)) hA (by omega)
          refine m_aload_n dX12_nextOf_138 rfl ?_
          refine m_gr (z := 17) dX12_nextOf_139 fl_X12_48 oX_100 rfl rfl rX_100_17 ?_
          refine m_iload dX12_nextOf_142 rfl ?_
          refine m_iload dX12_nextOf_144 rfl ?_
          refine m_iast dX12_nextOf_146 sX_112 (by omega) (by omega) ?_
          refine m_iconst dX12_nextOf_147 (by decide) ?_
          refine m_istore dX12_nextOf_148 (by decide) rfl rfl ?_
          refine m_iinc dX12_nextOf_150 rfl (by decide) rfl rfl (by omega) ?_
          refine m_goto (tgt := 49) dX12_nextOf_153 (by decide) ?_
          first
          | exact ih (k + 1) f J _ _ _ (by omega) (by omega) (by omega) hF hf hI hps
          | (refine ih (k + 1) 1 _ _ _ _ (by omega) (by omega) (by omega) (fun x hx => by rw [upI_o hx]; exact hF x hx) (Or.inr rfl) (by rw [upI_112]; exact hI2) (Or.inr ⟨rfl, ?_⟩)
             rw [upI_112]
             rcases hp with ⟨z1, z2, z3⟩ | z
             · rw [← z2]; exact hsum
             · exact Int.lt_trans hsum z.2)
theorem y_nx_turns {o to n t : Int} {Q : QT} (hd : 2 ≤ d) (hN : NetM I) (hn : 1 ≤ n ∧ n ≤ 1000) (ht : 0 ≤ to ∧ to < 8)
    (hk : ∀ (J : II) (l6 l7 l8 l9 : Option AV), Fr112 I J → pSol (I 100 3) (I 103) (I 104) (KtM I n) (upM I t) to (J 112) → T g d mX12_nextOf 0 0 159 [some (vr 100), some (vi o), some (vi to), some (vi n), some (vi t), some (vi 0), l6, l7, l8, l9] [] (shX nm no) (RX nm no) J Q) :
    ∀ (m : Nat) (J : II) (f : Int) (l6 l7 l8 l9 : Option AV), (sum8 (J 112)).toNat < m → Fr112 I J → pInv (I 100 3) (I 103) (I 104) (KtM I n) (upM I t) to (J 112) → (f = 1 ∨ (f = 0 ∧ pFix (I 100 3) (I 103) (I 104) (KtM I n) (upM I t) (J 112))) → T g d mX12_nextOf 0 0 38 [some (vr 100), some (vi o), some (vi to), some (vi n), some (vi t), some (vi f), l6, l7, l8, l9] [] (shX nm no) (RX nm no) J Q := by
  intro m
  induction m with
  | zero => intro J f l6 l7 l8 l9 hm; omega
  | succ m ih =>
    intro J f l6 l7 l8 l9 hm hF hI hff
    refine m_iload dX12_nextOf_38 rfl ?_
    refine m_if_eq (tgt := 159) dX12_nextOf_40 (by decide) (fun c40 => ?_) (fun c40 => ?_)
    · have e0 : f = 0 := by omega
      subst e0
      exact hk J _ _ _ _ hF ⟨hI, (hff.resolve_left (by omega)).2⟩
    · refine m_iconst dX12_nextOf_43 (by decide) ?_
      refine m_istore dX12_nextOf_44 (by decide) rfl rfl ?_
      refine m_iconst dX12_nextOf_46 (by decide) ?_
      refine m_istore dX12_nextOf_47 (by decide) rfl rfl ?_
      refine y_nx_pass (r0 := J 112) hd hN hn ht (fun L f l6 l7 l8 l9 hL hf hIL hp => ?_) _ 0 0 J _ _ _ (Nat.lt_succ_self _) (by omega) (by have := hN.1; omega) hF (Or.inl rfl) hI (Or.inl ⟨rfl, rfl, fun j j0 j1 => by omega⟩)
      refine m_goto (tgt := 38) dX12_nextOf_156 (by decide) ?_
      rcases hp with ⟨z1, z2, z3⟩ | ⟨z1, z2⟩
      · subst z1
        refine m_iload dX12_nextOf_38 rfl ?_
        refine m_if_eq (tgt := 159) dX12_nextOf_40 (by decide) (fun c40 => ?_) (fun c40 => ?_)
        · exact hk L _ _ _ _ hL ⟨hIL, ps_fix (r0 := J 112) (Or.inl ⟨rfl, z2, z3⟩)⟩
        · exact absurd rfl c40
      · have hs0 : 0 ≤ sum8 (L 112) := by
          unfold sum8
          have a0 := hIL.2.1 0 (by omega) (by omega)
          have a1 := hIL.2.1 1 (by omega) (by omega)
          have a2 := hIL.2.1 2 (by omega) (by omega)
          have a3 := hIL.2.1 3 (by omega) (by omega)
          have a4 := hIL.2.1 4 (by omega) (by omega)
          have a5 := hIL.2.1 5 (by omega) (by omega)
          have a6 := hIL.2.1 6 (by omega) (by omega)
          have a7 := hIL.2.1 7 (by omega) (by omega)
          omega
        exact ih L f _ _ _ _ (by omega) hL hIL (Or.inl z1)
theorem y_nx_find {o to n t : Int} {J : II} {l5 : Int} {Q : QT} (hd : 2 ≤ d) (hN : NetM I) (hn : 1 ≤ n ∧ n ≤ 1000) (ht : 0 ≤ to ∧ to < 8) (ho : 0 ≤ o ∧ o < 8) (hne : o ≠ to) (hF : Fr112 I J) (hs : pSol (I 100 3) (I 103) (I 104) (KtM I n) (upM I t) to (J 112))
    (h : ∀ r, isNx (I 100 3) (I 103) (I 104) (KtM I n) (upM I t) to o r → Q (some (vi r)) (shX nm no) (RX nm no) J) :
    ∀ (m : Nat) (v : Int) (l7 l8 l9 : Option AV), (I 100 3 - v).toNat < m → 0 ≤ v → v ≤ I 100 3 → (∀ w, 0 ≤ w → w < v → ¬ pBeg (I 103) (I 104) (KtM I n) (upM I t) (J 112) o w) → T g d mX12_nextOf 0 0 162 [some (vr 100), some (vi o), some (vi to), some (vi n), some (vi t), some (vi l5), some (vi v), l7, l8, l9] [] (shX nm no) (RX nm no) J Q := by
  have hO := netOKM hN hn.1 (U := upM I t)
  have hW := hN.1
  have e100 : J 100 = I 100 := hF 100 (by decide)
  have e103 : J 103 = I 103 := hF 103 (by decide)
  have e104 : J 104 = I 104 := hF 104 (by decide)
  have e105 : J 105 = I 105 := hF 105 (by decide)
  have hNJ := netM_fr hF hN
  have hro := hs.1.2.1 o ho.1 ho.2
  intro m
  induction m with
  | zero => intro v l7 l8 l9 hm; omega
  | succ m ih =>
    intro v l7 l8 l9 hm h0 h1 hv
    refine m_iload dX12_nextOf_162 rfl ?_
    refine m_aload_n dX12_nextOf_164 rfl ?_
    refine m_gi (z := 3) dX12_nextOf_165 fl_X12_127 oX_100 rfl rfl ?_
    rw [e100]
    refine m_icmp_ge (tgt := 241) dX12_nextOf_168 (by decide) (fun c168 => ?_) (fun c168 => ?_)
    · have hend : J 112 o < 1000000 → False := fun z => by
        obtain ⟨u, u0, u1⟩ := nx_some hO ho hne hs z
        exact hv u u0.1 (by omega) u1
      have hr0 : J 112 o = 1000000 := by
        rcases (show J 112 o = 1000000 ∨ J 112 o < 1000000 by omega) with z | z
        · exact z
        · exact (hend z).elim
      refine m_iconst dX12_nextOf_241 (by decide) ?_
      refine m_iret dX12_nextOf_242 rfl ?_
      exact h _ ⟨J 112, hs, Or.inl ⟨hr0, rfl⟩⟩
    · have hvk := hN.2.2.2 v h0 (by omega)
      have hK := tk_bd (n := n) (s := I 105 v) hn.1 hvk.2.2.2.1.1
      have hra := hs.1.2.1 (I 103 v) hvk.1.1 hvk.1.2
      have hrb := hs.1.2.1 (I 104 v) hvk.2.1.1 hvk.2.1.2
      have hoo : 0 ≤ othF (I 103) (I 104) v o ∧ othF (I 103) (I 104) v o < 8 := by unfold othF; split <;> omega
      have hro2 := hs.1.2.1 (othF (I 103) (I 104) v o) hoo.1 hoo.2
      refine m_aload_n dX12_nextOf_171 rfl ?_
      refine m_gr (z := 17) dX12_nextOf_172 fl_X12_48 oX_100 rfl rfl rX_100_17 ?_
      refine m_iload_n dX12_nextOf_175 rfl ?_
      refine m_iald dX12_nextOf_176 sX_112 (by omega) (by omega) ?_
      refine m_ldc (a := 1000000) dX12_nextOf_177 kc_X12_167 rfl ?_
      refine m_icmp_ge (tgt := 241) dX12_nextOf_179 (by decide) (fun c179 => ?_) (fun c179 => ?_)
      · have hr0 : J 112 o = 1000000 := by omega
        refine m_iconst dX12_nextOf_241 (by decide) ?_
        refine m_iret dX12_nextOf_242 rfl ?_
        exact h _ ⟨J 112, hs, Or.inl ⟨hr0, rfl⟩⟩
      · refine m_aload_n dX12_nextOf_182 rfl ?_
        refine m_iload dX12_nextOf_183 rfl ?_
        refine m_iload_n dX12_nextOf_185 rfl ?_
        refine m_Vi [_, _] dX12_nextOf_186 lk_X12_177 rfl oX_100 rfl (Nat.le_of_ble_eq_true rfl) (by omega) (y_isAt ⟨by omega, by omega⟩) ?_
        rw [e103, e104]
        refine m_if_eq (tgt := 235) dX12_nextOf_189 (by decide) (fun c189 => ?_) (fun c189 => ?_)
        · have z189 := bI_eq0 c189
          have HN : ¬ pBeg (I 103) (I 104) (KtM I n) (upM I t) (J 112) o v := fun z => z189 (z.2.elim (fun y => Or.inl y.1) (fun y => Or.inr y.1))
          refine m_iinc dX12_nextOf_235 rfl (by decide) rfl rfl (by omega) ?_
          refine m_goto (tgt := 162) dX12_nextOf_238 (by decide) ?_
          refine ih (v + 1) _ _ _ (by omega) (by omega) (by omega) (fun w w0 w1 => ?_)
          rcases (show w < v ∨ w = v by omega) with z | z
          · exact hv w w0 z
          · rw [z]; exact HN
        · have z189 := bI_ne0 c189
          refine m_aload_n dX12_nextOf_192 rfl ?_
          refine m_iload dX12_nextOf_193 rfl ?_
          refine m_iload dX12_nextOf_195 rfl ?_
          refine m_Vi [_, _] dX12_nextOf_197 lk_X12_174 rfl oX_100 rfl (Nat.le_of_ble_eq_true rfl) (by omega) (y_isUp (by omega) hNJ) ?_
          refine m_if_eq (tgt := 235) dX12_nextOf_200 (by decide) (fun c200 => ?_) (fun c200 => ?_)
          · have z200 := bP_eq0 c200
            rw [upM_fr hF] at z200
            have HN : ¬ pBeg (I 103) (I 104) (KtM I n) (upM I t) (J 112) o v := fun z => z200 z.1
            refine m_iinc dX12_nextOf_235 rfl (by decide) rfl rfl (by omega) ?_
            refine m_goto (tgt := 162) dX12_nextOf_238 (by decide) ?_
            refine ih (v + 1) _ _ _ (by omega) (by omega) (by omega) (fun w w0 w1 => ?_)
            rcases (show w < v ∨ w = v by omega) with z | z
            · exact hv w w0 z
            · rw [z]; exact HN
          · have z200 := bP_ne0 c200
            rw [upM_fr hF] at z200
            refine m_aload_n dX12_nextOf_203 rfl ?_
            refine m_gr (z := 17) dX12_nextOf_204 fl_X12_48 oX_100 rfl rfl rX_100_17 ?_
            refine m_aload_n dX12_nextOf_207 rfl ?_
            refine m_iload dX12_nextOf_208 rfl ?_
            refine m_iload_n dX12_nextOf_210 rfl ?_
            refine m_Vi [_, _] dX12_nextOf_211 lk_X12_168 rfl oX_100 rfl (Nat.le_of_ble_eq_true rfl) (by omega) (y_otherEnd ⟨by omega, by omega⟩) ?_
            rw [e103, e104]
            refine m_iald dX12_nextOf_214 sX_112 (by omega) (by omega) ?_
            refine m_aload_n dX12_nextOf_215 rfl ?_
            refine m_iload dX12_nextOf_216 rfl ?_
            refine m_iload_n dX12_nextOf_218 rfl ?_
            refine m_Vi [_, _] dX12_nextOf_219 lk_X12_171 rfl oX_100 rfl (Nat.le_of_ble_eq_true rfl) (by omega) (y_takes ⟨by omega, by omega⟩ (by rw [e105]; exact hvk.2.2.2.1) hn) ?_
            rw [e105]
            refine m_iadd dX12_nextOf_222 (by omega) ?_
            refine m_aload_n dX12_nextOf_223 rfl ?_
            refine m_gr (z := 17) dX12_nextOf_224 fl_X12_48 oX_100 rfl rfl rX_100_17 ?_
            refine m_iload_n dX12_nextOf_227 rfl ?_
            refine m_iald dX12_nextOf_228 sX_112 (by omega) (by omega) ?_
            refine m_icmp_ne (tgt := 235) dX12_nextOf_229 (by decide) (fun c229 => ?_) (fun c229 => ?_)
            · have HN : ¬ pBeg (I 103) (I 104) (KtM I n) (upM I t) (J 112) o v := fun z => by
                unfold othF at c229
                rcases z.2 with ⟨y, y2⟩ | ⟨y, y2⟩
                · rw [if_pos y] at c229; exact c229 y2
                · rw [if_neg (fun q => hvk.2.2.1 (q.trans y.symm))] at c229; exact c229 y2
              refine m_iinc dX12_nextOf_235 rfl (by decide) rfl rfl (by omega) ?_
              refine m_goto (tgt := 162) dX12_nextOf_238 (by decide) ?_
              refine ih (v + 1) _ _ _ (by omega) (by omega) (by omega) (fun w w0 w1 => ?_)
              rcases (show w < v ∨ w = v by omega) with z | z
              · exact hv w w0 z
              · rw [z]; exact HN
            · have HY : pBeg (I 103) (I 104) (KtM I n) (upM I t) (J 112) o v := ⟨z200, by
                unfold othF at c229
                rcases z189 with y | y
                · rw [if_pos y] at c229; exact Or.inl ⟨y, c229⟩
                · rw [if_neg (fun q => hvk.2.2.1 (q.trans y.symm))] at c229; exact Or.inr ⟨y, c229⟩⟩
              refine m_iload dX12_nextOf_232 rfl ?_
              refine m_iret dX12_nextOf_234 rfl ?_
              exact h _ ⟨J 112, hs, Or.inr ⟨by omega, ⟨h0, by omega⟩, HY, hv⟩⟩
theorem y_nx_init {o to n t : Int} {Q : QT} (ht : 0 ≤ to ∧ to < 8)
    (hk : ∀ (J : II) (l5 : Int), Fr112 I J → J 112 to = 0 → (∀ x, 0 ≤ x → x < 8 → x ≠ to → J 112 x = 1000000) → T g d mX12_nextOf 0 0 35 [some (vr 100), some (vi o), some (vi to), some (vi n), some (vi t), some (vi l5), none, none, none, none] [] (shX nm no) (RX nm no) J Q) :
    ∀ (m : Nat) (k : Int) (J : II), (8 - k).toNat < m → 0 ≤ k → k ≤ 8 → Fr112 I J → (∀ x, 0 ≤ x → x < k → J 112 x = if x = to then 0 else 1000000) → T g d mX12_nextOf 0 0 3 [some (vr 100), some (vi o), some (vi to), some (vi n), some (vi t), some (vi k), none, none, none, none] [] (shX nm no) (RX nm no) J Q := by
  intro m
  induction m with
  | zero => intro k J hm; omega
  | succ m ih =>
    intro k J hm h0 h1 hF hx
    refine m_iload dX12_nextOf_3 rfl ?_
    refine m_bipush dX12_nextOf_5 rfl (by decide) ?_
    refine m_icmp_ge (tgt := 35) dX12_nextOf_7 (by decide) (fun c7 => ?_) (fun c7 => ?_)
    · refine hk J _ hF (by rw [hx to ht.1 (by omega), if_pos rfl]) (fun x x0 x1 x2 => by rw [hx x x0 (by omega), if_neg x2])
    · refine m_aload_n dX12_nextOf_10 rfl ?_
      refine m_gr (z := 17) dX12_nextOf_11 fl_X12_48 oX_100 rfl rfl rX_100_17 ?_
      refine m_iload dX12_nextOf_14 rfl ?_
      refine m_iload dX12_nextOf_16 rfl ?_
      refine m_iload_n dX12_nextOf_18 rfl ?_
      refine m_ticmp_ne (tgt := 26) (M := 28) dX12_nextOf_19 (by decide) (fun c19 hM19 => by
          refine m_ldc (a := 1000000) dX12_nextOf_26 kc_X12_167 rfl ?_
          exact hM19
        ) (fun c19 hM19 => by
          refine m_iconst dX12_nextOf_22 (by decide) ?_
          refine m_goto (tgt := 28) dX12_nextOf_23 (by decide) ?_
          exact hM19
        ) ?_
      refine m_top (if k = to then 0 else 1000000) (by (repeat' split) <;> first | rfl | omega) ?_
      refine m_iast dX12_nextOf_28 sX_112 (by omega) (by omega) ?_
      refine m_iinc dX12_nextOf_29 rfl (by decide) rfl rfl (by omega) ?_
      refine m_goto (tgt := 3) dX12_nextOf_32 (by decide) ?_
      refine ih (k + 1) _ (by omega) (by omega) (by omega) (fun x hx => by rw [upI_o hx]; exact hF x hx) (fun x x0 x1 => ?_)
      by_cases e : x = k
      · subst e; rw [upI_s]
      · rw [upI_j e]; exact hx x x0 (by omega)
theorem y_nextOf {o to n t : Int} (hd : 2 ≤ d) (hN : NetM I) (hn : 1 ≤ n ∧ n ≤ 1000) (ht : 0 ≤ to ∧ to < 8) (ho : 0 ≤ o ∧ o < 8) (hne : o ≠ to) : SI g d mX12_nextOf [vr 100, vi o, vi to, vi n, vi t] (shX nm no) (RX nm no) I (fun r J => isNx (I 100 3) (I 103) (I 104) (KtM I n) (upM I t) to o r ∧ Fr112 I J) := by
  intro Q h
  refine C_of rfl (Nat.le_of_ble_eq_true rfl) rfl ?_
  refine m_iconst dX12_nextOf_0 (by decide) ?_
  refine m_istore dX12_nextOf_1 (by decide) rfl rfl ?_
  refine y_nx_init ht (fun J l5 hF h0 hx => ?_) 9 0 I (by omega) (by omega) (by omega) (fun _ _ => rfl) (fun x x0 x1 => by omega)
  refine m_iconst dX12_nextOf_35 (by decide) ?_
  refine m_istore dX12_nextOf_36 (by decide) rfl rfl ?_
  refine y_nx_turns hd hN hn ht (fun L l6 l7 l8 l9 hL hs => ?_) _ J 1 _ _ _ _ (Nat.lt_succ_self _) hF (p_start ht h0 hx) (Or.inl rfl)
  refine m_iconst dX12_nextOf_159 (by decide) ?_
  refine m_istore dX12_nextOf_160 (by decide) rfl rfl ?_
  exact y_nx_find hd hN hn ht ho hne hL hs (fun r hr => h r L ⟨hr, hL⟩) _ 0 _ _ _ (Nat.lt_succ_self _) (by omega) (by have := hN.1; omega) (fun x x0 x1 => by omega)
end
