/-! THE REFERENCE: goMinute -/
section
variable {g : GH} {d nm no : Nat} {I J : II} {no2 : Nat} {t : Int} {A B SPD DB : Int → Int} {U OP : Int → Prop} {NX : Int → Int → Int → Int} {WS : Int → Int → Int → Int} {RK : Int → Int → Int} {NT : Int → Prop} {TO WD KD HI : Nat → Int} {D : MV}
theorem stM_o {K : II} {m j : Nat} (h : ∀ i : Int, (i < 6 * m ∨ 6 * m + 6 ≤ i) → K 110 i = J 110 i) (hj : j ≠ m) : stM K j = stM J j := by
  unfold stM
  rw [h (6 * j) (by omega), h (6 * j + 1) (by omega), h (6 * j + 2) (by omega), h (6 * j + 3) (by omega), h (6 * j + 4) (by omega), h (6 * j + 5) (by omega)]
theorem stM_s {K : II} {m : Nat} {a b c e f x : Int} (h0 : K 110 (6 * m) = a) (h1 : K 110 (6 * m + 1) = b) (h2 : K 110 (6 * m + 2) = c) (h3 : (if a = 1 then K 110 (6 * m + 3) else -1) = e) (h4 : K 110 (6 * m + 4) = f) (h5 : K 110 (6 * m + 5) = x) : stM K m = mk6 a b c e f x := by
  unfold stM; rw [h0, h1, h2, h3, h4, h5]
/-- message by message: F done ahead of m -/
def lpI (J : II) (nm m : Nat) (D : MV) (F : Nat → (Int → Int) → Int → Int) : Prop := ∀ j : Nat, j < nm → stM J j = if j < m then F j (D j) else D j
theorem lp_step {K : II} {m : Nat} {F : Nat → (Int → Int) → Int → Int} (h : lpI J nm m D F) (h1 : ∀ i : Int, (i < 6 * m ∨ 6 * m + 6 ≤ i) → K 110 i = J 110 i) (h2 : stM K m = F m (D m)) : lpI K nm (m + 1) D F := by
  intro j hj
  by_cases e : j = m
  · subst e; rw [h2, if_pos (by omega)]
  · rw [stM_o h1 e, h j hj]
    by_cases z : j < m
    · rw [if_pos z, if_pos (by omega)]
    · rw [if_neg z, if_neg (by omega)]
theorem lp_at {m : Nat} {F : Nat → (Int → Int) → Int → Int} (h : lpI J nm m D F) (hm : m < nm) : stM J m = D m := by rw [h m hm, if_neg (by omega)]
theorem y_gm_end {Q : QT} (hd : 2 ≤ d) (hM : MdI I nm no2 t A B SPD DB U OP NX WS RK NT TO WD KD HI) (hm : DmI D nm (I 100 3) A B t)
    (hk : ∀ (L : II) (a2 : Int) (l3 l4 : Option AV), FrG I L → lpI L nm nm D (fun _ => endM t A B U) → T g d mX12_goMinute 0 0 132 [some (vr 100), some (vi t), some (vi a2), l3, l4] [] (shX nm no) (RX nm no) L Q) :
    ∀ (k m : Nat) (L : II) (l3 l4 : Option AV), nm - m < k → m ≤ nm → FrG I L → lpI L nm m D (fun _ => endM t A B U) → T g d mX12_goMinute 0 0 2 [some (vr 100), some (vi t), some (vi m), l3, l4] [] (shX nm no) (RX nm no) L Q := by
  have h24 := hM.1.2.2.2.2.2.2.2.1
  have ht0 := hM.1.2.2.2.2.2.2.2.2
  intro k
  induction k with
  | zero => intro m L l3 l4 hk2; omega
  | succ k ih =>
    intro m L l3 l4 hk2 hmn hL hlp
    have c13 : L 100 13 = nm := by rw [hL 100 (by decide) (by decide)]; exact hM.1.2.2.2.2.2.2.1
    have e3 : L 100 3 = I 100 3 := by rw [hL 100 (by decide) (by decide)]
    have hML := MdI_fr hL hM
    have hW := hML.1.1.1
    refine m_iload_n dX12_goMinute_2 rfl ?_
    refine m_aload_n dX12_goMinute_3 rfl ?_
    refine m_gi (z := 13) dX12_goMinute_4 fl_X12_130 oX_100 rfl rfl ?_
    rw [c13]
    refine m_icmp_ge (tgt := 132) dX12_goMinute_7 (by decide) (fun c7 => ?_) (fun c7 => ?_)
    · have em : m = nm := by omega
      subst em
      exact hk L _ _ _ hL hlp
    · obtain ⟨e0, e1, e2, e3', e4, e5⟩ := stM_at (lp_at hlp (by omega))
      have hx := hm m (by omega)
      refine m_bipush dX12_goMinute_10 rfl (by decide) ?_
      refine m_iload_n dX12_goMinute_12 rfl ?_
      refine m_imul dX12_goMinute_13 (by omega) ?_
      refine m_istore_n dX12_goMinute_14 (by decide) rfl rfl ?_
      refine m_aload_n dX12_goMinute_15 rfl ?_
      refine m_gr (z := 15) dX12_goMinute_16 fl_X12_42 oX_100 rfl rfl rX_100_15 ?_
      refine m_iload_n dX12_goMinute_19 rfl ?_
      refine m_iald dX12_goMinute_20 sX_110 (by omega) (by omega) ?_
      rw [e0]
      refine m_iconst dX12_goMinute_21 (by decide) ?_
      refine m_icmp_ne (tgt := 126) dX12_goMinute_22 (by decide) (fun c22 => ?_) (fun c22 => ?_)
      · have hF : endM t A B U (D m) = D m := by unfold endM; rw [if_neg c22]
        refine m_iinc dX12_goMinute_126 rfl (by decide) rfl rfl (by omega) ?_
        refine m_goto (tgt := 2) dX12_goMinute_129 (by decide) ?_
        first
        | exact ih (m + 1) L _ _ (by omega) (by omega) hL (lp_step hlp (fun _ _ => rfl) ((lp_at hlp (by omega)).trans hF.symm))
        | (refine ih (m + 1) _ _ _ (by omega) (by omega) (fun x a b => by rw [upI_o a, upI_o a, upI_o a]; exact hL x a b) (lp_step hlp (fun i hi => by rw [upI_j (by omega), upI_j (by omega), upI_j (by omega)]) ?_)
           have hF : endM t A B U (D m) = mk6 0 (D m 1) (-1) (-1) (D m 4) (D m 5 + 1) := (by unfold endM; rw [if_pos (by omega), cif_f hU])
           show stM _ m = endM t A B U (D m)
           rw [hF]
           exact stM_s (by rw [upI_j (by omega), upI_j (by omega), upI_s]) (by rw [upI_j (by omega), upI_j (by omega), upI_j (by omega)]; exact e1) (by rw [upI_j (by omega), upI_s]) (if_neg (by decide)) (by rw [upI_j (by omega), upI_j (by omega), upI_j (by omega)]; exact e4) (by rw [upI_s]))
        | (refine ih (m + 1) _ _ _ (by omega) (by omega) (fun x a b => by rw [upI_o a, upI_o a, upI_o a]; exact hL x a b) (lp_step hlp (fun i hi => by rw [upI_j (by omega), upI_j (by omega), upI_j (by omega)]) ?_)
           have hF : endM t A B U (D m) = mk6 0 (othF A B (D m 2) (D m 1)) (-1) (-1) (D m 4) (D m 5) := (by unfold endM; rw [if_pos (by omega), cif_t hU, if_pos (by omega)])
           show stM _ m = endM t A B U (D m)
           rw [hF]
           exact stM_s (by rw [upI_j (by omega), upI_j (by omega), upI_s]) (by rw [upI_j (by omega), upI_s]) (by rw [upI_s]) (if_neg (by decide)) (by rw [upI_j (by omega), upI_j (by omega), upI_j (by omega)]; exact e4) (by rw [upI_j (by omega), upI_j (by omega), upI_j (by omega)]; exact e5))
      · have hx3 := hx.2.2.1 (by omega)
        have e33 := e3' (by omega)
        refine m_aload_n dX12_goMinute_25 rfl ?_
        refine m_gr (z := 15) dX12_goMinute_26 fl_X12_42 oX_100 rfl rfl rX_100_15 ?_
        refine m_iload_n dX12_goMinute_29 rfl ?_
        refine m_iconst dX12_goMinute_30 (by decide) ?_
        refine m_iadd dX12_goMinute_31 (by omega) ?_
        refine m_iald dX12_goMinute_32 sX_110 (by omega) (by omega) ?_
        rw [e2]
        refine m_istore dX12_goMinute_33 (by decide) rfl rfl ?_
        refine m_aload_n dX12_goMinute_35 rfl ?_
        refine m_iload dX12_goMinute_36 rfl ?_
        refine m_iload_n dX12_goMinute_38 rfl ?_
        refine m_Vi [_, _] dX12_goMinute_39 lk_X12_174 rfl oX_100 rfl (Nat.le_of_ble_eq_true rfl) (by omega) (y_isUp (by omega) hML.1.1) ?_
        refine m_if_ne (tgt := 76) dX12_goMinute_42 (by decide) (fun c42 => ?_) (fun c42 => ?_)
        · have hU := (hML.2.1 (D m 2) hx3.1.1 (by omega)).mp (bP_ne0 c42)
          refine m_aload_n dX12_goMinute_76 rfl ?_
          refine m_gr (z := 15) dX12_goMinute_77 fl_X12_42 oX_100 rfl rfl rX_100_15 ?_
          refine m_iload_n dX12_goMinute_80 rfl ?_
          refine m_iconst dX12_goMinute_81 (by decide) ?_
          refine m_iadd dX12_goMinute_82 (by omega) ?_
          refine m_iald dX12_goMinute_83 sX_110 (by omega) (by omega) ?_
          rw [e33]
          refine m_iload_n dX12_goMinute_84 rfl ?_
          refine m_icmp_ne (tgt := 126) dX12_goMinute_85 (by decide) (fun c85 => ?_) (fun c85 => ?_)
          · have hF : endM t A B U (D m) = D m := by unfold endM; rw [if_pos (by omega), cif_t hU, if_neg c85]
            refine m_iinc dX12_goMinute_126 rfl (by decide) rfl rfl (by omega) ?_
            refine m_goto (tgt := 2) dX12_goMinute_129 (by decide) ?_
            first
            | exact ih (m + 1) L _ _ (by omega) (by omega) hL (lp_step hlp (fun _ _ => rfl) ((lp_at hlp (by omega)).trans hF.symm))
            | (refine ih (m + 1) _ _ _ (by omega) (by omega) (fun x a b => by rw [upI_o a, upI_o a, upI_o a]; exact hL x a b) (lp_step hlp (fun i hi => by rw [upI_j (by omega), upI_j (by omega), upI_j (by omega)]) ?_)
               have hF : endM t A B U (D m) = mk6 0 (D m 1) (-1) (-1) (D m 4) (D m 5 + 1) := (by unfold endM; rw [if_pos (by omega), cif_f hU])
               show stM _ m = endM t A B U (D m)
               rw [hF]
               exact stM_s (by rw [upI_j (by omega), upI_j (by omega), upI_s]) (by rw [upI_j (by omega), upI_j (by omega), upI_j (by omega)]; exact e1) (by rw [upI_j (by omega), upI_s]) (if_neg (by decide)) (by rw [upI_j (by omega), upI_j (by omega), upI_j (by omega)]; exact e4) (by rw [upI_s]))
            | (refine ih (m + 1) _ _ _ (by omega) (by omega) (fun x a b => by rw [upI_o a, upI_o a, upI_o a]; exact hL x a b) (lp_step hlp (fun i hi => by rw [upI_j (by omega), upI_j (by omega), upI_j (by omega)]) ?_)
               have hF : endM t A B U (D m) = mk6 0 (othF A B (D m 2) (D m 1)) (-1) (-1) (D m 4) (D m 5) := (by unfold endM; rw [if_pos (by omega), cif_t hU, if_pos (by omega)])
               show stM _ m = endM t A B U (D m)
               rw [hF]
               exact stM_s (by rw [upI_j (by omega), upI_j (by omega), upI_s]) (by rw [upI_j (by omega), upI_s]) (by rw [upI_s]) (if_neg (by decide)) (by rw [upI_j (by omega), upI_j (by omega), upI_j (by omega)]; exact e4) (by rw [upI_j (by omega), upI_j (by omega), upI_j (by omega)]; exact e5))
          · refine m_aload_n dX12_goMinute_88 rfl ?_
            refine m_gr (z := 15) dX12_goMinute_89 fl_X12_42 oX_100 rfl rfl rX_100_15 ?_
            refine m_iload_n dX12_goMinute_92 rfl ?_
            refine m_iconst dX12_goMinute_93 (by decide) ?_
            refine m_iast dX12_goMinute_94 sX_110 (by omega) (by omega) ?_
            refine m_aload_n dX12_goMinute_95 rfl ?_
            refine m_gr (z := 15) dX12_goMinute_96 fl_X12_42 oX_100 rfl rfl rX_100_15 ?_
            refine m_iload_n dX12_goMinute_99 rfl ?_
            refine m_iconst dX12_goMinute_100 (by decide) ?_
            refine m_iadd dX12_goMinute_101 (by omega) ?_
            refine m_aload_n dX12_goMinute_102 rfl ?_
            refine m_iload dX12_goMinute_103 rfl ?_
            refine m_aload_n dX12_goMinute_105 rfl ?_
            refine m_gr (z := 15) dX12_goMinute_106 fl_X12_42 oX_100 rfl rfl rX_100_15 ?_
            refine m_iload_n dX12_goMinute_109 rfl ?_
            refine m_iconst dX12_goMinute_110 (by decide) ?_
            refine m_iadd dX12_goMinute_111 (by omega) ?_
            refine m_iald dX12_goMinute_112 sX_110 (by omega) (by omega) ?_
            rw [show upI L 110 (6 * (m : Int)) 0 110 (6 * (m : Int) + 1) = D m 1 by rw [upI_j (by omega)]; exact e1]
            refine m_Vi [_, _] dX12_goMinute_113 lk_X12_168 rfl oX_100 rfl (Nat.le_of_ble_eq_true rfl) (by omega) (y_otherEnd ⟨by omega, by omega⟩) ?_
            rw [show upI L 110 (6 * (m : Int)) 0 103 = A from hML.1.2.2.1, show upI L 110 (6 * (m : Int)) 0 104 = B from hML.1.2.2.2.1]
            refine m_iast dX12_goMinute_116 sX_110 (by omega) (by omega) ?_
            refine m_aload_n dX12_goMinute_117 rfl ?_
            refine m_gr (z := 15) dX12_goMinute_118 fl_X12_42 oX_100 rfl rfl rX_100_15 ?_
            refine m_iload_n dX12_goMinute_121 rfl ?_
            refine m_iconst dX12_goMinute_122 (by decide) ?_
            refine m_iadd dX12_goMinute_123 (by omega) ?_
            refine m_iconst dX12_goMinute_124 (by decide) ?_
            refine m_iast dX12_goMinute_125 sX_110 (by omega) (by omega) ?_
            refine m_iinc dX12_goMinute_126 rfl (by decide) rfl rfl (by omega) ?_
            refine m_goto (tgt := 2) dX12_goMinute_129 (by decide) ?_
            first
            | exact ih (m + 1) L _ _ (by omega) (by omega) hL (lp_step hlp (fun _ _ => rfl) ((lp_at hlp (by omega)).trans hF.symm))
            | (refine ih (m + 1) _ _ _ (by omega) (by omega) (fun x a b => by rw [upI_o a, upI_o a, upI_o a]; exact hL x a b) (lp_step hlp (fun i hi => by rw [upI_j (by omega), upI_j (by omega), upI_j (by omega)]) ?_)
               have hF : endM t A B U (D m) = mk6 0 (D m 1) (-1) (-1) (D m 4) (D m 5 + 1) := (by unfold endM; rw [if_pos (by omega), cif_f hU])
               show stM _ m = endM t A B U (D m)
               rw [hF]
               exact stM_s (by rw [upI_j (by omega), upI_j (by omega), upI_s]) (by rw [upI_j (by omega), upI_j (by omega), upI_j (by omega)]; exact e1) (by rw [upI_j (by omega), upI_s]) (if_neg (by decide)) (by rw [upI_j (by omega), upI_j (by omega), upI_j (by omega)]; exact e4) (by rw [upI_s]))
            | (refine ih (m + 1) _ _ _ (by omega) (by omega) (fun x a b => by rw [upI_o a, upI_o a, upI_o a]; exact hL x a b) (lp_step hlp (fun i hi => by rw [upI_j (by omega), upI_j (by omega), upI_j (by omega)]) ?_)
               have hF : endM t A B U (D m) = mk6 0 (othF A B (D m 2) (D m 1)) (-1) (-1) (D m 4) (D m 5) := (by unfold endM; rw [if_pos (by omega), cif_t hU, if_pos (by omega)])
               show stM _ m = endM t A B U (D m)
               rw [hF]
               exact stM_s (by rw [upI_j (by omega), upI_j (by omega), upI_s]) (by rw [upI_j (by omega), upI_s]) (by rw [upI_s]) (if_neg (by decide)) (by rw [upI_j (by omega), upI_j (by omega), upI_j (by omega)]; exact e4) (by rw [upI_j (by omega), upI_j (by omega), upI_j (by omega)]; exact e5))
        · have hU : ¬ U (D m 2) := fun z => bP_eq0 (show _ = (0 : Int) by omega) ((hML.2.1 (D m 2) hx3.1.1 (by omega)).mpr z)
          refine m_aload_n dX12_goMinute_45 rfl ?_
          refine m_gr (z := 15) dX12_goMinute_46 fl_X12_42 oX_100 rfl rfl rX_100_15 ?_
          refine m_iload_n dX12_goMinute_49 rfl ?_
          refine m_iconst dX12_goMinute_50 (by decide) ?_
          refine m_iast dX12_goMinute_51 sX_110 (by omega) (by omega) ?_
          refine m_aload_n dX12_goMinute_52 rfl ?_
          refine m_gr (z := 15) dX12_goMinute_53 fl_X12_42 oX_100 rfl rfl rX_100_15 ?_
          refine m_iload_n dX12_goMinute_56 rfl ?_
          refine m_iconst dX12_goMinute_57 (by decide) ?_
          refine m_iadd dX12_goMinute_58 (by omega) ?_
          refine m_iconst dX12_goMinute_59 (by decide) ?_
          refine m_iast dX12_goMinute_60 sX_110 (by omega) (by omega) ?_
          refine m_aload_n dX12_goMinute_61 rfl ?_
          refine m_gr (z := 15) dX12_goMinute_62 fl_X12_42 oX_100 rfl rfl rX_100_15 ?_
          refine m_iload_n dX12_goMinute_65 rfl ?_
          refine m_iconst dX12_goMinute_66 (by decide) ?_
          refine m_iadd dX12_goMinute_67 (by omega) ?_
          refine m_dup2 dX12_goMinute_68 (fun _ z => by cases z) (fun _ z => by cases z) ?_
          refine m_iald dX12_goMinute_69 sX_110 (by omega) (by omega) ?_
          rw [show upI (upI L 110 (6 * (m : Int)) 0) 110 (6 * (m : Int) + 2) (-1) 110 (6 * (m : Int) + 5) = D m 5 by rw [upI_j (by omega), upI_j (by omega)]; exact e5]
          refine m_iconst dX12_goMinute_70 (by decide) ?_
          refine m_iadd dX12_goMinute_71 (by have := hx.2.2.2.2.1; omega) ?_
          refine m_iast dX12_goMinute_72 sX_110 (by omega) (by omega) ?_
          refine m_goto (tgt := 126) dX12_goMinute_73 (by decide) ?_
          refine m_iinc dX12_goMinute_126 rfl (by decide) rfl rfl (by omega) ?_
          refine m_goto (tgt := 2) dX12_goMinute_129 (by decide) ?_
          first
          | exact ih (m + 1) L _ _ (by omega) (by omega) hL (lp_step hlp (fun _ _ => rfl) ((lp_at hlp (by omega)).trans hF.symm))
          | (refine ih (m + 1) _ _ _ (by omega) (by omega) (fun x a b => by rw [upI_o a, upI_o a, upI_o a]; exact hL x a b) (lp_step hlp (fun i hi => by rw [upI_j (by omega), upI_j (by omega), upI_j (by omega)]) ?_)
             have hF : endM t A B U (D m) = mk6 0 (D m 1) (-1) (-1) (D m 4) (D m 5 + 1) := (by unfold endM; rw [if_pos (by omega), cif_f hU])
             show stM _ m = endM t A B U (D m)
             rw [hF]
             exact stM_s (by rw [upI_j (by omega), upI_j (by omega), upI_s]) (by rw [upI_j (by omega), upI_j (by omega), upI_j (by omega)]; exact e1) (by rw [upI_j (by omega), upI_s]) (if_neg (by decide)) (by rw [upI_j (by omega), upI_j (by omega), upI_j (by omega)]; exact e4) (by rw [upI_s]))
          | (refine ih (m + 1) _ _ _ (by omega) (by omega) (fun x a b => by rw [upI_o a, upI_o a, upI_o a]; exact hL x a b) (lp_step hlp (fun i hi => by rw [upI_j (by omega), upI_j (by omega), upI_j (by omega)]) ?_)
             have hF : endM t A B U (D m) = mk6 0 (othF A B (D m 2) (D m 1)) (-1) (-1) (D m 4) (D m 5) := (by unfold endM; rw [if_pos (by omega), cif_t hU, if_pos (by omega)])
             show stM _ m = endM t A B U (D m)
             rw [hF]
             exact stM_s (by rw [upI_j (by omega), upI_j (by omega), upI_s]) (by rw [upI_j (by omega), upI_s]) (by rw [upI_s]) (if_neg (by decide)) (by rw [upI_j (by omega), upI_j (by omega), upI_j (by omega)]; exact e4) (by rw [upI_j (by omega), upI_j (by omega), upI_j (by omega)]; exact e5))
theorem y_gm_give {Q : QT} (hd : 2 ≤ d) (hM : MdI I nm no2 t A B SPD DB U OP NX WS RK NT TO WD KD HI) (hm : ∀ m : Nat, m < nm → D m 0 ≠ 1 → D m 3 = -1)
    (hk : ∀ (L : II) (a2 : Int) (l3 l4 : Option AV), FrG I L → lpI L nm nm D (givM t OP TO) → T g d mX12_goMinute 0 0 213 [some (vr 100), some (vi t), some (vi a2), l3, l4] [] (shX nm no) (RX nm no) L Q) :
    ∀ (k m : Nat) (L : II) (l3 l4 : Option AV), nm - m < k → m ≤ nm → FrG I L → lpI L nm m D (givM t OP TO) → T g d mX12_goMinute 0 0 134 [some (vr 100), some (vi t), some (vi m), l3, l4] [] (shX nm no) (RX nm no) L Q := by
  have h24 := hM.1.2.2.2.2.2.2.2.1
  have ht0 := hM.1.2.2.2.2.2.2.2.2
  intro k
  induction k with
  | zero => intro m L l3 l4 hk2; omega
  | succ k ih =>
    intro m L l3 l4 hk2 hmn hL hlp
    have c13 : L 100 13 = nm := by rw [hL 100 (by decide) (by decide)]; exact hM.1.2.2.2.2.2.2.1
    have hML := MdI_fr hL hM
    refine m_iload_n dX12_goMinute_134 rfl ?_
    refine m_aload_n dX12_goMinute_135 rfl ?_
    refine m_gi (z := 13) dX12_goMinute_136 fl_X12_130 oX_100 rfl rfl ?_
    rw [c13]
    refine m_icmp_ge (tgt := 213) dX12_goMinute_139 (by decide) (fun c139 => ?_) (fun c139 => ?_)
    · have em : m = nm := by omega
      subst em
      exact hk L _ _ _ hL hlp
    · obtain ⟨e0, e1, e2, e3, e4, e5⟩ := stM_at (lp_at hlp (by omega))
      have hx := hm m (by omega)
      obtain ⟨⟨fT, fW, fK, fH⟩, fT2⟩ := hML.2.2.2.2.2.2.2 m (by omega)
      refine m_bipush dX12_goMinute_142 rfl (by decide) ?_
      refine m_iload_n dX12_goMinute_144 rfl ?_
      refine m_imul dX12_goMinute_145 (by omega) ?_
      refine m_istore_n dX12_goMinute_146 (by decide) rfl rfl ?_
      refine m_aload_n dX12_goMinute_147 rfl ?_
      refine m_gr (z := 15) dX12_goMinute_148 fl_X12_42 oX_100 rfl rfl rX_100_15 ?_
      refine m_iload_n dX12_goMinute_151 rfl ?_
      refine m_iald dX12_goMinute_152 sX_110 (by omega) (by omega) ?_
      rw [e0]
      refine m_if_ne (tgt := 207) dX12_goMinute_153 (by decide) (fun c153 => ?_) (fun c153 => ?_)
      · have hF : givM t OP TO m (D m) = D m := cif_f (fun z => c153 z.1)
        refine m_iinc dX12_goMinute_207 rfl (by decide) rfl rfl (by omega) ?_
        refine m_goto (tgt := 134) dX12_goMinute_210 (by decide) ?_
        first
        | exact ih (m + 1) L _ _ (by omega) (by omega) hL (lp_step hlp (fun _ _ => rfl) ((lp_at hlp (by omega)).trans hF.symm))
        | (refine ih (m + 1) _ _ _ (by omega) (by omega) (fun x a b => by rw [upI_o a, upI_o a]; exact hL x a b) (lp_step hlp (fun i hi => by rw [upI_j (by omega), upI_j (by omega)]) ?_)
           have hF : givM t OP TO m (D m) = mk6 2 (D m 1) (D m 2) (D m 3) t (D m 5) := cif_t ⟨c153, c172, hOP⟩
           rw [hF]
           exact stM_s (by rw [upI_j (by omega), upI_s]) (by rw [upI_j (by omega), upI_j (by omega)]; exact e1) (by rw [upI_j (by omega), upI_j (by omega)]; exact e2) (by rw [if_neg (by decide)]; exact (hx (by omega)).symm) (by rw [upI_s]) (by rw [upI_j (by omega), upI_j (by omega)]; exact e5))
      · refine m_aload_n dX12_goMinute_156 rfl ?_
        refine m_gr (z := 15) dX12_goMinute_157 fl_X12_42 oX_100 rfl rfl rX_100_15 ?_
        refine m_iload_n dX12_goMinute_160 rfl ?_
        refine m_iconst dX12_goMinute_161 (by decide) ?_
        refine m_iadd dX12_goMinute_162 (by omega) ?_
        refine m_iald dX12_goMinute_163 sX_110 (by omega) (by omega) ?_
        rw [e1]
        refine m_aload_n dX12_goMinute_164 rfl ?_
        refine m_gr (z := 14) dX12_goMinute_165 fl_X12_39 oX_100 rfl rfl rX_100_14 ?_
        refine m_iload_n dX12_goMinute_168 rfl ?_
        refine m_iconst dX12_goMinute_169 (by decide) ?_
        refine m_iadd dX12_goMinute_170 (by omega) ?_
        refine m_iald dX12_goMinute_171 sX_109 (by omega) (by omega) ?_
        rw [fT]
        refine m_icmp_ne (tgt := 207) dX12_goMinute_172 (by decide) (fun c172 => ?_) (fun c172 => ?_)
        · have hF : givM t OP TO m (D m) = D m := cif_f (fun z => c172 z.2.1)
          refine m_iinc dX12_goMinute_207 rfl (by decide) rfl rfl (by omega) ?_
          refine m_goto (tgt := 134) dX12_goMinute_210 (by decide) ?_
          first
          | exact ih (m + 1) L _ _ (by omega) (by omega) hL (lp_step hlp (fun _ _ => rfl) ((lp_at hlp (by omega)).trans hF.symm))
          | (refine ih (m + 1) _ _ _ (by omega) (by omega) (fun x a b => by rw [upI_o a, upI_o a]; exact hL x a b) (lp_step hlp (fun i hi => by rw [upI_j (by omega), upI_j (by omega)]) ?_)
             have hF : givM t OP TO m (D m) = mk6 2 (D m 1) (D m 2) (D m 3) t (D m 5) := cif_t ⟨c153, c172, hOP⟩
             rw [hF]
             exact stM_s (by rw [upI_j (by omega), upI_s]) (by rw [upI_j (by omega), upI_j (by omega)]; exact e1) (by rw [upI_j (by omega), upI_j (by omega)]; exact e2) (by rw [if_neg (by decide)]; exact (hx (by omega)).symm) (by rw [upI_s]) (by rw [upI_j (by omega), upI_j (by omega)]; exact e5))
        · refine m_aload_n dX12_goMinute_175 rfl ?_
          refine m_aload_n dX12_goMinute_176 rfl ?_
          refine m_gr (z := 14) dX12_goMinute_177 fl_X12_39 oX_100 rfl rfl rX_100_14 ?_
          refine m_iload_n dX12_goMinute_180 rfl ?_
          refine m_iconst dX12_goMinute_181 (by decide) ?_
          refine m_iadd dX12_goMinute_182 (by omega) ?_
          refine m_iald dX12_goMinute_183 sX_109 (by omega) (by omega) ?_
          rw [fT]
          refine m_iload_n dX12_goMinute_184 rfl ?_
          refine m_Vi [_, _] dX12_goMinute_185 lk_X12_153 rfl oX_100 rfl (Nat.le_of_ble_eq_true rfl) (by omega) (y_isOpen (by omega) fT2.1 ht0.1) ?_
          refine m_if_eq (tgt := 207) dX12_goMinute_188 (by decide) (fun c188 => ?_) (fun c188 => ?_)
          · have hF : givM t OP TO m (D m) = D m := cif_f (fun z => bI_eq0 c188 ((hML.2.2.1 (TO m) fT2.1.1 fT2.1.2).mpr z.2.2))
            refine m_iinc dX12_goMinute_207 rfl (by decide) rfl rfl (by omega) ?_
            refine m_goto (tgt := 134) dX12_goMinute_210 (by decide) ?_
            first
            | exact ih (m + 1) L _ _ (by omega) (by omega) hL (lp_step hlp (fun _ _ => rfl) ((lp_at hlp (by omega)).trans hF.symm))
            | (refine ih (m + 1) _ _ _ (by omega) (by omega) (fun x a b => by rw [upI_o a, upI_o a]; exact hL x a b) (lp_step hlp (fun i hi => by rw [upI_j (by omega), upI_j (by omega)]) ?_)
               have hF : givM t OP TO m (D m) = mk6 2 (D m 1) (D m 2) (D m 3) t (D m 5) := cif_t ⟨c153, c172, hOP⟩
               rw [hF]
               exact stM_s (by rw [upI_j (by omega), upI_s]) (by rw [upI_j (by omega), upI_j (by omega)]; exact e1) (by rw [upI_j (by omega), upI_j (by omega)]; exact e2) (by rw [if_neg (by decide)]; exact (hx (by omega)).symm) (by rw [upI_s]) (by rw [upI_j (by omega), upI_j (by omega)]; exact e5))
          · have hOP := (hML.2.2.1 (TO m) fT2.1.1 fT2.1.2).mp (bI_ne0 c188)
            refine m_aload_n dX12_goMinute_191 rfl ?_
            refine m_gr (z := 15) dX12_goMinute_192 fl_X12_42 oX_100 rfl rfl rX_100_15 ?_
            refine m_iload_n dX12_goMinute_195 rfl ?_
            refine m_iconst dX12_goMinute_196 (by decide) ?_
            refine m_iast dX12_goMinute_197 sX_110 (by omega) (by omega) ?_
            refine m_aload_n dX12_goMinute_198 rfl ?_
            refine m_gr (z := 15) dX12_goMinute_199 fl_X12_42 oX_100 rfl rfl rX_100_15 ?_
            refine m_iload_n dX12_goMinute_202 rfl ?_
            refine m_iconst dX12_goMinute_203 (by decide) ?_
            refine m_iadd dX12_goMinute_204 (by omega) ?_
            refine m_iload_n dX12_goMinute_205 rfl ?_
            refine m_iast dX12_goMinute_206 sX_110 (by omega) (by omega) ?_
            refine m_iinc dX12_goMinute_207 rfl (by decide) rfl rfl (by omega) ?_
            refine m_goto (tgt := 134) dX12_goMinute_210 (by decide) ?_
            first
            | exact ih (m + 1) L _ _ (by omega) (by omega) hL (lp_step hlp (fun _ _ => rfl) ((lp_at hlp (by omega)).trans hF.symm))
            | (refine ih (m + 1) _ _ _ (by omega) (by omega) (fun x a b => by rw [upI_o a, upI_o a]; exact hL x a b) (lp_step hlp (fun i hi => by rw [upI_j (by omega), upI_j (by omega)]) ?_)
               have hF : givM t OP TO m (D m) = mk6 2 (D m 1) (D m 2) (D m 3) t (D m 5) := cif_t ⟨c153, c172, hOP⟩
               rw [hF]
               exact stM_s (by rw [upI_j (by omega), upI_s]) (by rw [upI_j (by omega), upI_j (by omega)]; exact e1) (by rw [upI_j (by omega), upI_j (by omega)]; exact e2) (by rw [if_neg (by decide)]; exact (hx (by omega)).symm) (by rw [upI_s]) (by rw [upI_j (by omega), upI_j (by omega)]; exact e5))
theorem MsgD_snd {W : Int} {o v : Int} (h : DmI D nm W A B (t + 1)) (ht : 0 ≤ t ∧ t ≤ 9000) (hv : 0 ≤ v ∧ v < W) (hov : A v = o ∨ B v = o) (hs : 1 ≤ SPD v) (hw : ∀ m : Nat, m < nm → 1 ≤ WS o (WD m) (KD m) ∧ WS o (WD m) (KD m) ≤ 198) : DmI (sendF nm t A B SPD DB NX WS RK NT TO WD KD HI D o v) nm W A B (t + 1) := by
  intro m hm
  rcases sendF_or (nm := nm) (t := t) (A := A) (B := B) (SPD := SPD) (DB := DB) (NX := NX) (WS := WS) (RK := RK) (NT := NT) (TO := TO) (WD := WD) (KD := KD) (HI := HI) D o v m with z | ⟨_, z0, z1, _, z⟩
  · rw [z]; exact h m hm
  · rw [z]
    obtain ⟨h1, h2, h3, h4, h5, h6⟩ := h m hm
    have hk := tk_bd (n := WS o (WD m) (KD m)) (s := SPD v) (hw m hm).1 hs
    have hk2 := (hw m hm).2
    refine ⟨Or.inr (Or.inl rfl), h2, fun _ => ⟨hv, ?_, ?_, ?_⟩, fun z => absurd rfl z, h5, h6⟩
    · show A v = D m 1 ∨ B v = D m 1
      rw [z1]; exact hov
    · show t + 1 ≤ t + (WS o (WD m) (KD m) + SPD v - 1) / SPD v
      omega
    · show t + (WS o (WD m) (KD m) + SPD v - 1) / SPD v ≤ 10000
      omega
theorem MdI_ws {o : Int} {m : Nat} (hM : MdI I nm no2 t A B SPD DB U OP NX WS RK NT TO WD KD HI) (ho : 0 ≤ o ∧ o < 8) (hm : m < nm) : 1 ≤ WS o (WD m) (KD m) ∧ WS o (WD m) (KD m) ≤ 198 := by
  obtain ⟨-, hT⟩ := hM.2.2.2.2.2.2.2 m hm
  rw [← hM.2.2.2.1 o ho.1 ho.2 (WD m) (KD m) hT.2.1.1 hT.2.1.2 hT.2.2.1 hT.2.2.2]
  unfold wsO
  by_cases z : twO I (obF (I 117) o t no2) (KD m)
  · rw [cif_t z]; omega
  · rw [cif_f z]; omega
theorem y_gm_send {Q : QT} (hd : 6 ≤ d) (hM : MdI I nm no2 t A B SPD DB U OP NX WS RK NT TO WD KD HI) (hm : DmI D nm (I 100 3) A B (t + 1)) (hS : StD I nm D)
    (h : ∀ L : II, FrG I L → StD L nm (sendW nm t A B SPD DB U OP NX WS RK NT TO WD KD HI D (I 100 3).toNat) → DmI (sendW nm t A B SPD DB U OP NX WS RK NT TO WD KD HI D (I 100 3).toNat) nm (I 100 3) A B (t + 1) → Q none (shX nm no) (RX nm no) L) :
    ∀ (k n : Nat) (L : II) (l3 l4 : Option AV), (I 100 3).toNat - n < k → n ≤ (I 100 3).toNat → FrG I L → StD L nm (sendW nm t A B SPD DB U OP NX WS RK NT TO WD KD HI D n) → DmI (sendW nm t A B SPD DB U OP NX WS RK NT TO WD KD HI D n) nm (I 100 3) A B (t + 1) → T g d mX12_goMinute 0 0 215 [some (vr 100), some (vi t), some (vi n), l3, l4] [] (shX nm no) (RX nm no) L Q := by
  have ht0 := hM.1.2.2.2.2.2.2.2.2
  have hW := hM.1.1.1
  intro k
  induction k with
  | zero => intro n L l3 l4 hk; omega
  | succ k ih =>
    intro n L l3 l4 hk hn hL hSL hDL
    have e3 : L 100 3 = I 100 3 := by rw [hL 100 (by decide) (by decide)]
    have hML := MdI_fr hL hM
    have esw : sendW nm t A B SPD DB U OP NX WS RK NT TO WD KD HI D (n + 1) = cif (U n ∧ OP (A n) ∧ OP (B n)) (sendF nm t A B SPD DB NX WS RK NT TO WD KD HI (sendF nm t A B SPD DB NX WS RK NT TO WD KD HI (sendW nm t A B SPD DB U OP NX WS RK NT TO WD KD HI D n) (A n) n) (B n) n) (sendW nm t A B SPD DB U OP NX WS RK NT TO WD KD HI D n) := rfl
    refine m_iload_n dX12_goMinute_215 rfl ?_
    refine m_aload_n dX12_goMinute_216 rfl ?_
    refine m_gi (z := 3) dX12_goMinute_217 fl_X12_127 oX_100 rfl rfl ?_
    rw [e3]
    refine m_icmp_ge (tgt := 290) dX12_goMinute_220 (by decide) (fun c220 => ?_) (fun c220 => ?_)
    · have en : n = (I 100 3).toNat := by omega
      subst en
      refine m_vret dX12_goMinute_290 rfl ?_
      exact h L hL hSL hDL
    · have hvk := hM.1.1.2.2.2 n (by omega) (by omega)
      rw [hM.1.2.2.1, hM.1.2.2.2.1, hM.1.2.2.2.2.1] at hvk
      have lA : L 103 = A := hML.1.2.2.1
      have lB : L 104 = B := hML.1.2.2.2.1
      refine m_aload_n dX12_goMinute_223 rfl ?_
      refine m_iload_n dX12_goMinute_224 rfl ?_
      refine m_iload_n dX12_goMinute_225 rfl ?_
      refine m_Vi [_, _] dX12_goMinute_226 lk_X12_174 rfl oX_100 rfl (Nat.le_of_ble_eq_true rfl) (by omega) (y_isUp (by omega) hML.1.1) ?_
      refine m_if_eq (tgt := 284) dX12_goMinute_229 (by decide) (fun c229 => ?_) (fun c229 => ?_)
      · have hno : ¬ (U n ∧ OP (A n) ∧ OP (B n)) := fun z => bP_eq0 c229 ((hML.2.1 n (by omega) (by omega)).mpr z.1)
        refine m_iinc dX12_goMinute_284 rfl (by decide) rfl rfl (by omega) ?_
        refine m_goto (tgt := 215) dX12_goMinute_287 (by decide) ?_
        first
        | (rw [cif_f hno] at esw
           exact ih (n + 1) L _ _ (by omega) (by omega) hL (by rw [esw]; exact hSL) (by rw [esw]; exact hDL))
        | (obtain ⟨w3, w4⟩ := q281
           have hL3 := FrG_tr hL2 w3
           have hD3 := MsgD_snd (DB := DB) (NX := NX) (RK := RK) (NT := NT) (TO := TO) (HI := HI) hD2 ht0 (show (0 : Int) ≤ n ∧ (n : Int) < I 100 3 by omega) (Or.inr rfl) hvk.2.2.2.1.1 (fun m hm => MdI_ws hM (by omega) hm)
           rw [cif_t ⟨hU, hO1, hO2⟩] at esw
           rw [← esw] at w4 hD3
           exact ih (n + 1) _ _ _ (by omega) (by omega) hL3 w4 hD3)
      · have hU := (hML.2.1 n (by omega) (by omega)).mp (bP_ne0 c229)
        refine m_aload_n dX12_goMinute_232 rfl ?_
        refine m_aload_n dX12_goMinute_233 rfl ?_
        refine m_gr (z := 4) dX12_goMinute_234 fl_X12_16 oX_100 rfl rfl rX_100_4 ?_
        refine m_iload_n dX12_goMinute_237 rfl ?_
        refine m_iald dX12_goMinute_238 sX_103 (by omega) (by omega) ?_
        rw [lA]
        refine m_iload_n dX12_goMinute_239 rfl ?_
        refine m_Vi [_, _] dX12_goMinute_240 lk_X12_153 rfl oX_100 rfl (Nat.le_of_ble_eq_true rfl) (by omega) (y_isOpen (by omega) (by omega) ht0.1) ?_
        refine m_if_eq (tgt := 284) dX12_goMinute_243 (by decide) (fun c243 => ?_) (fun c243 => ?_)
        · have hno : ¬ (U n ∧ OP (A n) ∧ OP (B n)) := fun z => bI_eq0 c243 ((hML.2.2.1 (A n) (by omega) (by omega)).mpr z.2.1)
          refine m_iinc dX12_goMinute_284 rfl (by decide) rfl rfl (by omega) ?_
          refine m_goto (tgt := 215) dX12_goMinute_287 (by decide) ?_
          first
          | (rw [cif_f hno] at esw
             exact ih (n + 1) L _ _ (by omega) (by omega) hL (by rw [esw]; exact hSL) (by rw [esw]; exact hDL))
          | (obtain ⟨w3, w4⟩ := q281
             have hL3 := FrG_tr hL2 w3
             have hD3 := MsgD_snd (DB := DB) (NX := NX) (RK := RK) (NT := NT) (TO := TO) (HI := HI) hD2 ht0 (show (0 : Int) ≤ n ∧ (n : Int) < I 100 3 by omega) (Or.inr rfl) hvk.2.2.2.1.1 (fun m hm => MdI_ws hM (by omega) hm)
             rw [cif_t ⟨hU, hO1, hO2⟩] at esw
             rw [← esw] at w4 hD3
             exact ih (n + 1) _ _ _ (by omega) (by omega) hL3 w4 hD3)
        · have hO1 := (hML.2.2.1 (A n) (by omega) (by omega)).mp (bI_ne0 c243)
          refine m_aload_n dX12_goMinute_246 rfl ?_
          refine m_aload_n dX12_goMinute_247 rfl ?_
          refine m_gr (z := 5) dX12_goMinute_248 fl_X12_19 oX_100 rfl rfl rX_100_5 ?_
          refine m_iload_n dX12_goMinute_251 rfl ?_
          refine m_iald dX12_goMinute_252 sX_104 (by omega) (by omega) ?_
          rw [lB]
          refine m_iload_n dX12_goMinute_253 rfl ?_
          refine m_Vi [_, _] dX12_goMinute_254 lk_X12_153 rfl oX_100 rfl (Nat.le_of_ble_eq_true rfl) (by omega) (y_isOpen (by omega) (by omega) ht0.1) ?_
          refine m_if_eq (tgt := 284) dX12_goMinute_257 (by decide) (fun c257 => ?_) (fun c257 => ?_)
          · have hno : ¬ (U n ∧ OP (A n) ∧ OP (B n)) := fun z => bI_eq0 c257 ((hML.2.2.1 (B n) (by omega) (by omega)).mpr z.2.2)
            refine m_iinc dX12_goMinute_284 rfl (by decide) rfl rfl (by omega) ?_
            refine m_goto (tgt := 215) dX12_goMinute_287 (by decide) ?_
            first
            | (rw [cif_f hno] at esw
               exact ih (n + 1) L _ _ (by omega) (by omega) hL (by rw [esw]; exact hSL) (by rw [esw]; exact hDL))
            | (obtain ⟨w3, w4⟩ := q281
               have hL3 := FrG_tr hL2 w3
               have hD3 := MsgD_snd (DB := DB) (NX := NX) (RK := RK) (NT := NT) (TO := TO) (HI := HI) hD2 ht0 (show (0 : Int) ≤ n ∧ (n : Int) < I 100 3 by omega) (Or.inr rfl) hvk.2.2.2.1.1 (fun m hm => MdI_ws hM (by omega) hm)
               rw [cif_t ⟨hU, hO1, hO2⟩] at esw
               rw [← esw] at w4 hD3
               exact ih (n + 1) _ _ _ (by omega) (by omega) hL3 w4 hD3)
          · have hO2 := (hML.2.2.1 (B n) (by omega) (by omega)).mp (bI_ne0 c257)
            refine m_aload_n dX12_goMinute_260 rfl ?_
            refine m_iload_n dX12_goMinute_261 rfl ?_
            refine m_aload_n dX12_goMinute_262 rfl ?_
            refine m_gr (z := 4) dX12_goMinute_263 fl_X12_16 oX_100 rfl rfl rX_100_4 ?_
            refine m_iload_n dX12_goMinute_266 rfl ?_
            refine m_iald dX12_goMinute_267 sX_103 (by omega) (by omega) ?_
            rw [lA]
            refine m_iload_n dX12_goMinute_268 rfl ?_
            refine m_VV [_, _, _] dX12_goMinute_269 lk_X12_205 rfl oX_100 rfl (Nat.le_of_ble_eq_true rfl) (by omega) (y_sendFrom (by omega) hML hSL (by rw [e3]; exact hDL) (by omega) (by omega)) ?_
            intro I269 q269
            obtain ⟨w1, w2⟩ := q269
            have hL2 := FrG_tr hL w1
            have hD2 := MsgD_snd (DB := DB) (NX := NX) (RK := RK) (NT := NT) (TO := TO) (HI := HI) hDL ht0 (show (0 : Int) ≤ n ∧ (n : Int) < I 100 3 by omega) (Or.inl rfl) hvk.2.2.2.1.1 (fun m hm => MdI_ws hM (by omega) hm)
            have hM2 := MdI_fr hL2 hM
            refine m_aload_n dX12_goMinute_272 rfl ?_
            refine m_iload_n dX12_goMinute_273 rfl ?_
            refine m_aload_n dX12_goMinute_274 rfl ?_
            refine m_gr (z := 5) dX12_goMinute_275 fl_X12_19 oX_100 rfl rfl rX_100_5 ?_
            refine m_iload_n dX12_goMinute_278 rfl ?_
            refine m_iald dX12_goMinute_279 sX_104 (by omega) (by omega) ?_
            rw [hM2.1.2.2.2.1]
            refine m_iload_n dX12_goMinute_280 rfl ?_
            refine m_VV [_, _, _] dX12_goMinute_281 lk_X12_205 rfl oX_100 rfl (Nat.le_of_ble_eq_true rfl) (by omega) (y_sendFrom (by omega) hM2 w2 (by rw [hL2 100 (by decide) (by decide)]; exact hD2) (by omega) (by rw [hL2 100 (by decide) (by decide)]; omega)) ?_
            intro I281 q281
            refine m_iinc dX12_goMinute_284 rfl (by decide) rfl rfl (by omega) ?_
            refine m_goto (tgt := 215) dX12_goMinute_287 (by decide) ?_
            first
            | (rw [cif_f hno] at esw
               exact ih (n + 1) L _ _ (by omega) (by omega) hL (by rw [esw]; exact hSL) (by rw [esw]; exact hDL))
            | (obtain ⟨w3, w4⟩ := q281
               have hL3 := FrG_tr hL2 w3
               have hD3 := MsgD_snd (DB := DB) (NX := NX) (RK := RK) (NT := NT) (TO := TO) (HI := HI) hD2 ht0 (show (0 : Int) ≤ n ∧ (n : Int) < I 100 3 by omega) (Or.inr rfl) hvk.2.2.2.1.1 (fun m hm => MdI_ws hM (by omega) hm)
               rw [cif_t ⟨hU, hO1, hO2⟩] at esw
               rw [← esw] at w4 hD3
               exact ih (n + 1) _ _ _ (by omega) (by omega) hL3 w4 hD3)
theorem y_goMinute (hd : 6 ≤ d) (hM : MdI I nm no2 t A B SPD DB U OP NX WS RK NT TO WD KD HI) (hm : DmI D nm (I 100 3) A B t) (hS : StD I nm D) : SV g d mX12_goMinute [vr 100, vi t] (shX nm no) (RX nm no) I (fun L => FrG I L ∧ StD L nm (minuteF nm t A B SPD DB U OP NX WS RK NT TO WD KD HI (I 100 3).toNat D) ∧ DmI (minuteF nm t A B SPD DB U OP NX WS RK NT TO WD KD HI (I 100 3).toNat D) nm (I 100 3) A B (t + 1)) := by
  intro Q h
  refine C_of rfl (Nat.le_of_ble_eq_true rfl) rfl ?_
  refine m_iconst dX12_goMinute_0 (by decide) ?_
  refine m_istore_n dX12_goMinute_1 (by decide) rfl rfl ?_
  have ht0 := hM.1.2.2.2.2.2.2.2.2
  have hW3 : ∀ v, 0 ≤ v → v < I 100 3 → (0 ≤ A v ∧ A v < 8) ∧ (0 ≤ B v ∧ B v < 8) := fun v v0 v1 => by
    have z := hM.1.1.2.2.2 v v0 v1
    rw [hM.1.2.2.1, hM.1.2.2.2.1] at z
    exact ⟨z.1, z.2.1⟩
  refine y_gm_end (by omega) hM hm (fun L a2 l3 l4 hL hlp => ?_) (nm + 1) 0 I _ _ (by omega) (by omega) FrG_rf (fun j hj => by rw [if_neg (by omega)]; exact hS j hj)
  have hM1 := MdI_fr hL hM
  have e1 : L 100 3 = I 100 3 := by rw [hL 100 (by decide) (by decide)]
  refine m_iconst dX12_goMinute_132 (by decide) ?_
  refine m_istore_n dX12_goMinute_133 (by decide) rfl rfl ?_
  have hE : ∀ m : Nat, m < nm → MsgD (I 100 3) A B (t + 1) (endM t A B U (D m)) := fun m hmn => MsgD_end (hm m hmn) hW3
  refine y_gm_give (D := fun m => endM t A B U (D m)) (by omega) hM1 (fun m hmn z => ((hE m hmn).2.2.2.1 z).2) (fun L2 a2 l3 l4 hL2 hlp2 => ?_) (nm + 1) 0 L _ _ (by omega) (by omega) FrG_rf (fun j hj => by rw [if_neg (by omega), hlp j hj, if_pos hj])
  have hL3 := FrG_tr hL hL2
  have hM2 := MdI_fr hL3 hM
  have e2 : L2 100 3 = I 100 3 := by rw [hL3 100 (by decide) (by decide)]
  refine m_iconst dX12_goMinute_213 (by decide) ?_
  refine m_istore_n dX12_goMinute_214 (by decide) rfl rfl ?_
  have hSD : StD L2 nm (fun m => if m < nm then givM t OP TO m (endM t A B U (D m)) else D m) := fun j hj => by
    rw [hlp2 j hj, if_pos hj]; show _ = (if j < nm then givM t OP TO j (endM t A B U (D j)) else D j); rw [if_pos hj]
  have hDD : DmI (fun m => if m < nm then givM t OP TO m (endM t A B U (D m)) else D m) nm (I 100 3) A B (t + 1) := fun j hj => by
    show MsgD _ _ _ _ (if j < nm then givM t OP TO j (endM t A B U (D j)) else D j)
    rw [if_pos hj]; exact MsgD_giv (hE j hj) ht0
  have z := y_gm_send (g := g) (d := d) (nm := nm) (no := no) (I := L2) (Q := Q) (by omega) hM2 (by rw [e2]; exact hDD) hSD (fun K a b c => h K ⟨FrG_tr hL3 a, by rw [e2] at b; exact b, by rw [e2] at c; exact c⟩)
  rw [e2] at z
  exact z _ 0 L2 _ _ (Nat.lt_succ_self _) (by omega) FrG_rf hSD hDD
end
