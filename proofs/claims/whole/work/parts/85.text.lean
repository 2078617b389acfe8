/-! TEXT: goOn, passes, passesNumber, passesKind -/
section
variable {g : GH} {d nm no : Nat} {I : II}
/-- only what the reading of tokens sets has changed -/
def FrX (I J : II) : Prop := (∀ x, x ≠ 46 → J x = I x) ∧ ∀ j : Int, j ≠ 2 → j ≠ 3 → j ≠ 4 → j ≠ 5 → J 46 j = I 46 j
theorem FrX_rf {I : II} : FrX I I := ⟨fun _ _ => rfl, fun _ _ _ _ _ => rfl⟩
theorem FrX_tr {I J K : II} (h : FrX I J) (h2 : FrX J K) : FrX I K := ⟨fun x a => (h2.1 x a).trans (h.1 x a), fun j a b c e => (h2.2 j a b c e).trans (h.2 j a b c e)⟩
/-- the token looked at is the one behind p -/
def tkA (I J : II) (p : Int) : Prop := J 46 2 = tS (I 47) (I 46 1) p ∧ J 46 3 = tE (I 47) (I 46 1) p
def TxI (I : II) : Prop := (0 ≤ I 46 1 ∧ I 46 1 ≤ 160) ∧ ∀ j, 0 ≤ j → j < 160 → 0 ≤ I 47 j ∧ I 47 j ≤ 255
theorem x_go_run {p s : Int} {Q : QT} (hd : 1 ≤ d) (hT : TxI I) (hp : 0 ≤ p ∧ p ≤ I 46 1) (hsp : isSp (I 47) (I 46 1) p s) (hs : 0 ≤ s ∧ s < I 46 1) (h : ∀ J, FrX I J ∧ J 46 4 = I 46 4 ∧ J 46 5 = I 46 5 ∧ J 46 2 = tS (I 47) (I 46 1) p ∧ J 46 3 = tE (I 47) (I 46 1) p → Q none (shX nm no) (RX nm no) J) :
    ∀ (m : Nat) (e : Int) (K : II), (I 46 1 - e).toNat < m → s < e → e ≤ I 46 1 → (∀ x, x ≠ 46 → K x = I x) → (∀ j : Int, j ≠ 2 → j ≠ 3 → K 46 j = I 46 j) → K 46 2 = s → K 46 3 = e → ((isLe (I 47 s) → ∀ i, s ≤ i → i < e → isLe (I 47 i)) ∧ (isDg (I 47 s) → ∀ i, s ≤ i → i < e → isDg (I 47 i)) ∧ (¬ isLe (I 47 s) → ¬ isDg (I 47 s) → e = s + 1)) → T g d mX10_goOn 0 0 101 [some (vr 46), some (vi (bI (97 ≤ I 47 s ∧ I 47 s ≤ 122))), some (vi (bI (48 ≤ I 47 s ∧ I 47 s ≤ 57)))] [] (shX nm no) (RX nm no) K Q := by
  have hT1 := hT.1
  intro m
  induction m with
  | zero => intro e K hm; omega
  | succ m ih =>
    intro e K hm he1 he2 hF1 hF2 hK2 hK3 hr
    have k1 : K 46 1 = I 46 1 := hF2 1 (by decide) (by decide)
    have k47 : K 47 = I 47 := hF1 47 (by decide)
    refine m_aload_n dX10_goOn_101 rfl ?_
    refine m_gi (z := 3) dX10_goOn_102 fl_X10_28 oX_46 rfl rfl ?_
    rw [hK3]
    refine m_aload_n dX10_goOn_105 rfl ?_
    refine m_gi (z := 1) dX10_goOn_106 fl_X10_15 oX_46 rfl rfl ?_
    rw [k1]
    refine m_icmp_ge (tgt := 163) dX10_goOn_109 (by decide) (fun c109 => ?_) (fun c109 => ?_)
    · refine m_vret dX10_goOn_163 rfl ?_
      have hte : isTe (I 47) (I 46 1) s e := Or.inr ⟨hs.2, by omega, by
        by_cases hL : isLe (I 47 s)
        · exact Or.inl ⟨hL, hr.1 hL, fun z y => by unfold isLe isDg at *; omega⟩
        · by_cases hD : isDg (I 47 s)
          · exact Or.inr (Or.inl ⟨hD, hr.2.1 hD, fun z y => by unfold isLe isDg at *; omega⟩)
          · exact Or.inr (Or.inr ⟨hL, hD, hr.2.2 hL hD⟩)⟩
      exact h K ⟨⟨hF1, fun j a b _ _ => hF2 j a b⟩, hF2 4 (by decide) (by decide), hF2 5 (by decide) (by decide), hK2.trans (tS_eq hsp).symm, hK3.trans (tE_eq (by omega) (by rw [tS_eq hsp]; exact hte)).symm⟩
    · refine m_iload_n dX10_goOn_112 rfl ?_
      refine m_if_eq (tgt := 131) dX10_goOn_113 (by decide) (fun c113 => ?_) (fun c113 => ?_)
      · have z113 := bI_eq0 c113
        refine m_iload_n dX10_goOn_131 rfl ?_
        refine m_if_eq (tgt := 163) dX10_goOn_132 (by decide) (fun c132 => ?_) (fun c132 => ?_)
        · have z132 := bI_eq0 c132
          refine m_vret dX10_goOn_163 rfl ?_
          have hte : isTe (I 47) (I 46 1) s e := Or.inr ⟨hs.2, by omega, by
            by_cases hL : isLe (I 47 s)
            · exact Or.inl ⟨hL, hr.1 hL, fun z y => by unfold isLe isDg at *; omega⟩
            · by_cases hD : isDg (I 47 s)
              · exact Or.inr (Or.inl ⟨hD, hr.2.1 hD, fun z y => by unfold isLe isDg at *; omega⟩)
              · exact Or.inr (Or.inr ⟨hL, hD, hr.2.2 hL hD⟩)⟩
          exact h K ⟨⟨hF1, fun j a b _ _ => hF2 j a b⟩, hF2 4 (by decide) (by decide), hF2 5 (by decide) (by decide), hK2.trans (tS_eq hsp).symm, hK3.trans (tE_eq (by omega) (by rw [tS_eq hsp]; exact hte)).symm⟩
        · have z132 := bI_ne0 c132
          refine m_aload_n dX10_goOn_135 rfl ?_
          refine m_gr (z := 0) dX10_goOn_136 fl_X10_9 oX_46 rfl rfl rX_46_0 ?_
          refine m_aload_n dX10_goOn_139 rfl ?_
          refine m_gi (z := 3) dX10_goOn_140 fl_X10_28 oX_46 rfl rfl ?_
          rw [hK3]
          refine m_cald dX10_goOn_143 sX_47 (by omega) (by omega) ?_
          rw [k47]
          refine m_Si [_] dX10_goOn_144 lk_X10_121 rfl rfl (Nat.le_of_ble_eq_true rfl) (by omega) x_isDigit ?_
          refine m_if_eq (tgt := 163) dX10_goOn_147 (by decide) (fun c147 => ?_) (fun c147 => ?_)
          · have z147 := bI_eq0 c147
            refine m_vret dX10_goOn_163 rfl ?_
            have hte : isTe (I 47) (I 46 1) s e := Or.inr ⟨hs.2, by omega, by
              by_cases hL : isLe (I 47 s)
              · exact Or.inl ⟨hL, hr.1 hL, fun z y => by unfold isLe isDg at *; omega⟩
              · by_cases hD : isDg (I 47 s)
                · exact Or.inr (Or.inl ⟨hD, hr.2.1 hD, fun z y => by unfold isLe isDg at *; omega⟩)
                · exact Or.inr (Or.inr ⟨hL, hD, hr.2.2 hL hD⟩)⟩
            exact h K ⟨⟨hF1, fun j a b _ _ => hF2 j a b⟩, hF2 4 (by decide) (by decide), hF2 5 (by decide) (by decide), hK2.trans (tS_eq hsp).symm, hK3.trans (tE_eq (by omega) (by rw [tS_eq hsp]; exact hte)).symm⟩
          · have z147 := bI_ne0 c147
            refine m_aload_n dX10_goOn_150 rfl ?_
            refine m_dup dX10_goOn_151 (fun _ z => by cases z) ?_
            refine m_gi (z := 3) dX10_goOn_152 fl_X10_28 oX_46 rfl rfl ?_
            rw [hK3]
            refine m_iconst dX10_goOn_155 (by decide) ?_
            refine m_iadd dX10_goOn_156 (by omega) ?_
            refine m_pi (z := 3) dX10_goOn_157 fl_X10_28 oX_46 rfl rfl rfl ?_
            refine m_goto (tgt := 101) dX10_goOn_160 (by decide) ?_
            refine ih (e + 1) _ (by omega) (by omega) (by omega) (fun x hx => by rw [upI_o hx]; exact hF1 x hx) (fun j a b => by rw [upI_j b]; exact hF2 j a b) (by rw [upI_j (by decide)]; exact hK2) (by rw [upI_s]) ⟨fun hL i i0 i1 => ?_, fun hD i i0 i1 => ?_, fun a b => by unfold isLe isDg at *; omega⟩
            · rcases (show i < e ∨ i = e by omega) with y | y
              · exact hr.1 hL i i0 y
              · subst y; unfold isLe isDg at *; omega
            · rcases (show i < e ∨ i = e by omega) with y | y
              · exact hr.2.1 hD i i0 y
              · subst y; unfold isLe isDg at *; omega
      · have z113 := bI_ne0 c113
        refine m_aload_n dX10_goOn_116 rfl ?_
        refine m_gr (z := 0) dX10_goOn_117 fl_X10_9 oX_46 rfl rfl rX_46_0 ?_
        refine m_aload_n dX10_goOn_120 rfl ?_
        refine m_gi (z := 3) dX10_goOn_121 fl_X10_28 oX_46 rfl rfl ?_
        rw [hK3]
        refine m_cald dX10_goOn_124 sX_47 (by omega) (by omega) ?_
        rw [k47]
        refine m_Si [_] dX10_goOn_125 lk_X10_140 rfl rfl (Nat.le_of_ble_eq_true rfl) (by omega) x_isLetter ?_
        refine m_if_ne (tgt := 150) dX10_goOn_128 (by decide) (fun c128 => ?_) (fun c128 => ?_)
        · have z128 := bI_ne0 c128
          refine m_aload_n dX10_goOn_150 rfl ?_
          refine m_dup dX10_goOn_151 (fun _ z => by cases z) ?_
          refine m_gi (z := 3) dX10_goOn_152 fl_X10_28 oX_46 rfl rfl ?_
          rw [hK3]
          refine m_iconst dX10_goOn_155 (by decide) ?_
          refine m_iadd dX10_goOn_156 (by omega) ?_
          refine m_pi (z := 3) dX10_goOn_157 fl_X10_28 oX_46 rfl rfl rfl ?_
          refine m_goto (tgt := 101) dX10_goOn_160 (by decide) ?_
          refine ih (e + 1) _ (by omega) (by omega) (by omega) (fun x hx => by rw [upI_o hx]; exact hF1 x hx) (fun j a b => by rw [upI_j b]; exact hF2 j a b) (by rw [upI_j (by decide)]; exact hK2) (by rw [upI_s]) ⟨fun hL i i0 i1 => ?_, fun hD i i0 i1 => ?_, fun a b => by unfold isLe isDg at *; omega⟩
          · rcases (show i < e ∨ i = e by omega) with y | y
            · exact hr.1 hL i i0 y
            · subst y; unfold isLe isDg at *; omega
          · rcases (show i < e ∨ i = e by omega) with y | y
            · exact hr.2.1 hD i i0 y
            · subst y; unfold isLe isDg at *; omega
        · have z128 := bI_eq0 (show _ = (0 : Int) by omega)
          refine m_iload_n dX10_goOn_131 rfl ?_
          refine m_if_eq (tgt := 163) dX10_goOn_132 (by decide) (fun c132 => ?_) (fun c132 => ?_)
          · have z132 := bI_eq0 c132
            refine m_vret dX10_goOn_163 rfl ?_
            have hte : isTe (I 47) (I 46 1) s e := Or.inr ⟨hs.2, by omega, by
              by_cases hL : isLe (I 47 s)
              · exact Or.inl ⟨hL, hr.1 hL, fun z y => by unfold isLe isDg at *; omega⟩
              · by_cases hD : isDg (I 47 s)
                · exact Or.inr (Or.inl ⟨hD, hr.2.1 hD, fun z y => by unfold isLe isDg at *; omega⟩)
                · exact Or.inr (Or.inr ⟨hL, hD, hr.2.2 hL hD⟩)⟩
            exact h K ⟨⟨hF1, fun j a b _ _ => hF2 j a b⟩, hF2 4 (by decide) (by decide), hF2 5 (by decide) (by decide), hK2.trans (tS_eq hsp).symm, hK3.trans (tE_eq (by omega) (by rw [tS_eq hsp]; exact hte)).symm⟩
          · have z132 := bI_ne0 c132
            refine m_aload_n dX10_goOn_135 rfl ?_
            refine m_gr (z := 0) dX10_goOn_136 fl_X10_9 oX_46 rfl rfl rX_46_0 ?_
            refine m_aload_n dX10_goOn_139 rfl ?_
            refine m_gi (z := 3) dX10_goOn_140 fl_X10_28 oX_46 rfl rfl ?_
            rw [hK3]
            refine m_cald dX10_goOn_143 sX_47 (by omega) (by omega) ?_
            rw [k47]
            refine m_Si [_] dX10_goOn_144 lk_X10_121 rfl rfl (Nat.le_of_ble_eq_true rfl) (by omega) x_isDigit ?_
            refine m_if_eq (tgt := 163) dX10_goOn_147 (by decide) (fun c147 => ?_) (fun c147 => ?_)
            · have z147 := bI_eq0 c147
              refine m_vret dX10_goOn_163 rfl ?_
              have hte : isTe (I 47) (I 46 1) s e := Or.inr ⟨hs.2, by omega, by
                by_cases hL : isLe (I 47 s)
                · exact Or.inl ⟨hL, hr.1 hL, fun z y => by unfold isLe isDg at *; omega⟩
                · by_cases hD : isDg (I 47 s)
                  · exact Or.inr (Or.inl ⟨hD, hr.2.1 hD, fun z y => by unfold isLe isDg at *; omega⟩)
                  · exact Or.inr (Or.inr ⟨hL, hD, hr.2.2 hL hD⟩)⟩
              exact h K ⟨⟨hF1, fun j a b _ _ => hF2 j a b⟩, hF2 4 (by decide) (by decide), hF2 5 (by decide) (by decide), hK2.trans (tS_eq hsp).symm, hK3.trans (tE_eq (by omega) (by rw [tS_eq hsp]; exact hte)).symm⟩
            · have z147 := bI_ne0 c147
              refine m_aload_n dX10_goOn_150 rfl ?_
              refine m_dup dX10_goOn_151 (fun _ z => by cases z) ?_
              refine m_gi (z := 3) dX10_goOn_152 fl_X10_28 oX_46 rfl rfl ?_
              rw [hK3]
              refine m_iconst dX10_goOn_155 (by decide) ?_
              refine m_iadd dX10_goOn_156 (by omega) ?_
              refine m_pi (z := 3) dX10_goOn_157 fl_X10_28 oX_46 rfl rfl rfl ?_
              refine m_goto (tgt := 101) dX10_goOn_160 (by decide) ?_
              refine ih (e + 1) _ (by omega) (by omega) (by omega) (fun x hx => by rw [upI_o hx]; exact hF1 x hx) (fun j a b => by rw [upI_j b]; exact hF2 j a b) (by rw [upI_j (by decide)]; exact hK2) (by rw [upI_s]) ⟨fun hL i i0 i1 => ?_, fun hD i i0 i1 => ?_, fun a b => by unfold isLe isDg at *; omega⟩
              · rcases (show i < e ∨ i = e by omega) with y | y
                · exact hr.1 hL i i0 y
                · subst y; unfold isLe isDg at *; omega
              · rcases (show i < e ∨ i = e by omega) with y | y
                · exact hr.2.1 hD i i0 y
                · subst y; unfold isLe isDg at *; omega
theorem x_go_skip {p : Int} {Q : QT} (hd : 1 ≤ d) (hT : TxI I) (hp : 0 ≤ p ∧ p ≤ I 46 1) (h : ∀ J, FrX I J ∧ J 46 4 = I 46 4 ∧ J 46 5 = I 46 5 ∧ J 46 2 = tS (I 47) (I 46 1) p ∧ J 46 3 = tE (I 47) (I 46 1) p → Q none (shX nm no) (RX nm no) J) :
    ∀ (m : Nat) (s : Int) (K : II), (I 46 1 - s).toNat < m → p ≤ s → s ≤ I 46 1 → (∀ x, x ≠ 46 → K x = I x) → (∀ j : Int, j ≠ 2 → j ≠ 3 → K 46 j = I 46 j) → K 46 2 = s → (∀ i, p ≤ i → i < s → I 47 i = 32) → T g d mX10_goOn 0 0 8 [some (vr 46), none, none] [] (shX nm no) (RX nm no) K Q := by
  have hT1 := hT.1
  intro m
  induction m with
  | zero => intro s K hm; omega
  | succ m ih =>
    intro s K hm hs1 hs2 hF1 hF2 hK2 hsp
    have k1 : K 46 1 = I 46 1 := hF2 1 (by decide) (by decide)
    have k47 : K 47 = I 47 := hF1 47 (by decide)
    refine m_aload_n dX10_goOn_8 rfl ?_
    refine m_gi (z := 2) dX10_goOn_9 fl_X10_38 oX_46 rfl rfl ?_
    rw [hK2]
    refine m_aload_n dX10_goOn_12 rfl ?_
    refine m_gi (z := 1) dX10_goOn_13 fl_X10_15 oX_46 rfl rfl ?_
    rw [k1]
    refine m_icmp_ge (tgt := 46) dX10_goOn_16 (by decide) (fun c16 => ?_) (fun c16 => ?_)
    · have hq : isSp (I 47) (I 46 1) p s := ⟨by omega, hsp, fun z => by omega⟩
      refine m_aload_n dX10_goOn_46 rfl ?_
      refine m_aload_n dX10_goOn_47 rfl ?_
      refine m_gi (z := 2) dX10_goOn_48 fl_X10_38 oX_46 rfl rfl ?_
      rw [hK2]
      refine m_iconst dX10_goOn_51 (by decide) ?_
      refine m_iadd dX10_goOn_52 (by omega) ?_
      refine m_aload_n dX10_goOn_53 rfl ?_
      refine m_gi (z := 1) dX10_goOn_54 fl_X10_15 oX_46 rfl rfl ?_
      rw [k1]
      refine m_min dX10_goOn_57 lk_X10_134 (by omega) (Nat.le_of_ble_eq_true rfl) ?_
      refine m_pi (z := 3) dX10_goOn_60 fl_X10_28 oX_46 rfl rfl rfl ?_
      have m1 : upI K 46 3 (min (s + 1) (I 46 1)) 46 1 = I 46 1 := by rw [upI_j (by decide)]; exact k1
      have m2 : upI K 46 3 (min (s + 1) (I 46 1)) 46 2 = s := by rw [upI_j (by decide)]; exact hK2
      have m47 : upI K 46 3 (min (s + 1) (I 46 1)) 47 = I 47 := by rw [upI_o (by decide)]; exact k47
      refine m_aload_n dX10_goOn_63 rfl ?_
      refine m_gi (z := 2) dX10_goOn_64 fl_X10_38 oX_46 rfl rfl ?_
      rw [m2]
      refine m_aload_n dX10_goOn_67 rfl ?_
      refine m_gi (z := 1) dX10_goOn_68 fl_X10_15 oX_46 rfl rfl ?_
      rw [m1]
      refine m_icmp_ne (tgt := 75) dX10_goOn_71 (by decide) (fun c71 => ?_) (fun c71 => ?_)
      · refine m_aload_n dX10_goOn_75 rfl ?_
        refine m_gr (z := 0) dX10_goOn_76 fl_X10_9 oX_46 rfl rfl rX_46_0 ?_
        refine m_aload_n dX10_goOn_79 rfl ?_
        refine m_gi (z := 2) dX10_goOn_80 fl_X10_38 oX_46 rfl rfl ?_
        rw [m2]
        refine m_cald dX10_goOn_83 sX_47 (by omega) (by omega) ?_
        rw [m47]
        refine m_Si [_] dX10_goOn_84 lk_X10_140 rfl rfl (Nat.le_of_ble_eq_true rfl) (by omega) x_isLetter ?_
        refine m_istore_n dX10_goOn_87 (by decide) rfl rfl ?_
        refine m_aload_n dX10_goOn_88 rfl ?_
        refine m_gr (z := 0) dX10_goOn_89 fl_X10_9 oX_46 rfl rfl rX_46_0 ?_
        refine m_aload_n dX10_goOn_92 rfl ?_
        refine m_gi (z := 2) dX10_goOn_93 fl_X10_38 oX_46 rfl rfl ?_
        rw [m2]
        refine m_cald dX10_goOn_96 sX_47 (by omega) (by omega) ?_
        rw [m47]
        refine m_Si [_] dX10_goOn_97 lk_X10_121 rfl rfl (Nat.le_of_ble_eq_true rfl) (by omega) x_isDigit ?_
        refine m_istore_n dX10_goOn_100 (by decide) rfl rfl ?_
        have em : min (s + 1) (I 46 1) = s + 1 := by omega
        refine x_go_run hd hT hp hq ⟨by omega, by omega⟩ h _ (s + 1) _ (Nat.lt_succ_self _) (by omega) (by omega) (fun x hx => by rw [upI_o hx]; exact hF1 x hx) (fun j a b => by rw [upI_j b]; exact hF2 j a b) m2 (by rw [upI_s]; exact em) ⟨fun hL i i0 i1 => by rw [show i = s by omega]; exact hL, fun hD i i0 i1 => by rw [show i = s by omega]; exact hD, fun _ _ => rfl⟩
      · refine m_vret dX10_goOn_74 rfl ?_
        have hte : isTe (I 47) (I 46 1) s (I 46 1) := Or.inl ⟨by omega, rfl⟩
        refine h _ ⟨⟨fun x hx => by rw [upI_o hx]; exact hF1 x hx, fun j a b _ _ => by rw [upI_j b]; exact hF2 j a b⟩, by rw [upI_j (by decide)]; exact hF2 4 (by decide) (by decide), by rw [upI_j (by decide)]; exact hF2 5 (by decide) (by decide), by rw [m2]; exact (tS_eq hq).symm, ?_⟩
        rw [upI_s, tE_eq (by omega) (by rw [tS_eq hq]; exact hte)]
        omega
    · refine m_aload_n dX10_goOn_19 rfl ?_
      refine m_gr (z := 0) dX10_goOn_20 fl_X10_9 oX_46 rfl rfl rX_46_0 ?_
      refine m_aload_n dX10_goOn_23 rfl ?_
      refine m_gi (z := 2) dX10_goOn_24 fl_X10_38 oX_46 rfl rfl ?_
      rw [hK2]
      refine m_cald dX10_goOn_27 sX_47 (by omega) (by omega) ?_
      rw [k47]
      refine m_bipush dX10_goOn_28 rfl (by decide) ?_
      refine m_icmp_ne (tgt := 46) dX10_goOn_30 (by decide) (fun c30 => ?_) (fun c30 => ?_)
      · have hq : isSp (I 47) (I 46 1) p s := ⟨by omega, hsp, fun _ => c30⟩
        refine m_aload_n dX10_goOn_46 rfl ?_
        refine m_aload_n dX10_goOn_47 rfl ?_
        refine m_gi (z := 2) dX10_goOn_48 fl_X10_38 oX_46 rfl rfl ?_
        rw [hK2]
        refine m_iconst dX10_goOn_51 (by decide) ?_
        refine m_iadd dX10_goOn_52 (by omega) ?_
        refine m_aload_n dX10_goOn_53 rfl ?_
        refine m_gi (z := 1) dX10_goOn_54 fl_X10_15 oX_46 rfl rfl ?_
        rw [k1]
        refine m_min dX10_goOn_57 lk_X10_134 (by omega) (Nat.le_of_ble_eq_true rfl) ?_
        refine m_pi (z := 3) dX10_goOn_60 fl_X10_28 oX_46 rfl rfl rfl ?_
        have m1 : upI K 46 3 (min (s + 1) (I 46 1)) 46 1 = I 46 1 := by rw [upI_j (by decide)]; exact k1
        have m2 : upI K 46 3 (min (s + 1) (I 46 1)) 46 2 = s := by rw [upI_j (by decide)]; exact hK2
        have m47 : upI K 46 3 (min (s + 1) (I 46 1)) 47 = I 47 := by rw [upI_o (by decide)]; exact k47
        refine m_aload_n dX10_goOn_63 rfl ?_
        refine m_gi (z := 2) dX10_goOn_64 fl_X10_38 oX_46 rfl rfl ?_
        rw [m2]
        refine m_aload_n dX10_goOn_67 rfl ?_
        refine m_gi (z := 1) dX10_goOn_68 fl_X10_15 oX_46 rfl rfl ?_
        rw [m1]
        refine m_icmp_ne (tgt := 75) dX10_goOn_71 (by decide) (fun c71 => ?_) (fun c71 => ?_)
        · refine m_aload_n dX10_goOn_75 rfl ?_
          refine m_gr (z := 0) dX10_goOn_76 fl_X10_9 oX_46 rfl rfl rX_46_0 ?_
          refine m_aload_n dX10_goOn_79 rfl ?_
          refine m_gi (z := 2) dX10_goOn_80 fl_X10_38 oX_46 rfl rfl ?_
          rw [m2]
          refine m_cald dX10_goOn_83 sX_47 (by omega) (by omega) ?_
          rw [m47]
          refine m_Si [_] dX10_goOn_84 lk_X10_140 rfl rfl (Nat.le_of_ble_eq_true rfl) (by omega) x_isLetter ?_
          refine m_istore_n dX10_goOn_87 (by decide) rfl rfl ?_
          refine m_aload_n dX10_goOn_88 rfl ?_
          refine m_gr (z := 0) dX10_goOn_89 fl_X10_9 oX_46 rfl rfl rX_46_0 ?_
          refine m_aload_n dX10_goOn_92 rfl ?_
          refine m_gi (z := 2) dX10_goOn_93 fl_X10_38 oX_46 rfl rfl ?_
          rw [m2]
          refine m_cald dX10_goOn_96 sX_47 (by omega) (by omega) ?_
          rw [m47]
          refine m_Si [_] dX10_goOn_97 lk_X10_121 rfl rfl (Nat.le_of_ble_eq_true rfl) (by omega) x_isDigit ?_
          refine m_istore_n dX10_goOn_100 (by decide) rfl rfl ?_
          have em : min (s + 1) (I 46 1) = s + 1 := by omega
          refine x_go_run hd hT hp hq ⟨by omega, by omega⟩ h _ (s + 1) _ (Nat.lt_succ_self _) (by omega) (by omega) (fun x hx => by rw [upI_o hx]; exact hF1 x hx) (fun j a b => by rw [upI_j b]; exact hF2 j a b) m2 (by rw [upI_s]; exact em) ⟨fun hL i i0 i1 => by rw [show i = s by omega]; exact hL, fun hD i i0 i1 => by rw [show i = s by omega]; exact hD, fun _ _ => rfl⟩
        · refine m_vret dX10_goOn_74 rfl ?_
          have hte : isTe (I 47) (I 46 1) s (I 46 1) := Or.inl ⟨by omega, rfl⟩
          refine h _ ⟨⟨fun x hx => by rw [upI_o hx]; exact hF1 x hx, fun j a b _ _ => by rw [upI_j b]; exact hF2 j a b⟩, by rw [upI_j (by decide)]; exact hF2 4 (by decide) (by decide), by rw [upI_j (by decide)]; exact hF2 5 (by decide) (by decide), by rw [m2]; exact (tS_eq hq).symm, ?_⟩
          rw [upI_s, tE_eq (by omega) (by rw [tS_eq hq]; exact hte)]
          omega
      · refine m_aload_n dX10_goOn_33 rfl ?_
        refine m_dup dX10_goOn_34 (fun _ z => by cases z) ?_
        refine m_gi (z := 2) dX10_goOn_35 fl_X10_38 oX_46 rfl rfl ?_
        rw [hK2]
        refine m_iconst dX10_goOn_38 (by decide) ?_
        refine m_iadd dX10_goOn_39 (by omega) ?_
        refine m_pi (z := 2) dX10_goOn_40 fl_X10_38 oX_46 rfl rfl rfl ?_
        refine m_goto (tgt := 8) dX10_goOn_43 (by decide) ?_
        refine ih (s + 1) _ (by omega) (by omega) (by omega) (fun x hx => by rw [upI_o hx]; exact hF1 x hx) (fun j a b => by rw [upI_j a]; exact hF2 j a b) (by rw [upI_s]) (fun i i0 i1 => ?_)
        rcases (show i < s ∨ i = s by omega) with y | y
        · exact hsp i i0 y
        · subst y; omega
theorem x_goOn10 {p : Int} (hd : 1 ≤ d) (hT : TxI I) (h3 : I 46 3 = p) (hp : 0 ≤ p ∧ p ≤ I 46 1) : SV g d mX10_goOn [vr 46] (shX nm no) (RX nm no) I (fun J => FrX I J ∧ J 46 4 = I 46 4 ∧ J 46 5 = I 46 5 ∧ J 46 2 = tS (I 47) (I 46 1) p ∧ J 46 3 = tE (I 47) (I 46 1) p) := by
  intro Q h
  refine C_of rfl (Nat.le_of_ble_eq_true rfl) rfl ?_
  refine m_aload_n dX10_goOn_0 rfl ?_
  refine m_aload_n dX10_goOn_1 rfl ?_
  refine m_gi (z := 3) dX10_goOn_2 fl_X10_28 oX_46 rfl rfl ?_
  rw [h3]
  refine m_pi (z := 2) dX10_goOn_5 fl_X10_38 oX_46 rfl rfl rfl ?_
  exact x_go_skip hd hT hp h _ p _ (Nat.lt_succ_self _) (by omega) (by omega) (fun x hx => by rw [upI_o hx]) (fun j a b => by rw [upI_j a]) (by rw [upI_s]) (fun i a b => by omega)
theorem x_pa_loop {i : Nat} {p s : Int} {Q : QT} (hd : 5 ≤ d) (hT : TxI I) (hi : i < 12) (hs : s = tS (I 47) (I 46 1) p) (h2 : I 46 2 = s) (h3 : I 46 3 = s + (litL.getD i 0 : Nat)) (hb : 0 ≤ s ∧ s + (litL.getD i 0 : Nat) ≤ I 46 1)
    (hy : (∀ k : Nat, k < litL.getD i 0 → I 47 (s + k) = litC i k) → T g d mX10_passes 0 0 58 [some (vr 46), some (vr (4 + i)), some (vi (s + (litL.getD i 0 : Nat)))] [] (shX nm no) (RX nm no) I Q) (hn : (¬ ∀ k : Nat, k < litL.getD i 0 → I 47 (s + k) = litC i k) → Q (some (vi 0)) (shX nm no) (RX nm no) I) :
    ∀ (m k : Nat), litL.getD i 0 - k < m → k ≤ litL.getD i 0 → (∀ j : Nat, j < k → I 47 (s + j) = litC i j) → T g d mX10_passes 0 0 23 [some (vr 46), some (vr (4 + i)), some (vi (s + k))] [] (shX nm no) (RX nm no) I Q := by
  have hT1 := hT.1
  have hl : litL.getD i 0 ≤ 6 := (lit_ok ⟨i, hi⟩).1.2
  intro m
  induction m with
  | zero => intro k hm; omega
  | succ m ih =>
    intro k hm hk hj
    refine m_iload_n dX10_passes_23 rfl ?_
    refine m_aload_n dX10_passes_24 rfl ?_
    refine m_gi (z := 3) dX10_passes_25 fl_X10_28 oX_46 rfl rfl ?_
    rw [h3]
    refine m_icmp_ge (tgt := 58) dX10_passes_28 (by decide) (fun c28 => ?_) (fun c28 => ?_)
    · have ek : k = litL.getD i 0 := by omega
      subst ek
      exact hy hj
    · refine m_aload_n dX10_passes_31 rfl ?_
      refine m_gr (z := 0) dX10_passes_32 fl_X10_9 oX_46 rfl rfl rX_46_0 ?_
      refine m_iload_n dX10_passes_35 rfl ?_
      refine m_cald dX10_passes_36 sX_47 (by omega) (by omega) ?_
      refine m_aload_n dX10_passes_37 rfl ?_
      refine m_iload_n dX10_passes_38 rfl ?_
      refine m_aload_n dX10_passes_39 rfl ?_
      refine m_gi (z := 2) dX10_passes_40 fl_X10_38 oX_46 rfl rfl ?_
      rw [h2]
      refine m_isub dX10_passes_43 (by omega) ?_
      rw [show s + (k : Int) - s = k by omega]
      refine m_Wi [_] dX10_passes_44 lw_chr rfl hi rfl (Nat.le_of_ble_eq_true rfl) (by omega) (x_charAt (by omega) hi (by omega)) ?_
      refine m_icmp_eq (tgt := 52) dX10_passes_47 (by decide) (fun c47 => ?_) (fun c47 => ?_)
      · refine m_iinc dX10_passes_52 rfl (by decide) rfl rfl (by omega) ?_
        refine m_goto (tgt := 23) dX10_passes_55 (by decide) ?_
        have z := ih (k + 1) (by omega) (by omega) (fun j hj2 => by
          rcases (show j < k ∨ j = k by omega) with y | y
          · exact hj j y
          · rw [y]; exact c47)
        rw [show s + ((k + 1 : Nat) : Int) = s + (k : Int) + 1 by omega] at z
        exact z
      · refine m_iconst dX10_passes_50 (by decide) ?_
        exact m_zret dX10_passes_51 rfl (Or.inl rfl) (hn (fun z => c47 (z k (by omega))))
theorem x_passes {i : Nat} {p : Int} (hd : 5 ≤ d) (hT : TxI I) (hi : i < 12) (hp : 0 ≤ p ∧ p ≤ I 46 1) (hA : tkA I I p) : SI g d mX10_passes [vr 46, vr (4 + i)] (shX nm no) (RX nm no) I (fun r J => (wdP (I 47) (I 46 1) p i ∧ r = 1 ∧ FrX I J ∧ J 46 4 = I 46 4 ∧ J 46 5 = I 46 5 ∧ tkA I J (tE (I 47) (I 46 1) p)) ∨ (¬ wdP (I 47) (I 46 1) p i ∧ r = 0 ∧ J = I)) := by
  have hT1 := hT.1
  have hb := t_bd (f := I 47) hp.2
  have hl : litL.getD i 0 ≤ 6 := (lit_ok ⟨i, hi⟩).1.2
  intro Q h
  refine C_of rfl (Nat.le_of_ble_eq_true rfl) rfl ?_
  refine m_aload_n dX10_passes_0 rfl ?_
  refine m_gi (z := 3) dX10_passes_1 fl_X10_28 oX_46 rfl rfl ?_
  refine m_aload_n dX10_passes_4 rfl ?_
  refine m_gi (z := 2) dX10_passes_5 fl_X10_38 oX_46 rfl rfl ?_
  rw [hA.1, hA.2]
  refine m_isub dX10_passes_8 (by omega) ?_
  refine m_aload_n dX10_passes_9 rfl ?_
  refine m_Wi [] dX10_passes_10 lw_len rfl hi rfl (Nat.le_of_ble_eq_true rfl) (by omega) (x_slen (by omega) hi) ?_
  refine m_icmp_eq (tgt := 18) dX10_passes_13 (by decide) (fun c13 => ?_) (fun c13 => ?_)
  · refine m_aload_n dX10_passes_18 rfl ?_
    refine m_gi (z := 2) dX10_passes_19 fl_X10_38 oX_46 rfl rfl ?_
    rw [hA.1]
    refine m_istore_n dX10_passes_22 (by decide) rfl rfl ?_
    have z := x_pa_loop (g := g) (d := d) (nm := nm) (no := no) (I := I) (i := i) (p := p) (s := tS (I 47) (I 46 1) p) (Q := Q) hd hT hi rfl hA.1 (by rw [hA.2]; omega) ⟨by omega, by omega⟩ (fun hw => ?_) (fun hw => h _ _ (Or.inr ⟨fun y => hw y.2, rfl, rfl⟩)) (litL.getD i 0 + 1) 0 (by omega) (by omega) (fun j hj => by omega)
    · rw [show tS (I 47) (I 46 1) p + ((0 : Nat) : Int) = tS (I 47) (I 46 1) p from Int.add_zero _] at z
      exact z
    · refine m_aload_n dX10_passes_58 rfl ?_
      refine m_VV [] dX10_passes_59 lk_X10_31 rfl oX_46 rfl (Nat.le_of_ble_eq_true rfl) (by omega) (x_goOn10 (p := tE (I 47) (I 46 1) p) (by omega) hT hA.2 (by omega)) ?_
      intro J q
      refine m_iconst dX10_passes_62 (by decide) ?_
      exact m_zret dX10_passes_63 rfl (Or.inr rfl) (h _ _ (Or.inl ⟨⟨c13, hw⟩, rfl, q.1, q.2.1, q.2.2.1, q.2.2.2.1, q.2.2.2.2⟩))
  · refine m_iconst dX10_passes_16 (by decide) ?_
    exact m_zret dX10_passes_17 rfl (Or.inl rfl) (h _ _ (Or.inr ⟨fun y => c13 y.1, rfl, rfl⟩))
theorem x_pn_loop {p mo : Int} {nn : Nat} {Q : QT} (hT : TxI I) (hp : 0 ≤ p ∧ p ≤ I 46 1) (hA : tkA I I p) (hn2 : nn ≤ 2) (hnn : tE (I 47) (I 46 1) p = tS (I 47) (I 46 1) p + nn) (hdg : ∀ i : Nat, i < nn → isDg (I 47 (tS (I 47) (I 46 1) p + i)))
    (hk : ∀ l3 : Int, T g d mX10_passesNumber 0 0 77 [some (vr 46), some (vi mo), some (vi (nvL (I 47) (tS (I 47) (I 46 1) p) nn)), some (vi l3)] [] (shX nm no) (RX nm no) I Q) :
    ∀ (m k : Nat), nn - k < m → k ≤ nn → T g d mX10_passesNumber 0 0 48 [some (vr 46), some (vi mo), some (vi (nvL (I 47) (tS (I 47) (I 46 1) p) k)), some (vi (tS (I 47) (I 46 1) p + k))] [] (shX nm no) (RX nm no) I Q := by
  have hT1 := hT.1
  have hb := t_bd (f := I 47) hp.2
  intro m
  induction m with
  | zero => intro k hm; omega
  | succ m ih =>
    intro k hm hk2
    have hv := nvL_bd (f := I 47) (s := tS (I 47) (I 46 1) p) k (by omega) (fun i hi => hdg i (by omega))
    have e1 : (nvL (I 47) (tS (I 47) (I 46 1) p) (k + 1)) = 10 * (nvL (I 47) (tS (I 47) (I 46 1) p) k) + I 47 (tS (I 47) (I 46 1) p + k) - 48 := rfl
    refine m_iload_n dX10_passesNumber_48 rfl ?_
    refine m_aload_n dX10_passesNumber_49 rfl ?_
    refine m_gi (z := 3) dX10_passesNumber_50 fl_X10_28 oX_46 rfl rfl ?_
    rw [hA.2, hnn]
    refine m_icmp_ge (tgt := 77) dX10_passesNumber_53 (by decide) (fun c53 => ?_) (fun c53 => ?_)
    · have ek : k = nn := by omega
      subst ek
      exact hk _
    · have hd1 := hdg k (by omega)
      unfold isDg at hd1
      refine m_bipush dX10_passesNumber_56 rfl (by decide) ?_
      refine m_iload_n dX10_passesNumber_58 rfl ?_
      refine m_imul dX10_passesNumber_59 (by omega) ?_
      refine m_aload_n dX10_passesNumber_60 rfl ?_
      refine m_gr (z := 0) dX10_passesNumber_61 fl_X10_9 oX_46 rfl rfl rX_46_0 ?_
      refine m_iload_n dX10_passesNumber_64 rfl ?_
      refine m_cald dX10_passesNumber_65 sX_47 (by omega) (by omega) ?_
      refine m_iadd dX10_passesNumber_66 (by omega) ?_
      refine m_bipush dX10_passesNumber_67 rfl (by decide) ?_
      refine m_isub dX10_passesNumber_69 (by omega) ?_
      rw [← e1]
      refine m_istore_n dX10_passesNumber_70 (by decide) rfl rfl ?_
      refine m_iinc dX10_passesNumber_71 rfl (by decide) rfl rfl (by omega) ?_
      refine m_goto (tgt := 48) dX10_passesNumber_74 (by decide) ?_
      have z := ih (k + 1) (by omega) (by omega)
      rw [show tS (I 47) (I 46 1) p + ((k + 1 : Nat) : Int) = tS (I 47) (I 46 1) p + (k : Int) + 1 by omega] at z
      exact z
theorem x_passesNumber {p mo : Int} (hd : 2 ≤ d) (hT : TxI I) (hp : 0 ≤ p ∧ p ≤ I 46 1) (hA : tkA I I p) : SI g d mX10_passesNumber [vr 46, vi mo] (shX nm no) (RX nm no) I (fun r J => (nuP (I 47) (I 46 1) p mo ∧ r = 1 ∧ FrX I J ∧ J 46 4 = I 46 4 ∧ J 46 5 = nvF (I 47) (I 46 1) p ∧ tkA I J (tE (I 47) (I 46 1) p)) ∨ (¬ nuP (I 47) (I 46 1) p mo ∧ r = 0 ∧ J = I)) := by
  have hT1 := hT.1
  have hb := t_bd (f := I 47) hp.2
  intro Q h
  refine C_of rfl (Nat.le_of_ble_eq_true rfl) rfl ?_
  refine m_aload_n dX10_passesNumber_0 rfl ?_
  refine m_gi (z := 2) dX10_passesNumber_1 fl_X10_38 oX_46 rfl rfl ?_
  rw [hA.1]
  refine m_aload_n dX10_passesNumber_4 rfl ?_
  refine m_gi (z := 1) dX10_passesNumber_5 fl_X10_15 oX_46 rfl rfl ?_
  refine m_icmp_eq (tgt := 39) dX10_passesNumber_8 (by decide) (fun c8 => ?_) (fun c8 => ?_)
  · refine m_iconst dX10_passesNumber_39 (by decide) ?_
    refine m_zret dX10_passesNumber_40 rfl (by omega) ?_
    refine h _ _ (Or.inr ⟨fun z => ?_, rfl, rfl⟩)
    have z1 := z.1
    unfold isDg at z1
    omega
  · refine m_aload_n dX10_passesNumber_11 rfl ?_
    refine m_gr (z := 0) dX10_passesNumber_12 fl_X10_9 oX_46 rfl rfl rX_46_0 ?_
    refine m_aload_n dX10_passesNumber_15 rfl ?_
    refine m_gi (z := 2) dX10_passesNumber_16 fl_X10_38 oX_46 rfl rfl ?_
    rw [hA.1]
    refine m_cald dX10_passesNumber_19 sX_47 (by omega) (by omega) ?_
    refine m_Si [_] dX10_passesNumber_20 lk_X10_121 rfl rfl (Nat.le_of_ble_eq_true rfl) (by omega) x_isDigit ?_
    refine m_if_eq (tgt := 39) dX10_passesNumber_23 (by decide) (fun c23 => ?_) (fun c23 => ?_)
    · have z23 := bI_eq0 c23
      refine m_iconst dX10_passesNumber_39 (by decide) ?_
      refine m_zret dX10_passesNumber_40 rfl (by omega) ?_
      refine h _ _ (Or.inr ⟨fun z => ?_, rfl, rfl⟩)
      have z1 := z.1
      unfold isDg at z1
      omega
    · have z23 := bI_ne0 c23
      refine m_aload_n dX10_passesNumber_26 rfl ?_
      refine m_gi (z := 3) dX10_passesNumber_27 fl_X10_28 oX_46 rfl rfl ?_
      rw [hA.2]
      refine m_aload_n dX10_passesNumber_30 rfl ?_
      refine m_gi (z := 2) dX10_passesNumber_31 fl_X10_38 oX_46 rfl rfl ?_
      rw [hA.1]
      refine m_isub dX10_passesNumber_34 (by omega) ?_
      refine m_iconst dX10_passesNumber_35 (by decide) ?_
      refine m_icmp_le (tgt := 41) dX10_passesNumber_36 (by decide) (fun c36 => ?_) (fun c36 => ?_)
      · refine m_iconst dX10_passesNumber_41 (by decide) ?_
        refine m_istore_n dX10_passesNumber_42 (by decide) rfl rfl ?_
        refine m_aload_n dX10_passesNumber_43 rfl ?_
        refine m_gi (z := 2) dX10_passesNumber_44 fl_X10_38 oX_46 rfl rfl ?_
        rw [hA.1]
        refine m_istore_n dX10_passesNumber_47 (by decide) rfl rfl ?_
        obtain ⟨nn, hnn⟩ : ∃ nn : Nat, tE (I 47) (I 46 1) p = tS (I 47) (I 46 1) p + nn := ⟨(tE (I 47) (I 46 1) p - tS (I 47) (I 46 1) p).toNat, by omega⟩
        have hte := tE_sp (f := I 47) hp.2
        have hdg : ∀ i : Nat, i < nn → isDg (I 47 (tS (I 47) (I 46 1) p + i)) := fun i hi => by
          rcases hte with z | ⟨_, _, z | z | z⟩
          · omega
          · exact (le_dg z.1 z23).elim
          · exact z.2.1 _ (by omega) (by omega)
          · exact absurd z23 z.2.1
        have en : nvF (I 47) (I 46 1) p = nvL (I 47) (tS (I 47) (I 46 1) p) nn := by unfold nvF; rw [show (tE (I 47) (I 46 1) p - tS (I 47) (I 46 1) p).toNat = nn by omega]
        have hv := nvL_bd (f := I 47) (s := tS (I 47) (I 46 1) p) nn (by omega) hdg
        have z := x_pn_loop (g := g) (d := d) (nm := nm) (no := no) (I := I) (p := p) (mo := mo) (nn := nn) (Q := Q) hT hp hA (by omega) hnn hdg (fun l3 => ?_) (nn + 1) 0 (by omega) (by omega)
        · rw [show tS (I 47) (I 46 1) p + ((0 : Nat) : Int) = tS (I 47) (I 46 1) p from Int.add_zero _] at z
          exact z
        refine m_iload_n dX10_passesNumber_77 rfl ?_
        refine m_iload_n dX10_passesNumber_78 rfl ?_
        refine m_icmp_le (tgt := 84) dX10_passesNumber_79 (by decide) (fun c79 => ?_) (fun c79 => ?_)
        · refine m_aload_n dX10_passesNumber_84 rfl ?_
          refine m_iload_n dX10_passesNumber_85 rfl ?_
          refine m_pi (z := 5) dX10_passesNumber_86 fl_X10_90 oX_46 rfl rfl rfl ?_
          refine m_aload_n dX10_passesNumber_89 rfl ?_
          refine m_VV [] dX10_passesNumber_90 lk_X10_31 rfl oX_46 rfl (Nat.le_of_ble_eq_true rfl) (by omega) (x_goOn10 (I := upI I 46 5 (nvL (I 47) (tS (I 47) (I 46 1) p) nn)) (p := tE (I 47) (I 46 1) p) (by omega) hT hA.2 ⟨by omega, by show _ ≤ I 46 1; omega⟩) ?_
          intro I90 q90
          refine m_iconst dX10_passesNumber_93 (by decide) ?_
          refine m_zret dX10_passesNumber_94 rfl (by omega) ?_
          obtain ⟨w1, w2, w3, w4, w5⟩ := q90
          refine h _ _ (Or.inl ⟨⟨⟨by omega, z23, by omega⟩, by omega⟩, rfl, ⟨fun x hx => by rw [w1.1 x hx, upI_o hx], fun j a b c e => by rw [w1.2 j a b c e, upI_j e]⟩, by rw [w2, upI_j (by decide)], by rw [w3, upI_s, en], w4, w5⟩)
        · refine m_iconst dX10_passesNumber_82 (by decide) ?_
          refine m_zret dX10_passesNumber_83 rfl (by omega) ?_
          exact h _ _ (Or.inr ⟨fun z => by have := z.2; omega, rfl, rfl⟩)
      · refine m_iconst dX10_passesNumber_39 (by decide) ?_
        refine m_zret dX10_passesNumber_40 rfl (by omega) ?_
        refine h _ _ (Or.inr ⟨fun z => ?_, rfl, rfl⟩)
        have z1 := z.1
        unfold isDg at z1
        omega
end
