/-! SHIFTS: planWith -/
def okS (I : II) (a b c : Int) : Prop := msD (I 77) (I 76 4) a b c 3 ≤ I 76 5
def rg (x : Int) : Prop := 0 ≤ x ∧ x ≤ 15
/-- t, c0, c1, c2: the best crew of the places under K (46: none) -/
def BpI (ok : Int → Int → Int → Prop) (K t c0 c1 c2 : Int) : Prop :=
  (0 ≤ t ∧ t ≤ 46) ∧ (∀ a b c, rg a → rg b → rg c → 256 * a + 16 * b + c < K → ok a b c → t ≤ a + b + c) ∧
  (t = 46 ∨ (rg c0 ∧ rg c1 ∧ rg c2 ∧ ok c0 c1 c2 ∧ t = c0 + c1 + c2 ∧ ∀ a b c, rg a → rg b → rg c → 256 * a + 16 * b + c < 256 * c0 + 16 * c1 + c2 → ok a b c → t < a + b + c))
def BpM (I : II) (K : Int) (J : II) : Prop := BpI (okS I) K (J 76 3) (J 78 0) (J 78 1) (J 78 2)
def FrW (I J : II) : Prop := (∀ x, x ≠ 76 → x ≠ 78 → J x = I x) ∧ ∀ j : Int, j ≠ 3 → J 76 j = I 76 j
theorem FrW_rf {I : II} : FrW I I := ⟨fun _ _ _ => rfl, fun _ _ => rfl⟩
theorem FrW_tr {I J K : II} (h : FrW I J) (h2 : FrW J K) : FrW I K := ⟨fun x a b => (h2.1 x a b).trans (h.1 x a b), fun j a => (h2.2 j a).trans (h.2 j a)⟩
theorem okS_fr {I J : II} (h : FrW I J) : okS J = okS I := by
  funext a b c
  unfold okS
  rw [h.1 77 (by decide) (by decide), h.2 4 (by decide), h.2 5 (by decide)]
theorem ShI_fr {I J : II} (h : FrW I J) (hI : ShI I) : ShI J := by
  unfold ShI
  rw [h.1 77 (by decide) (by decide), h.2 4 (by decide), h.2 5 (by decide)]
  exact hI
theorem BpI_skip {ok : Int → Int → Int → Prop} {K K' t c0 c1 c2 : Int} (h : BpI ok K t c0 c1 c2) (hs : ∀ a b c, rg a → rg b → rg c → K ≤ 256 * a + 16 * b + c → 256 * a + 16 * b + c < K' → ok a b c → t ≤ a + b + c) : BpI ok K' t c0 c1 c2 := by
  refine ⟨h.1, fun a b c ha hb hc hp ho => ?_, h.2.2⟩
  by_cases z : 256 * a + 16 * b + c < K
  · exact h.2.1 a b c ha hb hc z ho
  · exact hs a b c ha hb hc (by omega) hp ho
theorem rg3 {a b c a' b' c' : Int} (ha : rg a) (hb : rg b) (hc : rg c) (ha' : rg a') (hb' : rg b') (hc' : rg c') (h : 256 * a + 16 * b + c = 256 * a' + 16 * b' + c') : a = a' ∧ b = b' ∧ c = c' := by
  unfold rg at *
  omega
theorem BpI_take {ok : Int → Int → Int → Prop} {t c0 c1 c2 a b c : Int} (h : BpI ok (256 * a + 16 * b + c) t c0 c1 c2) (ha : rg a) (hb : rg b) (hc : rg c) (ho : ok a b c) (hl : a + b + c < t) : BpI ok (256 * a + 16 * b + (c + 1)) (a + b + c) a b c := by
  refine ⟨by unfold rg at ha hb hc; omega, fun a' b' c' ha' hb' hc' hp ho' => ?_, Or.inr ⟨ha, hb, hc, ho, rfl, fun a' b' c' ha' hb' hc' hp ho' => ?_⟩⟩
  · by_cases z : 256 * a' + 16 * b' + c' < 256 * a + 16 * b + c
    · have := h.2.1 a' b' c' ha' hb' hc' z ho'
      omega
    · have := rg3 ha' hb' hc' ha hb hc (by omega)
      omega
  · have := h.2.1 a' b' c' ha' hb' hc' hp ho'
    omega
section
variable {g : GH} {d nm no : Nat} {I : II}
theorem x_pw_three {a b l2 l3 : Int} {Q : QT} (hd : 3 ≤ d) (hI : ShI I) (ha : 0 ≤ a ∧ a ≤ 15) (hb : 0 ≤ b ∧ b ≤ 15)
    (hk : ∀ (J : II) (c : Int), FrW I J → BpM I (256 * a + 16 * b + 16) J → T g d mX7_planWith 0 0 86 [some (vr 76), some (vi a), some (vi l2), some (vi l3), some (vi b), some (vi c)] [] (shX nm no) (RX nm no) J Q) :
    ∀ (k : Nat) (c : Int) (J : II), 16 - c < k → 0 ≤ c → c ≤ 16 → FrW I J → BpM I (256 * a + 16 * b + c) J → T g d mX7_planWith 0 0 13 [some (vr 76), some (vi a), some (vi l2), some (vi l3), some (vi b), some (vi c)] [] (shX nm no) (RX nm no) J Q := by
  intro k
  induction k with
  | zero => intro c J h0 h1 h2; omega
  | succ k ih =>
    intro c J h0 h1 h2 hF hB
    have hJ := ShI_fr hF hI
    have ht := hB.1
    refine m_iload dX7_planWith_13 rfl ?_
    refine m_bipush dX7_planWith_15 rfl (by decide) ?_
    refine m_icmp_gt (tgt := 86) dX7_planWith_17 (by decide) (fun c17 => ?_) (fun c17 => ?_)
    · have ec : c = 16 := by omega
      subst ec
      first | exact hk J _ hF hB2 | exact hk J _ hF hB
    · refine m_iload_n dX7_planWith_20 rfl ?_
      refine m_iload dX7_planWith_21 rfl ?_
      refine m_iadd dX7_planWith_23 (by omega) ?_
      refine m_iload dX7_planWith_24 rfl ?_
      refine m_iadd dX7_planWith_26 (by omega) ?_
      refine m_aload_n dX7_planWith_27 rfl ?_
      refine m_gi (z := 3) dX7_planWith_28 fl_X7_39 oX_76 rfl rfl ?_
      refine m_icmp_ge (tgt := 86) dX7_planWith_31 (by decide) (fun c31 => ?_) (fun c31 => ?_)
      · have hB2 : BpM I (256 * a + 16 * b + 16) J := BpI_skip hB (fun a1 b1 c1 x1 x2 x3 x4 x5 _ => by unfold rg at x1 x2 x3; omega)
        first | exact hk J _ hF hB2 | exact hk J _ hF hB
      · refine m_aload_n dX7_planWith_34 rfl ?_
        refine m_iload_n dX7_planWith_35 rfl ?_
        refine m_iload dX7_planWith_36 rfl ?_
        refine m_iload dX7_planWith_38 rfl ?_
        refine m_Vi [_, _, _] dX7_planWith_40 lk_X7_42 rfl oX_76 rfl (Nat.le_of_ble_eq_true rfl) (by omega) (x_isEnough (by omega) hJ ha hb ⟨by omega, by omega⟩) ?_
        refine m_if_eq (tgt := 80) dX7_planWith_43 (by decide) (fun c43 => ?_) (fun c43 => ?_)
        · have z0 := bI_eq0 c43
          have z1 : ¬ okS J a b c := z0
          rw [okS_fr hF] at z1
          have HB : BpM I (256 * a + 16 * b + (c + 1)) J := BpI_skip hB (fun a1 b1 c1 x1 x2 x3 x4 x5 x6 => by
            obtain ⟨rfl, rfl, rfl⟩ := rg3 x1 x2 x3 ha hb (show rg c from ⟨by omega, by omega⟩) (by omega)
            exact absurd x6 z1)
          have HF := hF
          refine m_iinc dX7_planWith_80 rfl (by decide) rfl rfl (by omega) ?_
          refine m_goto (tgt := 13) dX7_planWith_83 (by decide) ?_
          exact ih (c + 1) _ (by omega) (by omega) (by omega) HF HB
        · have z0 := bI_ne0 c43
          have z1 : okS J a b c := z0
          rw [okS_fr hF] at z1
          have HB : BpM I (256 * a + 16 * b + (c + 1)) (upI (upI (upI (upI J 76 3 (a + b + c)) 78 0 a) 78 1 b) 78 2 c) := by
            unfold BpM
            rw [upI_o (show (76 : Nat) ≠ 78 by decide), upI_o (show (76 : Nat) ≠ 78 by decide), upI_o (show (76 : Nat) ≠ 78 by decide), upI_s, upI_j (show (0 : Int) ≠ 2 by decide), upI_j (show (0 : Int) ≠ 1 by decide), upI_s, upI_j (show (1 : Int) ≠ 2 by decide), upI_s, upI_s]
            exact BpI_take hB ha hb ⟨by omega, by omega⟩ z1 (by omega)
          have HF : FrW I (upI (upI (upI (upI J 76 3 (a + b + c)) 78 0 a) 78 1 b) 78 2 c) := FrW_tr hF ⟨fun x y1 y2 => by rw [upI_o y2, upI_o y2, upI_o y2, upI_o y1], fun j y => by rw [upI_o (show (76 : Nat) ≠ 78 by decide), upI_o (show (76 : Nat) ≠ 78 by decide), upI_o (show (76 : Nat) ≠ 78 by decide), upI_j y]⟩
          refine m_aload_n dX7_planWith_46 rfl ?_
          refine m_iload_n dX7_planWith_47 rfl ?_
          refine m_iload dX7_planWith_48 rfl ?_
          refine m_iadd dX7_planWith_50 (by omega) ?_
          refine m_iload dX7_planWith_51 rfl ?_
          refine m_iadd dX7_planWith_53 (by omega) ?_
          refine m_pi (z := 3) dX7_planWith_54 fl_X7_39 oX_76 rfl rfl rfl ?_
          refine m_aload_n dX7_planWith_57 rfl ?_
          refine m_gr (z := 1) dX7_planWith_58 fl_X7_15 oX_76 rfl rfl rX_76_1 ?_
          refine m_iconst dX7_planWith_61 (by decide) ?_
          refine m_iload_n dX7_planWith_62 rfl ?_
          refine m_iast dX7_planWith_63 sX_78 (by omega) (by omega) ?_
          refine m_aload_n dX7_planWith_64 rfl ?_
          refine m_gr (z := 1) dX7_planWith_65 fl_X7_15 oX_76 rfl rfl rX_76_1 ?_
          refine m_iconst dX7_planWith_68 (by decide) ?_
          refine m_iload dX7_planWith_69 rfl ?_
          refine m_iast dX7_planWith_71 sX_78 (by omega) (by omega) ?_
          refine m_aload_n dX7_planWith_72 rfl ?_
          refine m_gr (z := 1) dX7_planWith_73 fl_X7_15 oX_76 rfl rfl rX_76_1 ?_
          refine m_iconst dX7_planWith_76 (by decide) ?_
          refine m_iload dX7_planWith_77 rfl ?_
          refine m_iast dX7_planWith_79 sX_78 (by omega) (by omega) ?_
          refine m_iinc dX7_planWith_80 rfl (by decide) rfl rfl (by omega) ?_
          refine m_goto (tgt := 13) dX7_planWith_83 (by decide) ?_
          exact ih (c + 1) _ (by omega) (by omega) (by omega) HF HB
theorem x_pw_two {a l2 l3 : Int} {Q : QT} (hd : 3 ≤ d) (hI : ShI I) (ha : 0 ≤ a ∧ a ≤ 15) (hl : 0 ≤ l3 ∧ l3 ≤ 15) (h3 : ∀ a b c, rg a → rg b → rg c → okS I a b c → l3 ≤ c)
    (h : ∀ J : II, FrW I J → BpM I (256 * (a + 1)) J → Q none (shX nm no) (RX nm no) J) :
    ∀ (k : Nat) (b : Int) (J : II) (lv : Option AV), 16 - b < k → 0 ≤ b → b ≤ 16 → FrW I J → BpM I (256 * a + 16 * b) J → T g d mX7_planWith 0 0 3 [some (vr 76), some (vi a), some (vi l2), some (vi l3), some (vi b), lv] [] (shX nm no) (RX nm no) J Q := by
  intro k
  induction k with
  | zero => intro b J lv h0 h1 h2; omega
  | succ k ih =>
    intro b J lv h0 h1 h2 hF hB
    refine m_iload dX7_planWith_3 rfl ?_
    refine m_bipush dX7_planWith_5 rfl (by decide) ?_
    refine m_icmp_gt (tgt := 92) dX7_planWith_7 (by decide) (fun c7 => ?_) (fun c7 => ?_)
    · have eb : b = 16 := by omega
      subst eb
      rw [show 256 * a + 16 * 16 = 256 * (a + 1) by omega] at hB
      refine m_vret dX7_planWith_92 rfl ?_
      exact h _ hF hB
    · refine m_iload_n dX7_planWith_10 rfl ?_
      refine m_istore dX7_planWith_11 (by decide) rfl rfl ?_
      have HB : BpM I (256 * a + 16 * b + l3) J := BpI_skip hB (fun a1 b1 c1 x1 x2 x3 x4 x5 x6 => by
        have y1 := h3 a1 b1 c1 x1 x2 x3 x6
        unfold rg at x1 x2 x3
        omega)
      refine x_pw_three hd hI ha ⟨by omega, by omega⟩ (fun J2 c2 F2 B2 => ?_) 17 l3 J (by omega) (by omega) (by omega) hF HB
      refine m_iinc dX7_planWith_86 rfl (by decide) rfl rfl (by omega) ?_
      refine m_goto (tgt := 3) dX7_planWith_89 (by decide) ?_
      rw [show 256 * a + 16 * b + 16 = 256 * a + 16 * (b + 1) by omega] at B2
      exact ih (b + 1) _ _ (by omega) (by omega) (by omega) F2 B2
theorem x_planWith {a l2 l3 : Int} (hd : 3 ≤ d) (hI : ShI I) (ha : 0 ≤ a ∧ a ≤ 15) (hl2 : 0 ≤ l2 ∧ l2 ≤ 15) (hl : 0 ≤ l3 ∧ l3 ≤ 15) (h2 : ∀ a b c, rg a → rg b → rg c → okS I a b c → l2 ≤ b) (h3 : ∀ a b c, rg a → rg b → rg c → okS I a b c → l3 ≤ c) (hB : BpM I (256 * a) I) :
    SV g d mX7_planWith [vr 76, vi a, vi l2, vi l3] (shX nm no) (RX nm no) I (fun J => FrW I J ∧ BpM I (256 * (a + 1)) J) := by
  intro Q h
  refine C_of rfl (Nat.le_of_ble_eq_true rfl) rfl ?_
  refine m_iload_n dX7_planWith_0 rfl ?_
  refine m_istore dX7_planWith_1 (by decide) rfl rfl ?_
  have HB : BpM I (256 * a + 16 * l2) I := BpI_skip hB (fun a1 b1 c1 x1 x2 x3 x4 x5 x6 => by
    have y1 := h2 a1 b1 c1 x1 x2 x3 x6
    unfold rg at x1 x2 x3
    omega)
  exact x_pw_two hd hI ha hl h3 (fun J y1 y2 => h J ⟨y1, y2⟩) 17 l2 I none (by omega) (by omega) (by omega) FrW_rf HB
end
