/-! SHIFTS: mostWaiting -/
/-- who works in hour h -/
def crw (a b c : Int) (h : Nat) : Int := if h < 8 then a else if h < 16 then b else c
/-- what waits behind h hours of a day -/
def wtH (L : Int → Int) (rt a b c : Int) (y : Nat) : Nat → Int
  | 0 => 0
  | h + 1 => max 0 (wtH L rt a b c y h + L (24 * y + h) - crw a b c h * rt)
/-- the most, over the days ahead (m) and h hours of this one -/
def msH (L : Int → Int) (rt a b c m : Int) (y : Nat) : Nat → Int
  | 0 => m
  | h + 1 => max (msH L rt a b c m y h) (wtH L rt a b c y (h + 1))
def msD (L : Int → Int) (rt a b c : Int) : Nat → Int
  | 0 => 0
  | y + 1 => msH L rt a b c (msD L rt a b c y) y 24
def ShI (I : II) : Prop := (∀ j, 0 ≤ j → j < 72 → 0 ≤ I 77 j ∧ I 77 j ≤ 999) ∧ (1 ≤ I 76 4 ∧ I 76 4 ≤ 99) ∧ (0 ≤ I 76 5 ∧ I 76 5 ≤ 9999)
theorem wtH_bd {L : Int → Int} {rt a b c : Int} {y : Nat} (hL : ∀ j, 0 ≤ j → j < 72 → 0 ≤ L j ∧ L j ≤ 999) (hy : y < 3) (hr : 1 ≤ rt) (ha : 0 ≤ a) (hb : 0 ≤ b) (hc : 0 ≤ c) : ∀ h : Nat, h ≤ 24 → 0 ≤ wtH L rt a b c y h ∧ wtH L rt a b c y h ≤ 999 * h
  | 0, _ => by unfold wtH; omega
  | h + 1, hh => by
    have ih := wtH_bd hL hy hr ha hb hc h (by omega)
    have hl := hL (24 * y + h) (by omega) (by omega)
    have hk : 0 ≤ crw a b c h * rt := Int.mul_nonneg (by unfold crw; split; exact ha; split; exact hb; exact hc) (by omega)
    unfold wtH
    omega
theorem msH_bd {L : Int → Int} {rt a b c m : Int} {y : Nat} (hL : ∀ j, 0 ≤ j → j < 72 → 0 ≤ L j ∧ L j ≤ 999) (hy : y < 3) (hr : 1 ≤ rt) (ha : 0 ≤ a) (hb : 0 ≤ b) (hc : 0 ≤ c) (hm : 0 ≤ m ∧ m ≤ 30000) : ∀ h : Nat, h ≤ 24 → 0 ≤ msH L rt a b c m y h ∧ msH L rt a b c m y h ≤ 30000
  | 0, _ => hm
  | h + 1, hh => by
    have ih := msH_bd hL hy hr ha hb hc hm h (by omega)
    have hw := wtH_bd hL hy hr ha hb hc (h + 1) hh
    unfold msH
    omega
theorem msD_bd {L : Int → Int} {rt a b c : Int} (hL : ∀ j, 0 ≤ j → j < 72 → 0 ≤ L j ∧ L j ≤ 999) (hr : 1 ≤ rt) (ha : 0 ≤ a) (hb : 0 ≤ b) (hc : 0 ≤ c) : ∀ y : Nat, y ≤ 3 → 0 ≤ msD L rt a b c y ∧ msD L rt a b c y ≤ 30000
  | 0, _ => by unfold msD; omega
  | y + 1, hy => by
    unfold msD
    exact msH_bd hL (by omega) hr ha hb hc (msD_bd hL hr ha hb hc y (by omega)) 24 (by omega)
/-- more clerks never make more wait -/
theorem wtH_mono {L : Int → Int} {rt a b c a' b' c' : Int} (hr : 0 ≤ rt) (ha : a ≤ a') (hb : b ≤ b') (hc : c ≤ c') (y : Nat) : ∀ h : Nat, wtH L rt a' b' c' y h ≤ wtH L rt a b c y h
  | 0 => Int.le_refl _
  | h + 1 => by
    have ih := wtH_mono (L := L) hr ha hb hc y h
    have hk : crw a b c h * rt ≤ crw a' b' c' h * rt := Int.mul_le_mul_of_nonneg_right (by unfold crw; split; exact ha; split; exact hb; exact hc) hr
    unfold wtH
    omega
theorem msH_mono {L : Int → Int} {rt a b c a' b' c' m m' : Int} (hr : 0 ≤ rt) (ha : a ≤ a') (hb : b ≤ b') (hc : c ≤ c') (hm : m' ≤ m) (y : Nat) : ∀ h : Nat, msH L rt a' b' c' m' y h ≤ msH L rt a b c m y h
  | 0 => hm
  | h + 1 => by
    have ih := msH_mono (L := L) hr ha hb hc hm y h
    have hw := wtH_mono (L := L) hr ha hb hc y (h + 1)
    unfold msH
    omega
theorem msD_mono {L : Int → Int} {rt a b c a' b' c' : Int} (hr : 0 ≤ rt) (ha : a ≤ a') (hb : b ≤ b') (hc : c ≤ c') : ∀ y : Nat, msD L rt a' b' c' y ≤ msD L rt a b c y
  | 0 => Int.le_refl _
  | y + 1 => by
    unfold msD
    exact msH_mono hr ha hb hc (msD_mono hr ha hb hc y) y 24
section
variable {g : GH} {d nm no : Nat} {I : II}
theorem x_mw_hours {a b c m : Int} {y : Nat} {Q : QT} (hd : 1 ≤ d) (hI : ShI I) (ha : 0 ≤ a ∧ a ≤ 15) (hb : 0 ≤ b ∧ b ≤ 15) (hc : 0 ≤ c ∧ c ≤ 15) (hy : y < 3) (hm : 0 ≤ m ∧ m ≤ 30000)
    (hk : ∀ (u v : Int) (lv : Option AV), T g d mX7_mostWaiting 0 0 95 [some (vr 76), some (vi a), some (vi b), some (vi c), some (vi (msH (I 77) (I 76 4) a b c m y 24)), some (vi y), some (vi u), some (vi v), lv] [] (shX nm no) (RX nm no) I Q) :
    ∀ (k h : Nat) (lv : Option AV), 24 - h < k → h ≤ 24 → T g d mX7_mostWaiting 0 0 18 [some (vr 76), some (vi a), some (vi b), some (vi c), some (vi (msH (I 77) (I 76 4) a b c m y h)), some (vi y), some (vi (wtH (I 77) (I 76 4) a b c y h)), some (vi h), lv] [] (shX nm no) (RX nm no) I Q := by
  intro k
  induction k with
  | zero => intro h lv hk; omega
  | succ k ih =>
    intro h lv hk2 h1
    have w0 := wtH_bd hI.1 hy hI.2.1.1 ha.1 hb.1 hc.1 h h1
    have m0 := msH_bd hI.1 hy hI.2.1.1 ha.1 hb.1 hc.1 hm h h1
    have hr := hI.2.1
    refine m_iload dX7_mostWaiting_18 rfl ?_
    refine m_bipush dX7_mostWaiting_20 rfl (by decide) ?_
    refine m_icmp_ge (tgt := 95) dX7_mostWaiting_22 (by decide) (fun c22 => ?_) (fun c22 => ?_)
    · have eh : h = 24 := by omega
      subst eh
      exact hk _ _ _
    · have hl := hI.1 (24 * y + h) (by omega) (by omega)
      have hx := wtH_bd hI.1 hy hI.2.1.1 ha.1 hb.1 hc.1 (h + 1) (by omega)
      refine m_iload dX7_mostWaiting_25 rfl ?_
      refine m_bipush dX7_mostWaiting_27 rfl (by decide) ?_
      refine m_icmp_ge (tgt := 36) dX7_mostWaiting_29 (by decide) (fun c29 => ?_) (fun c29 => ?_)
      · refine m_iload dX7_mostWaiting_36 rfl ?_
        refine m_bipush dX7_mostWaiting_38 rfl (by decide) ?_
        refine m_icmp_ge (tgt := 47) dX7_mostWaiting_40 (by decide) (fun c40 => ?_) (fun c40 => ?_)
        · have ec : crw a b c h = c := by unfold crw; rw [if_neg (by omega), if_neg (by omega)]
          have hp : 0 ≤ c * I 76 4 ∧ c * I 76 4 ≤ 15 * 99 := ⟨Int.mul_nonneg (by omega) (by omega), Int.mul_le_mul (by omega) (by omega) (by omega) (by omega)⟩
          refine m_iload_n dX7_mostWaiting_47 rfl ?_
          refine m_istore dX7_mostWaiting_48 (by decide) rfl rfl ?_
          refine m_iconst dX7_mostWaiting_50 (by decide) ?_
          refine m_iload dX7_mostWaiting_51 rfl ?_
          refine m_aload_n dX7_mostWaiting_53 rfl ?_
          refine m_gr (z := 0) dX7_mostWaiting_54 fl_X7_9 oX_76 rfl rfl rX_76_0 ?_
          refine m_iload dX7_mostWaiting_57 rfl ?_
          refine m_bipush dX7_mostWaiting_59 rfl (by decide) ?_
          refine m_imul dX7_mostWaiting_61 (by omega) ?_
          refine m_iload dX7_mostWaiting_62 rfl ?_
          refine m_iadd dX7_mostWaiting_64 (by omega) ?_
          rw [show (y : Int) * 24 + h = 24 * y + h by omega]
          refine m_iald dX7_mostWaiting_65 sX_77 (by omega) (by omega) ?_
          refine m_iadd dX7_mostWaiting_66 (by omega) ?_
          refine m_iload dX7_mostWaiting_67 rfl ?_
          refine m_aload_n dX7_mostWaiting_69 rfl ?_
          refine m_gi (z := 4) dX7_mostWaiting_70 fl_X7_18 oX_76 rfl rfl ?_
          refine m_imul dX7_mostWaiting_73 (by omega) ?_
          refine m_isub dX7_mostWaiting_74 (by omega) ?_
          refine m_max dX7_mostWaiting_75 lk_X7_29 (by omega) (Nat.le_of_ble_eq_true rfl) ?_
          have ew : wtH (I 77) (I 76 4) a b c y (h + 1) = max 0 (wtH (I 77) (I 76 4) a b c y h + I 77 (24 * y + h) - crw a b c h * I 76 4) := rfl
          rw [ec] at ew
          rw [← ew]
          refine m_istore dX7_mostWaiting_78 (by decide) rfl rfl ?_
          refine m_iload dX7_mostWaiting_80 rfl ?_
          refine m_iload dX7_mostWaiting_82 rfl ?_
          refine m_max dX7_mostWaiting_84 lk_X7_29 (by omega) (Nat.le_of_ble_eq_true rfl) ?_
          rw [show max (msH (I 77) (I 76 4) a b c m y h) (wtH (I 77) (I 76 4) a b c y (h + 1)) = msH (I 77) (I 76 4) a b c m y (h + 1) from rfl]
          refine m_istore dX7_mostWaiting_87 (by decide) rfl rfl ?_
          refine m_iinc dX7_mostWaiting_89 rfl (by decide) rfl rfl (by omega) ?_
          refine m_goto (tgt := 18) dX7_mostWaiting_92 (by decide) ?_
          exact ih (h + 1) _ (by omega) (by omega)
        · have ec : crw a b c h = b := by unfold crw; rw [if_neg (by omega), if_pos (by omega)]
          have hp : 0 ≤ b * I 76 4 ∧ b * I 76 4 ≤ 15 * 99 := ⟨Int.mul_nonneg (by omega) (by omega), Int.mul_le_mul (by omega) (by omega) (by omega) (by omega)⟩
          refine m_iload_n dX7_mostWaiting_43 rfl ?_
          refine m_goto (tgt := 48) dX7_mostWaiting_44 (by decide) ?_
          refine m_istore dX7_mostWaiting_48 (by decide) rfl rfl ?_
          refine m_iconst dX7_mostWaiting_50 (by decide) ?_
          refine m_iload dX7_mostWaiting_51 rfl ?_
          refine m_aload_n dX7_mostWaiting_53 rfl ?_
          refine m_gr (z := 0) dX7_mostWaiting_54 fl_X7_9 oX_76 rfl rfl rX_76_0 ?_
          refine m_iload dX7_mostWaiting_57 rfl ?_
          refine m_bipush dX7_mostWaiting_59 rfl (by decide) ?_
          refine m_imul dX7_mostWaiting_61 (by omega) ?_
          refine m_iload dX7_mostWaiting_62 rfl ?_
          refine m_iadd dX7_mostWaiting_64 (by omega) ?_
          rw [show (y : Int) * 24 + h = 24 * y + h by omega]
          refine m_iald dX7_mostWaiting_65 sX_77 (by omega) (by omega) ?_
          refine m_iadd dX7_mostWaiting_66 (by omega) ?_
          refine m_iload dX7_mostWaiting_67 rfl ?_
          refine m_aload_n dX7_mostWaiting_69 rfl ?_
          refine m_gi (z := 4) dX7_mostWaiting_70 fl_X7_18 oX_76 rfl rfl ?_
          refine m_imul dX7_mostWaiting_73 (by omega) ?_
          refine m_isub dX7_mostWaiting_74 (by omega) ?_
          refine m_max dX7_mostWaiting_75 lk_X7_29 (by omega) (Nat.le_of_ble_eq_true rfl) ?_
          have ew : wtH (I 77) (I 76 4) a b c y (h + 1) = max 0 (wtH (I 77) (I 76 4) a b c y h + I 77 (24 * y + h) - crw a b c h * I 76 4) := rfl
          rw [ec] at ew
          rw [← ew]
          refine m_istore dX7_mostWaiting_78 (by decide) rfl rfl ?_
          refine m_iload dX7_mostWaiting_80 rfl ?_
          refine m_iload dX7_mostWaiting_82 rfl ?_
          refine m_max dX7_mostWaiting_84 lk_X7_29 (by omega) (Nat.le_of_ble_eq_true rfl) ?_
          rw [show max (msH (I 77) (I 76 4) a b c m y h) (wtH (I 77) (I 76 4) a b c y (h + 1)) = msH (I 77) (I 76 4) a b c m y (h + 1) from rfl]
          refine m_istore dX7_mostWaiting_87 (by decide) rfl rfl ?_
          refine m_iinc dX7_mostWaiting_89 rfl (by decide) rfl rfl (by omega) ?_
          refine m_goto (tgt := 18) dX7_mostWaiting_92 (by decide) ?_
          exact ih (h + 1) _ (by omega) (by omega)
      · have ec : crw a b c h = a := by unfold crw; rw [if_pos (by omega)]
        have hp : 0 ≤ a * I 76 4 ∧ a * I 76 4 ≤ 15 * 99 := ⟨Int.mul_nonneg (by omega) (by omega), Int.mul_le_mul (by omega) (by omega) (by omega) (by omega)⟩
        refine m_iload_n dX7_mostWaiting_32 rfl ?_
        refine m_goto (tgt := 48) dX7_mostWaiting_33 (by decide) ?_
        refine m_istore dX7_mostWaiting_48 (by decide) rfl rfl ?_
        refine m_iconst dX7_mostWaiting_50 (by decide) ?_
        refine m_iload dX7_mostWaiting_51 rfl ?_
        refine m_aload_n dX7_mostWaiting_53 rfl ?_
        refine m_gr (z := 0) dX7_mostWaiting_54 fl_X7_9 oX_76 rfl rfl rX_76_0 ?_
        refine m_iload dX7_mostWaiting_57 rfl ?_
        refine m_bipush dX7_mostWaiting_59 rfl (by decide) ?_
        refine m_imul dX7_mostWaiting_61 (by omega) ?_
        refine m_iload dX7_mostWaiting_62 rfl ?_
        refine m_iadd dX7_mostWaiting_64 (by omega) ?_
        rw [show (y : Int) * 24 + h = 24 * y + h by omega]
        refine m_iald dX7_mostWaiting_65 sX_77 (by omega) (by omega) ?_
        refine m_iadd dX7_mostWaiting_66 (by omega) ?_
        refine m_iload dX7_mostWaiting_67 rfl ?_
        refine m_aload_n dX7_mostWaiting_69 rfl ?_
        refine m_gi (z := 4) dX7_mostWaiting_70 fl_X7_18 oX_76 rfl rfl ?_
        refine m_imul dX7_mostWaiting_73 (by omega) ?_
        refine m_isub dX7_mostWaiting_74 (by omega) ?_
        refine m_max dX7_mostWaiting_75 lk_X7_29 (by omega) (Nat.le_of_ble_eq_true rfl) ?_
        have ew : wtH (I 77) (I 76 4) a b c y (h + 1) = max 0 (wtH (I 77) (I 76 4) a b c y h + I 77 (24 * y + h) - crw a b c h * I 76 4) := rfl
        rw [ec] at ew
        rw [← ew]
        refine m_istore dX7_mostWaiting_78 (by decide) rfl rfl ?_
        refine m_iload dX7_mostWaiting_80 rfl ?_
        refine m_iload dX7_mostWaiting_82 rfl ?_
        refine m_max dX7_mostWaiting_84 lk_X7_29 (by omega) (Nat.le_of_ble_eq_true rfl) ?_
        rw [show max (msH (I 77) (I 76 4) a b c m y h) (wtH (I 77) (I 76 4) a b c y (h + 1)) = msH (I 77) (I 76 4) a b c m y (h + 1) from rfl]
        refine m_istore dX7_mostWaiting_87 (by decide) rfl rfl ?_
        refine m_iinc dX7_mostWaiting_89 rfl (by decide) rfl rfl (by omega) ?_
        refine m_goto (tgt := 18) dX7_mostWaiting_92 (by decide) ?_
        exact ih (h + 1) _ (by omega) (by omega)
theorem x_mw_days {a b c : Int} {Q : QT} (hd : 1 ≤ d) (hI : ShI I) (ha : 0 ≤ a ∧ a ≤ 15) (hb : 0 ≤ b ∧ b ≤ 15) (hc : 0 ≤ c ∧ c ≤ 15) (h : Q (some (vi (msD (I 77) (I 76 4) a b c 3))) (shX nm no) (RX nm no) I) :
    ∀ (k y : Nat) (l6 l7 l8 : Option AV), 3 - y < k → y ≤ 3 → nlg [some (vr 76), some (vi a), some (vi b), some (vi c), some (vi (msD (I 77) (I 76 4) a b c y)), some (vi y), l6, l7, l8] 7 = true → T g d mX7_mostWaiting 0 0 6 [some (vr 76), some (vi a), some (vi b), some (vi c), some (vi (msD (I 77) (I 76 4) a b c y)), some (vi y), l6, l7, l8] [] (shX nm no) (RX nm no) I Q := by
  intro k
  induction k with
  | zero => intro y l6 l7 l8 hk; omega
  | succ k ih =>
    intro y l6 l7 l8 hk2 h1 hnl
    have m0 := msD_bd hI.1 hI.2.1.1 ha.1 hb.1 hc.1 y h1
    refine m_iload dX7_mostWaiting_6 rfl ?_
    refine m_iconst dX7_mostWaiting_8 (by decide) ?_
    refine m_icmp_ge (tgt := 101) dX7_mostWaiting_9 (by decide) (fun c9 => ?_) (fun c9 => ?_)
    · have ey : y = 3 := by omega
      subst ey
      refine m_iload dX7_mostWaiting_101 rfl ?_
      refine m_iret dX7_mostWaiting_103 rfl ?_
      exact h
    · refine m_iconst dX7_mostWaiting_12 (by decide) ?_
      refine m_istore dX7_mostWaiting_13 (by decide) rfl rfl ?_
      refine m_iconst dX7_mostWaiting_15 (by decide) ?_
      refine m_istore dX7_mostWaiting_16 (by decide) rfl rfl ?_
      refine x_mw_hours (m := msD (I 77) (I 76 4) a b c y) hd hI ha hb hc (by omega) m0 (fun u v lv => ?_) 25 0 _ (by omega) (by omega)
      refine m_iinc dX7_mostWaiting_95 rfl (by decide) rfl rfl (by omega) ?_
      refine m_goto (tgt := 6) dX7_mostWaiting_98 (by decide) ?_
      exact ih (y + 1) _ _ _ (by omega) (by omega) rfl
theorem x_mostWaiting {a b c : Int} (hd : 1 ≤ d) (hI : ShI I) (ha : 0 ≤ a ∧ a ≤ 15) (hb : 0 ≤ b ∧ b ≤ 15) (hc : 0 ≤ c ∧ c ≤ 15) : SP g d mX7_mostWaiting 0 0 [vr 76, vi a, vi b, vi c] (shX nm no) (RX nm no) I (some (vi (msD (I 77) (I 76 4) a b c 3))) (shX nm no) (RX nm no) I := by
  intro Q h
  refine C_of rfl (Nat.le_of_ble_eq_true rfl) rfl ?_
  refine m_iconst dX7_mostWaiting_0 (by decide) ?_
  refine m_istore dX7_mostWaiting_1 (by decide) rfl rfl ?_
  refine m_iconst dX7_mostWaiting_3 (by decide) ?_
  refine m_istore dX7_mostWaiting_4 (by decide) rfl rfl ?_
  exact x_mw_days hd hI ha hb hc h 4 0 none none none (by omega) (by omega) rfl
theorem x_isEnough {a b c : Int} (hd : 2 ≤ d) (hI : ShI I) (ha : 0 ≤ a ∧ a ≤ 15) (hb : 0 ≤ b ∧ b ≤ 15) (hc : 0 ≤ c ∧ c ≤ 15) : SP g d mX7_isEnough 0 0 [vr 76, vi a, vi b, vi c] (shX nm no) (RX nm no) I (some (vi (bI (msD (I 77) (I 76 4) a b c 3 ≤ I 76 5)))) (shX nm no) (RX nm no) I := by
  intro Q h
  refine C_of rfl (Nat.le_of_ble_eq_true rfl) rfl ?_
  refine m_aload_n dX7_isEnough_0 rfl ?_
  refine m_iload_n dX7_isEnough_1 rfl ?_
  refine m_iload_n dX7_isEnough_2 rfl ?_
  refine m_iload_n dX7_isEnough_3 rfl ?_
  refine m_Vi [_, _, _] dX7_isEnough_4 lk_X7_35 rfl oX_76 rfl (Nat.le_of_ble_eq_true rfl) (by omega) (x_mostWaiting (by omega) hI ha hb hc) ?_
  refine m_aload_n dX7_isEnough_7 rfl ?_
  refine m_gi (z := 5) dX7_isEnough_8 fl_X7_26 oX_76 rfl rfl ?_
  refine m_icmp_gt (tgt := 18) dX7_isEnough_11 (by decide) (fun c11 => ?_) (fun c11 => ?_)
  · refine m_iconst dX7_isEnough_18 (by decide) ?_
    refine m_zret dX7_isEnough_19 rfl (by omega) ?_
    rw [bI_f (by omega)] at h; exact h
  · refine m_iconst dX7_isEnough_14 (by decide) ?_
    refine m_goto (tgt := 19) dX7_isEnough_15 (by decide) ?_
    refine m_zret dX7_isEnough_19 rfl (by omega) ?_
    rw [bI_t (by omega)] at h; exact h
end
