/-! HOW FAR WORDS ARE: ask, distance; the reference: farFrom -/
section
variable {g : GH} {d nm no : Nat} {I : II}
def lvS (e : Nat → Int) (prev : Nat → Int) : Nat → Int
  | 0 => prev 0 + 1
  | b + 1 => min (prev b + e b) (1 + min (prev (b + 1)) (lvS e prev b))
def lev (u v : Nat → Int) : Nat → Nat → Int
  | 0 => fun b => b
  | a + 1 => lvS (fun b => if u a = v b then 0 else 1) (lev u v a)
theorem lev_0 (u v : Nat → Int) : ∀ a : Nat, lev u v a 0 = a
  | 0 => rfl
  | a + 1 => by
    have e : lev u v (a + 1) 0 = lev u v a 0 + 1 := rfl
    rw [e, lev_0 u v a]; omega
theorem lev_s (u v : Nat → Int) (a b : Nat) : lev u v (a + 1) (b + 1) = min (lev u v a b + (if u a = v b then 0 else 1)) (1 + min (lev u v a (b + 1)) (lev u v (a + 1) b)) := rfl
theorem lev_bd (u v : Nat → Int) : ∀ a b : Nat, 0 ≤ lev u v a b ∧ lev u v a b ≤ a + b
  | 0, b => by have e : lev u v 0 b = b := rfl; rw [e]; omega
  | a + 1, 0 => by rw [lev_0]; omega
  | a + 1, b + 1 => by
    have h1 := lev_bd u v a b
    have h2 := lev_bd u v a (b + 1)
    have h3 := lev_bd u v (a + 1) b
    rw [lev_s]
    split <;> omega
theorem lev_sym (u v : Nat → Int) : ∀ a b : Nat, lev u v a b = lev v u b a
  | 0, b => by rw [lev_0 v u b]; rfl
  | a + 1, 0 => by rw [lev_0]; rfl
  | a + 1, b + 1 => by
    rw [lev_s, lev_s, lev_sym u v a b, lev_sym u v a (b + 1), lev_sym u v (a + 1) b]
    by_cases e : u a = v b
    · rw [if_pos e, if_pos e.symm, Int.min_comm (lev v u (b + 1) a)]
    · rw [if_neg e, if_neg (fun z => e z.symm), Int.min_comm (lev v u (b + 1) a)]
def gdL (l : List Int) (k : Nat) : Int := l.getD k 0
/-- how far two rows of signs are -/
def dsF (a b : List Int) : Int := lev (gdL a) (gdL b) a.length b.length
theorem dsF_sym (a b : List Int) : dsF a b = dsF b a := lev_sym _ _ _ _
theorem wlF_congr {f f' : Nat → Nat} : ∀ n : Nat, (∀ k, k < n → f k = f' k) → wlF f n = wlF f' n
  | 0, _ => rfl
  | n + 1, h => by unfold wlF; rw [wlF_congr n (fun k hk => h k (by omega)), h n (by omega)]
theorem x_ask {a n : Int} (hd : 2 ≤ d) (hG : GvI g) (hw : isw a n) : SV g d mX0_ask [vr 48, vl a, vi n] (shX nm no) (RX nm no) I (fun J => (∀ x, x ≠ 48 → x ≠ 51 → J x = I x) ∧ (∀ j : Int, j ≠ 6 → J 48 j = I 48 j) ∧ J 48 6 = ((wlF (ltF a) n.toNat).length : Int) ∧ rwL J 51 (wlF (ltF a) n.toNat)) := by
  intro Q h
  refine C_of rfl (Nat.le_of_ble_eq_true rfl) rfl ?_
  refine m_aload_n dX0_ask_0 rfl ?_
  refine m_lload_n dX0_ask_1 rfl ?_
  refine m_iload_n dX0_ask_2 rfl ?_
  refine m_aload_n dX0_ask_3 rfl ?_
  refine m_gr (z := 2) dX0_ask_4 fl_X0_19 oX_48 rfl rfl rX_48_2 ?_
  refine m_SI [_, _, _] dX0_ask_7 lk_X0_32 rfl rfl (Nat.le_of_ble_eq_true rfl) (by omega) (x_spell (by omega) hG rfl hw) ?_
  intro r7 I7 q7
  refine m_pi (z := 6) dX0_ask_10 fl_X0_36 oX_48 rfl rfl rfl ?_
  refine m_vret dX0_ask_13 rfl ?_
  refine h _ ⟨fun x a b => by rw [upI_o a]; exact q7.2.1 x b, fun j hj => by rw [upI_j hj, q7.2.1 48 (by decide)], by rw [upI_s]; exact q7.1, fun j hj => by rw [upI_o (by decide)]; exact q7.2.2 j hj⟩
theorem x_ds_inner {la lb : List Int} {ww : Int} {i : Nat} {Q : QT} (hd : 1 ≤ d) (ha : la.length ≤ 39) (hb : lb.length ≤ 39) (h6 : I 48 6 = (la.length : Int)) (hra : rwL I 51 la) (hrb : rwL I 52 lb) (hi : i < lb.length)
    (hk : ∀ (K : II) (ac l6 : Option AV) (b5 : Int), (∀ x, x ≠ 53 → K x = I x) → (∀ j : Nat, j ≤ la.length → K 53 j = lev (gdL lb) (gdL la) (i + 1) j) → T g d mX0_distance 0 0 155 [some (vr 48), some (vi ww), some (vi lb.length), some (vi ((i + 1 : Nat) : Int)), ac, some (vi b5), l6] [] (shX nm no) (RX nm no) K Q) :
    ∀ (m k : Nat) (K : II) (l6 : Option AV), la.length - k < m → k ≤ la.length → (∀ x, x ≠ 53 → K x = I x) → (∀ j : Nat, j ≤ la.length → K 53 j = if j ≤ k then lev (gdL lb) (gdL la) (i + 1) j else lev (gdL lb) (gdL la) i j) → T g d mX0_distance 0 0 68 [some (vr 48), some (vi ww), some (vi lb.length), some (vi ((i + 1 : Nat) : Int)), some (vi (lev (gdL lb) (gdL la) i k)), some (vi ((k + 1 : Nat) : Int)), l6] [] (shX nm no) (RX nm no) K Q := by
  intro m
  induction m with
  | zero => intro k K l6 hm; omega
  | succ m ih =>
    intro k K l6 hm hkl hF hK
    have e6 : K 48 6 = (la.length : Int) := by rw [hF 48 (by decide)]; exact h6
    have e52 : K 52 = I 52 := hF 52 (by decide)
    have e51 : K 51 = I 51 := hF 51 (by decide)
    have l0 := lev_bd (gdL lb) (gdL la) i k
    have l1 := lev_bd (gdL lb) (gdL la) i (k + 1)
    have l2 := lev_bd (gdL lb) (gdL la) (i + 1) k
    have ls := lev_s (gdL lb) (gdL la) i k
    refine m_iload dX0_distance_68 rfl ?_
    refine m_aload_n dX0_distance_70 rfl ?_
    refine m_gi (z := 6) dX0_distance_71 fl_X0_36 oX_48 rfl rfl ?_
    rw [e6]
    refine m_icmp_gt (tgt := 155) dX0_distance_74 (by decide) (fun c74 => ?_) (fun c74 => ?_)
    · have ek : k = la.length := by omega
      refine hk K _ _ _ hF (fun j hj => ?_)
      rw [hK j hj, if_pos (by omega)]
    · have eo : I 52 (((i + 1 : Nat) : Int) - 1) = gdL lb i := by rw [show ((i + 1 : Nat) : Int) - 1 = i by omega]; exact hrb i hi
      have ea : I 51 (((k + 1 : Nat) : Int) - 1) = gdL la k := by rw [show ((k + 1 : Nat) : Int) - 1 = k by omega]; exact hra k (by omega)
      have ek1 : K 53 ((k + 1 : Nat) : Int) = lev (gdL lb) (gdL la) i (k + 1) := by rw [hK (k + 1) (by omega), if_neg (by omega)]
      have ek0 : K 53 (((k + 1 : Nat) : Int) - 1) = lev (gdL lb) (gdL la) (i + 1) k := by rw [show ((k + 1 : Nat) : Int) - 1 = k by omega, hK k (by omega), if_pos (by omega)]
      refine m_iload dX0_distance_77 rfl ?_
      refine m_aload_n dX0_distance_79 rfl ?_
      refine m_gr (z := 3) dX0_distance_80 fl_X0_23 oX_48 rfl rfl rX_48_3 ?_
      refine m_iload_n dX0_distance_83 rfl ?_
      refine m_iconst dX0_distance_84 (by decide) ?_
      refine m_isub dX0_distance_85 (by omega) ?_
      refine m_bald dX0_distance_86 sX_52 (by omega) (by omega) ?_
      rw [e52, eo]
      refine m_aload_n dX0_distance_87 rfl ?_
      refine m_gr (z := 2) dX0_distance_88 fl_X0_19 oX_48 rfl rfl rX_48_2 ?_
      refine m_iload dX0_distance_91 rfl ?_
      refine m_iconst dX0_distance_93 (by decide) ?_
      refine m_isub dX0_distance_94 (by omega) ?_
      refine m_bald dX0_distance_95 sX_51 (by omega) (by omega) ?_
      rw [e51, ea]
      refine m_ticmp_ne (tgt := 103) (M := 104) dX0_distance_96 (by decide) (fun c96 hM96 => by
          refine m_iconst dX0_distance_103 (by decide) ?_
          exact hM96
        ) (fun c96 hM96 => by
          refine m_iconst dX0_distance_99 (by decide) ?_
          refine m_goto (tgt := 104) dX0_distance_100 (by decide) ?_
          exact hM96
        ) ?_
      refine m_top (if gdL lb i = gdL la k then 0 else 1) (by (repeat' split) <;> first | rfl | omega) ?_
      refine m_iadd dX0_distance_104 (by split <;> omega) ?_
      refine m_istore dX0_distance_105 (by decide) rfl rfl ?_
      refine m_aload_n dX0_distance_107 rfl ?_
      refine m_gr (z := 4) dX0_distance_108 fl_X0_26 oX_48 rfl rfl rX_48_4 ?_
      refine m_iload dX0_distance_111 rfl ?_
      refine m_iald dX0_distance_113 sX_53 (by omega) (by omega) ?_
      rw [ek1]
      refine m_istore dX0_distance_114 (by decide) rfl rfl ?_
      refine m_aload_n dX0_distance_116 rfl ?_
      refine m_gr (z := 4) dX0_distance_117 fl_X0_26 oX_48 rfl rfl rX_48_4 ?_
      refine m_iload dX0_distance_120 rfl ?_
      refine m_iload dX0_distance_122 rfl ?_
      refine m_iconst dX0_distance_124 (by decide) ?_
      refine m_aload_n dX0_distance_125 rfl ?_
      refine m_gr (z := 4) dX0_distance_126 fl_X0_26 oX_48 rfl rfl rX_48_4 ?_
      refine m_iload dX0_distance_129 rfl ?_
      refine m_iald dX0_distance_131 sX_53 (by omega) (by omega) ?_
      rw [ek1]
      refine m_aload_n dX0_distance_132 rfl ?_
      refine m_gr (z := 4) dX0_distance_133 fl_X0_26 oX_48 rfl rfl rX_48_4 ?_
      refine m_iload dX0_distance_136 rfl ?_
      refine m_iconst dX0_distance_138 (by decide) ?_
      refine m_isub dX0_distance_139 (by omega) ?_
      refine m_iald dX0_distance_140 sX_53 (by omega) (by omega) ?_
      rw [ek0]
      refine m_min dX0_distance_141 lk_X0_47 (by omega) (Nat.le_of_ble_eq_true rfl) ?_
      refine m_iadd dX0_distance_144 (by omega) ?_
      refine m_min dX0_distance_145 lk_X0_47 (by omega) (Nat.le_of_ble_eq_true rfl) ?_
      refine m_iast dX0_distance_148 sX_53 (by omega) (by omega) ?_
      refine m_iinc dX0_distance_149 rfl (by decide) rfl rfl (by omega) ?_
      refine m_goto (tgt := 68) dX0_distance_152 (by decide) ?_
      rw [← ls]
      have z := ih (k + 1) (upI K 53 ((k + 1 : Nat) : Int) (lev (gdL lb) (gdL la) (i + 1) (k + 1))) (some (vi (lev (gdL lb) (gdL la) i k + (if gdL lb i = gdL la k then 0 else 1)))) (by omega) (by omega) (fun x hx => by rw [upI_o hx]; exact hF x hx) (fun j hj => ?_)
      · exact z
      · by_cases e : j = k + 1
        · subst e; rw [upI_s, if_pos (by omega)]
        · rw [upI_j (by omega), hK j hj]
          by_cases e2 : j ≤ k
          · rw [if_pos e2, if_pos (by omega)]
          · rw [if_neg e2, if_neg (by omega)]
theorem x_ds_outer {la lb : List Int} {ww : Int} {Q : QT} (hd : 1 ≤ d) (ha : la.length ≤ 39) (hb : lb.length ≤ 39) (h6 : I 48 6 = (la.length : Int)) (hra : rwL I 51 la) (hrb : rwL I 52 lb)
    (h : ∀ K : II, (∀ x, x ≠ 53 → K x = I x) → Q (some (vi (dsF lb la))) (shX nm no) (RX nm no) K) :
    ∀ (m i : Nat) (K : II) (l4 l5 l6 : Option AV), lb.length - i < m → i ≤ lb.length → (∀ x, x ≠ 53 → K x = I x) → (∀ j : Nat, j ≤ la.length → K 53 j = lev (gdL lb) (gdL la) i j) → T g d mX0_distance 0 0 45 [some (vr 48), some (vi ww), some (vi lb.length), some (vi ((i + 1 : Nat) : Int)), l4, l5, l6] [] (shX nm no) (RX nm no) K Q := by
  intro m
  induction m with
  | zero => intro i K l4 l5 l6 hm; omega
  | succ m ih =>
    intro i K l4 l5 l6 hm hi hF hK
    have e6 : K 48 6 = (la.length : Int) := by rw [hF 48 (by decide)]; exact h6
    refine m_iload_n dX0_distance_45 rfl ?_
    refine m_iload_n dX0_distance_46 rfl ?_
    refine m_icmp_gt (tgt := 161) dX0_distance_47 (by decide) (fun c47 => ?_) (fun c47 => ?_)
    · have ei : i = lb.length := by omega
      subst ei
      refine m_aload_n dX0_distance_161 rfl ?_
      refine m_gr (z := 4) dX0_distance_162 fl_X0_26 oX_48 rfl rfl rX_48_4 ?_
      refine m_aload_n dX0_distance_165 rfl ?_
      refine m_gi (z := 6) dX0_distance_166 fl_X0_36 oX_48 rfl rfl ?_
      rw [e6]
      refine m_iald dX0_distance_169 sX_53 (by omega) (by omega) ?_
      refine m_iret dX0_distance_170 rfl ?_
      rw [hK la.length (Nat.le_refl _)]
      exact h K hF
    · refine m_aload_n dX0_distance_50 rfl ?_
      refine m_gr (z := 4) dX0_distance_51 fl_X0_26 oX_48 rfl rfl rX_48_4 ?_
      refine m_iconst dX0_distance_54 (by decide) ?_
      refine m_iald dX0_distance_55 sX_53 (by omega) (by omega) ?_
      rw [show K 53 0 = lev (gdL lb) (gdL la) i 0 from hK 0 (by omega)]
      refine m_istore dX0_distance_56 (by decide) rfl rfl ?_
      refine m_aload_n dX0_distance_58 rfl ?_
      refine m_gr (z := 4) dX0_distance_59 fl_X0_26 oX_48 rfl rfl rX_48_4 ?_
      refine m_iconst dX0_distance_62 (by decide) ?_
      refine m_iload_n dX0_distance_63 rfl ?_
      refine m_iast dX0_distance_64 sX_53 (by omega) (by omega) ?_
      refine m_iconst dX0_distance_65 (by decide) ?_
      refine m_istore dX0_distance_66 (by decide) rfl rfl ?_
      have h6' : (upI K 53 0 ((i + 1 : Nat) : Int)) 48 6 = (la.length : Int) := by rw [upI_o (by decide)]; exact e6
      refine x_ds_inner (I := upI K 53 0 ((i + 1 : Nat) : Int)) hd ha hb h6' (fun j hj => by rw [upI_o (by decide), hF 51 (by decide)]; exact hra j hj) (fun j hj => by rw [upI_o (by decide), hF 52 (by decide)]; exact hrb j hj) (show i < lb.length by omega) (fun L ac l6 b5 hL hLK => ?_) _ 0 _ _ (Nat.lt_succ_self _) (by omega) (fun _ _ => rfl) (fun j hj => ?_)
      · refine m_iinc dX0_distance_155 rfl (by decide) rfl rfl (by omega) ?_
        refine m_goto (tgt := 45) dX0_distance_158 (by decide) ?_
        exact ih (i + 1) L _ _ _ (by omega) (by omega) (fun x hx => by rw [hL x hx, upI_o hx]; exact hF x hx) hLK
      · by_cases e : j = 0
        · subst e; rw [show ((0 : Nat) : Int) = 0 from rfl, upI_s, if_pos (by omega), lev_0]
        · rw [upI_j (by omega), hK j hj, if_neg (by omega)]
theorem x_ds_init {la lb : List Int} {ww : Int} {Q : QT} (hd : 1 ≤ d) (ha : la.length ≤ 39) (hb : lb.length ≤ 39) (h6 : I 48 6 = (la.length : Int)) (hra : rwL I 51 la) (hrb : rwL I 52 lb)
    (h : ∀ K : II, (∀ x, x ≠ 53 → K x = I x) → Q (some (vi (dsF lb la))) (shX nm no) (RX nm no) K) :
    ∀ (m i : Nat) (K : II), la.length + 1 - i < m → i ≤ la.length + 1 → (∀ x, x ≠ 53 → K x = I x) → (∀ j : Nat, j < i → K 53 j = j) → T g d mX0_distance 0 0 22 [some (vr 48), some (vi ww), some (vi lb.length), some (vi i), none, none, none] [] (shX nm no) (RX nm no) K Q := by
  intro m
  induction m with
  | zero => intro i K hm; omega
  | succ m ih =>
    intro i K hm hi hF hK
    have e6 : K 48 6 = (la.length : Int) := by rw [hF 48 (by decide)]; exact h6
    refine m_iload_n dX0_distance_22 rfl ?_
    refine m_aload_n dX0_distance_23 rfl ?_
    refine m_gi (z := 6) dX0_distance_24 fl_X0_36 oX_48 rfl rfl ?_
    rw [e6]
    refine m_icmp_gt (tgt := 43) dX0_distance_27 (by decide) (fun c27 => ?_) (fun c27 => ?_)
    · refine m_iconst dX0_distance_43 (by decide) ?_
      refine m_istore_n dX0_distance_44 (by decide) rfl rfl ?_
      exact x_ds_outer hd ha hb h6 hra hrb h _ 0 K _ _ _ (Nat.lt_succ_self _) (by omega) hF (fun j hj => hK j (by omega))
    · refine m_aload_n dX0_distance_30 rfl ?_
      refine m_gr (z := 4) dX0_distance_31 fl_X0_26 oX_48 rfl rfl rX_48_4 ?_
      refine m_iload_n dX0_distance_34 rfl ?_
      refine m_iload_n dX0_distance_35 rfl ?_
      refine m_iast dX0_distance_36 sX_53 (by omega) (by omega) ?_
      refine m_iinc dX0_distance_37 rfl (by decide) rfl rfl (by omega) ?_
      refine m_goto (tgt := 22) dX0_distance_40 (by decide) ?_
      refine ih (i + 1) _ (by omega) (by omega) (fun x hx => by rw [upI_o hx]; exact hF x hx) (fun j hj => ?_)
      by_cases e : j = i
      · subst e; rw [upI_s]
      · rw [upI_j (by omega)]; exact hK j (by omega)
theorem x_distance {i : Int} {la : List Int} (hd : 2 ≤ d) (hG : GvI g) (hi : 0 ≤ i ∧ i < 16) (hw : isw (I 49 i) (I 50 i)) (ha : la.length ≤ 39) (h6 : I 48 6 = (la.length : Int)) (hra : rwL I 51 la) : SI g d mX0_distance [vr 48, vi i] (shX nm no) (RX nm no) I (fun r J => r = dsF (wlF (ltF (I 49 i)) (I 50 i).toNat) la ∧ ∀ x, x ≠ 52 → x ≠ 53 → J x = I x) := by
  intro Q h
  refine C_of rfl (Nat.le_of_ble_eq_true rfl) rfl ?_
  refine m_aload_n dX0_distance_0 rfl ?_
  refine m_gr (z := 0) dX0_distance_1 fl_X0_9 oX_48 rfl rfl rX_48_0 ?_
  refine m_iload_n dX0_distance_4 rfl ?_
  refine m_lald dX0_distance_5 sX_49 (by omega) (by omega) ?_
  refine m_aload_n dX0_distance_6 rfl ?_
  refine m_gr (z := 1) dX0_distance_7 fl_X0_15 oX_48 rfl rfl rX_48_1 ?_
  refine m_iload_n dX0_distance_10 rfl ?_
  refine m_iald dX0_distance_11 sX_50 (by omega) (by omega) ?_
  refine m_aload_n dX0_distance_12 rfl ?_
  refine m_gr (z := 3) dX0_distance_13 fl_X0_23 oX_48 rfl rfl rX_48_3 ?_
  refine m_SI [_, _, _] dX0_distance_16 lk_X0_32 rfl rfl (Nat.le_of_ble_eq_true rfl) (by omega) (x_spell (by omega) hG rfl hw) ?_
  intro r16 I16 q16
  obtain ⟨rfl, w1, w2⟩ := q16
  have hlen := wlF_len (f := ltF (I 49 i)) (I 50 i).toNat (fun k hk => by have := hw.2 k (by omega) (by omega); unfold ltF; omega)
  have hn := hw.1
  refine m_istore_n dX0_distance_19 (by decide) rfl rfl ?_
  refine m_iconst dX0_distance_20 (by decide) ?_
  refine m_istore_n dX0_distance_21 (by decide) rfl rfl ?_
  exact x_ds_init (by omega) ha (by omega) (by rw [w1 48 (by decide)]; exact h6) (fun j hj => by rw [w1 51 (by decide)]; exact hra j hj) w2 (fun K hK => h _ K ⟨rfl, fun x a b => by rw [hK x b]; exact w1 x a⟩) _ 0 I16 (Nat.lt_succ_self _) (by omega) (fun _ _ => rfl) (fun j hj => by omega)
end
