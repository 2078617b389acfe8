/-! BOYS: goOn, plan; PUBLIC: round -/
section
variable {g : GH} {d nm no : Nat} {I : II}
def BoyI (I : II) (n : Nat) : Prop := I 79 5 = n ∧ n ≤ 6 ∧ (∀ j : Nat, j < n → 0 ≤ I 80 j ∧ I 80 j ≤ 20) ∧ (∀ j : Nat, j < n → 0 ≤ I 81 j ∧ I 81 j ≤ 20) ∧ ∀ j : Nat, j < n → 0 ≤ I 82 j ∧ I 82 j ≤ 200
def NoB (n : Nat) (bl be : Int) : Prop := bl = n + 1 ∧ be = 1000000
/-- the first best of the doors ahead, as the class has it -/
def BsX (I J : II) (n k v : Nat) : Prop := BsI (NoB n (J 79 7) (J 79 8)) n (I 80) (I 81) (I 82) k v (J 79 7) (J 79 8) (J 84)
def FrB (I J : II) (k : Nat) : Prop := (∀ x, x ≠ 79 → x ≠ 83 → x ≠ 84 → J x = I x) ∧ (∀ j : Int, j ≠ 7 → j ≠ 8 → J 79 j = I 79 j) ∧ ∀ j : Nat, j < k → J 83 j = I 83 j
theorem FrB_rf {I : II} {k : Nat} : FrB I I k := ⟨fun _ _ _ _ => rfl, fun _ _ _ => rfl, fun _ _ => rfl⟩
theorem FrB_tr {I J K : II} {k : Nat} (h : FrB I J k) (h2 : FrB J K k) : FrB I K k := ⟨fun x a b c => (h2.1 x a b c).trans (h.1 x a b c), fun j a b => (h2.2.1 j a b).trans (h.2.1 j a b), fun j a => (h2.2.2 j a).trans (h.2.2 j a)⟩
theorem FrB_le {I J : II} {k m : Nat} (h : FrB I J m) (hk : k ≤ m) : FrB I J k := ⟨h.1, h.2.1, fun j a => h.2.2 j (by omega)⟩
theorem BoyI_fr {I J : II} {n k : Nat} (h : FrB I J k) (hI : BoyI I n) : BoyI J n := by
  unfold BoyI at *
  rw [h.2.1 5 (by decide) (by decide), h.1 80 (by decide) (by decide) (by decide), h.1 81 (by decide) (by decide) (by decide), h.1 82 (by decide) (by decide) (by decide)]
  exact hI
/-- what a depth stands on: p the doors tried, as bits too -/
def TrI (I : II) (n k : Nat) (p : Nat → Nat) (gone : Int) : Prop := k ≤ n ∧ (∀ j : Nat, j < k → I 83 j = p j ∧ p j < n) ∧ (∀ i j : Nat, i < j → j < k → p i ≠ p j) ∧ (0 ≤ gone ∧ gone < 4096) ∧ ∀ j : Nat, j < n → (bt gone j ↔ ∃ i, i < k ∧ p i = j)
def upP (p : Nat → Nat) (k v : Nat) : Nat → Nat := fun j => if j = k then v else p j
theorem upP_s {p : Nat → Nat} {k v : Nat} : upP p k v k = v := if_pos rfl
theorem upP_n {p : Nat → Nat} {k v j : Nat} (h : j ≠ k) : upP p k v j = p j := if_neg h
theorem rN_upP {n : Nat} {p : Nat → Nat} {k v : Nat} : rN n (upP p k v) (k + 1) = rN n p k * n + v := by
  show rN n (upP p k v) k * n + upP p k v k = _
  rw [upP_s, rN_congr k (q := p) (fun j hj => upP_n (by omega))]
theorem rT_upP {X Y : Int → Int} {p : Nat → Nat} {k v : Nat} : rTm X Y (upP p k v) (k + 1) = rTm X Y p k + max (X v - rX X p k) (-(X v - rX X p k)) + max (Y v - rX Y p k) (-(Y v - rX Y p k)) := by
  have e : ∀ j, j < k → upP p k v j = p j := fun j hj => upP_n (by omega)
  have e0 : rTm X Y (upP p k v) (k + 1) = rTm X Y (upP p k v) k + max (X (upP p k v k) - rX X (upP p k v) k) (-(X (upP p k v k) - rX X (upP p k v) k)) + max (Y (upP p k v k) - rX Y (upP p k v) k) (-(Y (upP p k v k) - rX Y (upP p k v) k)) := rfl
  rw [e0, upP_s, rT_congr k e, rX_congr (X := X) e, rX_congr (X := Y) e]
theorem rL_upP {X Y D : Int → Int} {p : Nat → Nat} {k v : Nat} : rL X Y D (upP p k v) (k + 1) = if D v < rTm X Y (upP p k v) (k + 1) then rL X Y D p k + 1 else rL X Y D p k := by
  have e : ∀ j, j < k → upP p k v j = p j := fun j hj => upP_n (by omega)
  rw [rL, upP_s, rL_congr k e]
theorem tr_up {I J : II} {n k v : Nat} {p : Nat → Nat} {gone : Int} (h : TrI I n k p gone) (hn : n ≤ 6) (hk : k < n) (hv : v < n) (hg : ¬ bt gone v) (hJ : ∀ j : Nat, j < k → J 83 j = I 83 j) (hJ2 : J 83 k = v) : TrI J n (k + 1) (upP p k v) (f_ior gone (f_ishl 1 v)) := by
  obtain ⟨h1, h2, h3, h4, h5⟩ := h
  have hno : ¬ ∃ i, i < k ∧ p i = v := fun z => hg ((h5 v hv).mpr z)
  refine ⟨by omega, fun j hj => ?_, fun i j hij hj => ?_, ?_, fun j hj => ?_⟩
  · by_cases e : j = k
    · subst e; rw [upP_s]; exact ⟨hJ2, hv⟩
    · rw [upP_n e, hJ j (by omega)]; exact h2 j (by omega)
  · rw [upP_n (show i ≠ k by omega)]
    by_cases e : j = k
    · subst e; rw [upP_s]; exact fun z => hno ⟨i, hij, z⟩
    · rw [upP_n e]; exact h3 i j hij (by omega)
  · have := bt_or (j := 0) h4.1 h4.2 (show (0 : Int) ≤ v by omega) (show (v : Int) < 12 by omega) (by omega)
    exact ⟨this.1, this.2.1⟩
  · rw [(bt_or (j := (j : Int)) h4.1 h4.2 (show (0 : Int) ≤ v by omega) (show (v : Int) < 12 by omega) (by omega)).2.2, h5 j hj]
    constructor
    · rintro (⟨i, a, b⟩ | z)
      · exact ⟨i, by omega, by rw [upP_n (by omega)]; exact b⟩
      · exact ⟨k, by omega, by rw [upP_s]; omega⟩
    · rintro ⟨i, a, b⟩
      by_cases e : i = k
      · subst e; rw [upP_s] at b; right; omega
      · rw [upP_n e] at b; exact Or.inl ⟨i, by omega, b⟩
theorem x_goOn_loop {n k : Nat} {p : Nat → Nat} {gone : Int} {Q : QT} (hd : n - k + 2 ≤ d) (hI : BoyI I n) (hT : TrI I n k p gone) (hB : BsX I I n k (rN n p k)) (hk : k < n)
    (ihd : ∀ (I : II) (p : Nat → Nat) (gone : Int), BoyI I n → TrI I n (k + 1) p gone → BsX I I n (k + 1) (rN n p (k + 1)) → SV g (d - 1) mX1_goOn [vr 79, vi ((k + 1 : Nat) : Int), vi gone, vi (rTm (I 80) (I 81) p (k + 1)), vi (rL (I 80) (I 81) (I 82) p (k + 1))] (shX nm no) (RX nm no) I (fun J => FrB I J (k + 1) ∧ BsX I J n (k + 1) (rN n p (k + 1) + 1)))
    (h : ∀ J, FrB I J k ∧ BsX I J n k (rN n p k + 1) → Q none (shX nm no) (RX nm no) J) :
    ∀ (m i : Nat) (J : II) (l8 : Option AV), n - i < m → i ≤ n → FrB I J k → BsX I J n (k + 1) (rN n p k * n + i) → T g d mX1_goOn 0 0 113 [some (vr 79), some (vi k), some (vi gone), some (vi (rTm (I 80) (I 81) p k)), some (vi (rL (I 80) (I 81) (I 82) p k)), some (vi (rX (I 80) p k)), some (vi (rX (I 81) p k)), some (vi i), l8] [] (shX nm no) (RX nm no) J Q := by
  obtain ⟨c1, c2, c3, c4, c5⟩ := hI
  have tb := rT_bd c3 c4 k (fun j hj => (hT.2.1 j hj).2)
  have lb := rL_bd (X := I 80) (Y := I 81) (D := I 82) (q := p) k
  have xb : 0 ≤ rX (I 80) p k ∧ rX (I 80) p k ≤ 20 := by
    unfold rX; split
    · omega
    · exact c3 _ (hT.2.1 (k - 1) (by omega)).2
  have yb : 0 ≤ rX (I 81) p k ∧ rX (I 81) p k ≤ 20 := by
    unfold rX; split
    · omega
    · exact c4 _ (hT.2.1 (k - 1) (by omega)).2
  have hI : BoyI I n := ⟨c1, c2, c3, c4, c5⟩
  intro m
  induction m with
  | zero => intro i J l8 hm; omega
  | succ m ih =>
    intro i J l8 hm hi hF hBJ
    have k5 : J 79 5 = n := by rw [hF.2.1 5 (by decide) (by decide)]; exact c1
    have k80 : J 80 = I 80 := hF.1 80 (by decide) (by decide) (by decide)
    have k81 : J 81 = I 81 := hF.1 81 (by decide) (by decide) (by decide)
    have k82 : J 82 = I 82 := hF.1 82 (by decide) (by decide) (by decide)
    refine m_iload dX1_goOn_113 rfl ?_
    refine m_aload_n dX1_goOn_115 rfl ?_
    refine m_gi (z := 5) dX1_goOn_116 fl_X1_27 oX_79 rfl rfl ?_
    refine m_icmp_ge (tgt := 215) dX1_goOn_119 (by decide) (fun c119 => ?_) (fun c119 => ?_)
    · have ei : i = n := by omega
      subst ei
      have hB2 : BsX I J i k (rN i p k + 1) := bs_up hk (by
        rw [Nat.add_mul, Nat.one_mul]; exact hBJ)
      refine m_vret dX1_goOn_215 rfl ?_
      exact h J ⟨hF, hB2⟩
    · have q3 := c3 i (by omega)
      have q4 := c4 i (by omega)
      have q5 := c5 i (by omega)
      refine m_iload_n dX1_goOn_122 rfl ?_
      refine m_iload dX1_goOn_123 rfl ?_
      refine m_Ni [_, _] dX1_goOn_125 lk_X1_52 rfl rfl (Nat.le_of_ble_eq_true rfl) (by omega) (x_isIn hT.2.2.2.1.1 (by omega) (by omega)) ?_
      refine m_if_eq (tgt := 134) dX1_goOn_128 (by decide) (fun c128 => ?_) (fun c128 => ?_)
      · have z128 := bI_eq0 c128
        refine m_iload_n dX1_goOn_134 rfl ?_
        refine m_aload_n dX1_goOn_135 rfl ?_
        refine m_gr (z := 0) dX1_goOn_136 fl_X1_9 oX_79 rfl rfl rX_79_0 ?_
        refine m_iload dX1_goOn_139 rfl ?_
        refine m_iald dX1_goOn_141 sX_80 (by omega) (by omega) ?_
        rw [k80]
        refine m_iload dX1_goOn_142 rfl ?_
        refine m_isub dX1_goOn_144 (by omega) ?_
        refine m_abs dX1_goOn_145 lk_X1_56 (by omega) (Nat.le_of_ble_eq_true rfl) (by omega) ?_
        refine m_iadd dX1_goOn_148 (by omega) ?_
        refine m_aload_n dX1_goOn_149 rfl ?_
        refine m_gr (z := 1) dX1_goOn_150 fl_X1_15 oX_79 rfl rfl rX_79_1 ?_
        refine m_iload dX1_goOn_153 rfl ?_
        refine m_iald dX1_goOn_155 sX_81 (by omega) (by omega) ?_
        rw [k81]
        refine m_iload dX1_goOn_156 rfl ?_
        refine m_isub dX1_goOn_158 (by omega) ?_
        refine m_abs dX1_goOn_159 lk_X1_56 (by omega) (Nat.le_of_ble_eq_true rfl) (by omega) ?_
        refine m_iadd dX1_goOn_162 (by omega) ?_
        refine m_top (rTm (I 80) (I 81) (upP p k i) (k + 1)) rT_upP.symm ?_
        have tb2 := rT_bd c3 c4 (q := upP p k i) (k + 1) (fun j hj => by by_cases e : j = k; (rw [e, upP_s]; omega); (rw [upP_n e]; exact (hT.2.1 j (by omega)).2))
        refine m_istore dX1_goOn_163 (by decide) rfl rfl ?_
        refine m_aload_n dX1_goOn_165 rfl ?_
        refine m_gr (z := 3) dX1_goOn_166 fl_X1_21 oX_79 rfl rfl rX_79_3 ?_
        refine m_iload_n dX1_goOn_169 rfl ?_
        refine m_iload dX1_goOn_170 rfl ?_
        refine m_iast dX1_goOn_172 sX_83 (by omega) (by omega) ?_
        refine m_aload_n dX1_goOn_173 rfl ?_
        refine m_iload_n dX1_goOn_174 rfl ?_
        refine m_iconst dX1_goOn_175 (by decide) ?_
        refine m_iadd dX1_goOn_176 (by omega) ?_
        refine m_iload_n dX1_goOn_177 rfl ?_
        refine m_iconst dX1_goOn_178 (by decide) ?_
        refine m_iload dX1_goOn_179 rfl ?_
        refine m_ishl dX1_goOn_181 ?_
        refine m_ior dX1_goOn_182 ?_
        refine m_iload dX1_goOn_183 rfl ?_
        refine m_iload dX1_goOn_185 rfl ?_
        refine m_aload_n dX1_goOn_187 rfl ?_
        refine m_gr (z := 2) dX1_goOn_188 fl_X1_18 oX_79 rfl rfl rX_79_2 ?_
        refine m_iload dX1_goOn_191 rfl ?_
        refine m_iald dX1_goOn_193 sX_82 (by omega) (by omega) ?_
        rw [upI_o (show (82 : Nat) ≠ 83 by omega)]
        rw [k82]
        refine m_ticmp_le (tgt := 204) (M := 206) dX1_goOn_194 (by decide) (fun c194 hM194 => by
            refine m_iload dX1_goOn_204 rfl ?_
            exact hM194
          ) (fun c194 hM194 => by
            refine m_iload dX1_goOn_197 rfl ?_
            refine m_iconst dX1_goOn_199 (by decide) ?_
            refine m_iadd dX1_goOn_200 (by omega) ?_
            refine m_goto (tgt := 206) dX1_goOn_201 (by decide) ?_
            exact hM194
          ) ?_
        refine m_top (rL (I 80) (I 81) (I 82) (upP p k i) (k + 1)) (by rw [rL_upP]; repeat' split; all_goals first | rfl | omega) ?_
        have hF2 : FrB I (upI J 83 k i) k := ⟨fun x a b c => by rw [upI_o b]; exact hF.1 x a b c, fun j a b => by rw [upI_o (by decide)]; exact hF.2.1 j a b, fun j a => by rw [upI_j (by omega)]; exact hF.2.2 j a⟩
        have hI2 : BoyI (upI J 83 k i) n := BoyI_fr hF2 hI
        have hT2 : TrI (upI J 83 k i) n (k + 1) (upP p k i) (f_ior gone (f_ishl 1 i)) := tr_up hT c2 hk (by omega) z128 hF2.2.2 upI_s
        have u80 : upI J 83 k i 80 = I 80 := by rw [upI_o (by decide)]; exact k80
        have u81 : upI J 83 k i 81 = I 81 := by rw [upI_o (by decide)]; exact k81
        have u82 : upI J 83 k i 82 = I 82 := by rw [upI_o (by decide)]; exact k82
        have hB2 : BsX (upI J 83 k i) (upI J 83 k i) n (k + 1) (rN n (upP p k i) (k + 1)) := by
          unfold BsX
          rw [u80, u81, u82, rN_upP, upI_o (show (79 : Nat) ≠ 83 by decide), upI_o (show (84 : Nat) ≠ 83 by decide)]
          exact hBJ
        rw [← u80, ← u81, ← u82]
        refine m_VV [_, _, _, _] dX1_goOn_206 lk_X1_42 rfl oX_79 rfl (Nat.le_of_ble_eq_true rfl) (by omega) (ihd _ (upP p k i) _ hI2 hT2 hB2) ?_
        intro I206 q206
        refine m_iinc dX1_goOn_209 rfl (by decide) rfl rfl (by omega) ?_
        refine m_goto (tgt := 113) dX1_goOn_212 (by decide) ?_
        first
        | (refine ih (i + 1) J l8 (by omega) (by omega) hF ?_
           refine bs_skip hBJ (fun q hq hqv => ?_)
           exfalso
           obtain ⟨e1, e2⟩ := mn_eq (hq.1 k hk) (show i < n by omega) hqv
           obtain ⟨a, a1, a2⟩ := (hT.2.2.2.2 i (by omega)).mp z128
           have e3 := rN_inj k (fun j hj => ⟨hq.1 j (by omega), (hT.2.1 j hj).2⟩) e1 a a1
           exact hq.2 a k a1 hk (by rw [e3, e2]; exact a2))
        | (obtain ⟨w1, w2⟩ := q206
           have hF3 : FrB I I206 k := FrB_tr hF2 (FrB_le w1 (by omega))
           have w3 : BsX I I206 n (k + 1) (rN n p k * n + (i + 1)) := by
             unfold BsX at w2 ⊢
             rw [u80, u81, u82, rN_upP] at w2
             exact w2
           rw [u80, u81, u82]
           exact ih (i + 1) I206 _ (by omega) (by omega) hF3 w3)
      · have z128 := bI_ne0 c128
        refine m_goto (tgt := 209) dX1_goOn_131 (by decide) ?_
        refine m_iinc dX1_goOn_209 rfl (by decide) rfl rfl (by omega) ?_
        refine m_goto (tgt := 113) dX1_goOn_212 (by decide) ?_
        first
        | (refine ih (i + 1) J l8 (by omega) (by omega) hF ?_
           refine bs_skip hBJ (fun q hq hqv => ?_)
           exfalso
           obtain ⟨e1, e2⟩ := mn_eq (hq.1 k hk) (show i < n by omega) hqv
           obtain ⟨a, a1, a2⟩ := (hT.2.2.2.2 i (by omega)).mp z128
           have e3 := rN_inj k (fun j hj => ⟨hq.1 j (by omega), (hT.2.1 j hj).2⟩) e1 a a1
           exact hq.2 a k a1 hk (by rw [e3, e2]; exact a2))
        | (obtain ⟨w1, w2⟩ := q206
           have hF3 : FrB I I206 k := FrB_tr hF2 (FrB_le w1 (by omega))
           have w3 : BsX I I206 n (k + 1) (rN n p k * n + (i + 1)) := by
             unfold BsX at w2 ⊢
             rw [u80, u81, u82, rN_upP] at w2
             exact w2
           rw [u80, u81, u82]
           exact ih (i + 1) I206 _ (by omega) (by omega) hF3 w3)
theorem x_goOn {n : Nat} : ∀ (m k d : Nat) (I : II) (p : Nat → Nat) (gone : Int), n - k = m → m + 2 ≤ d → BoyI I n → TrI I n k p gone → BsX I I n k (rN n p k) → SV g d mX1_goOn [vr 79, vi k, vi gone, vi (rTm (I 80) (I 81) p k), vi (rL (I 80) (I 81) (I 82) p k)] (shX nm no) (RX nm no) I (fun J => FrB I J k ∧ BsX I J n k (rN n p k + 1)) := by
  intro m
  induction m with
  | zero =>
    intro k d I p gone hm hd hI hT hB Q h
    obtain ⟨c1, c2, c3, c4, c5⟩ := hI
    have hkn := hT.1
    have ekn : k = n := by omega
    have tb := rT_bd c3 c4 k (fun j hj => (hT.2.1 j hj).2)
    have lb := rL_bd (X := I 80) (Y := I 81) (D := I 82) (q := p) k
    refine C_of rfl (Nat.le_of_ble_eq_true rfl) rfl ?_
    refine m_iload dX1_goOn_0 rfl ?_
    refine m_aload_n dX1_goOn_2 rfl ?_
    refine m_gi (z := 7) dX1_goOn_3 fl_X1_35 oX_79 rfl rfl ?_
    refine m_icmp_gt (tgt := 26) dX1_goOn_6 (by decide) (fun c6 => ?_) (fun c6 => ?_)
    · refine m_vret dX1_goOn_26 rfl ?_
      refine h I ⟨FrB_rf, bs_skip hB (fun q hq hqv => ?_)⟩
      have e := rN_inj k (fun j hj => ⟨hq.1 j (by omega), (hT.2.1 j hj).2⟩) hqv
      have t1 := rT_mono (X := I 80) (Y := I 81) (q := q) k (n - k)
      have l1 := rL_mono (X := I 80) (Y := I 81) (D := I 82) (q := q) k (n - k)
      rw [show k + (n - k) = n by omega] at t1 l1
      rw [rT_congr k e] at t1
      rw [rL_congr k e] at l1
      unfold rLe NoB
      constructor <;> omega
    · refine m_iload dX1_goOn_9 rfl ?_
      refine m_aload_n dX1_goOn_11 rfl ?_
      refine m_gi (z := 7) dX1_goOn_12 fl_X1_35 oX_79 rfl rfl ?_
      refine m_icmp_ne (tgt := 27) dX1_goOn_15 (by decide) (fun c15 => ?_) (fun c15 => ?_)
      · refine m_iload_n dX1_goOn_27 rfl ?_
        refine m_aload_n dX1_goOn_28 rfl ?_
        refine m_gi (z := 5) dX1_goOn_29 fl_X1_27 oX_79 rfl rfl ?_
        refine m_icmp_lt (tgt := 64) dX1_goOn_32 (by decide) (fun c32 => ?_) (fun c32 => ?_)
        · omega
        · refine m_aload_n dX1_goOn_35 rfl ?_
          refine m_iload dX1_goOn_36 rfl ?_
          refine m_pi (z := 7) dX1_goOn_38 fl_X1_35 oX_79 rfl rfl rfl ?_
          refine m_aload_n dX1_goOn_41 rfl ?_
          refine m_iload_n dX1_goOn_42 rfl ?_
          refine m_pi (z := 8) dX1_goOn_43 fl_X1_39 oX_79 rfl rfl rfl ?_
          refine m_aload_n dX1_goOn_46 rfl ?_
          refine m_gr (z := 3) dX1_goOn_47 fl_X1_21 oX_79 rfl rfl rX_79_3 ?_
          refine m_iconst dX1_goOn_50 (by decide) ?_
          refine m_aload_n dX1_goOn_51 rfl ?_
          refine m_gr (z := 4) dX1_goOn_52 fl_X1_24 oX_79 rfl rfl rX_79_4 ?_
          refine m_iconst dX1_goOn_55 (by decide) ?_
          refine m_aload_n dX1_goOn_56 rfl ?_
          refine m_gi (z := 5) dX1_goOn_57 fl_X1_27 oX_79 rfl rfl ?_
          rw [upI_j (show (5 : Int) ≠ 8 by decide), upI_j (show (5 : Int) ≠ 7 by decide)]
          rw [c1]
          refine m_copy dX1_goOn_60 lk_X1_46 sX_84 sX_83 (by omega) (by omega) (by omega) (by omega) (Nat.le_of_ble_eq_true rfl) ?_
          refine m_vret dX1_goOn_63 rfl ?_
          have hG : rG n p := ⟨fun j hj => (hT.2.1 j (by omega)).2, fun i j a b => hT.2.2.1 i j a (by omega)⟩
          subst ekn
          refine h _ ⟨⟨fun x a b c => ?_, fun j a b => ?_, fun j a => ?_⟩, ?_⟩
          · rw [cpI_o c, upI_o a, upI_o a]
          · rw [cpI_o (by decide), upI_j b, upI_j a]
          · rw [cpI_o (by decide), upI_o (by decide), upI_o (by decide)]
          · unfold BsX
            have e7 : cpI (upI (upI I 79 7 (rL (I 80) (I 81) (I 82) p k)) 79 8 (rTm (I 80) (I 81) p k)) 84 (upI (upI I 79 7 (rL (I 80) (I 81) (I 82) p k)) 79 8 (rTm (I 80) (I 81) p k) 83) k 79 7 = rL (I 80) (I 81) (I 82) p k := by rw [cpI_o (by decide), upI_j (by decide), upI_s]
            have e8 : cpI (upI (upI I 79 7 (rL (I 80) (I 81) (I 82) p k)) 79 8 (rTm (I 80) (I 81) p k)) 84 (upI (upI I 79 7 (rL (I 80) (I 81) (I 82) p k)) 79 8 (rTm (I 80) (I 81) p k) 83) k 79 8 = rTm (I 80) (I 81) p k := by rw [cpI_o (by decide), upI_s]
            rw [e7, e8]
            have z := bs_take (best' := cpI (upI (upI I 79 7 (rL (I 80) (I 81) (I 82) p k)) 79 8 (rTm (I 80) (I 81) p k)) 84 (upI (upI I 79 7 (rL (I 80) (I 81) (I 82) p k)) 79 8 (rTm (I 80) (I 81) p k) 83) k 84) hB hG rfl (Or.inr (by unfold rLt; omega)) (fun zn q hq hv => by
              have := hB.1 q hq hv
              have := rL_bd (X := I 80) (Y := I 81) (D := I 82) (q := q) k
              unfold NoB at zn
              unfold rLe at *
              omega) (fun j hj => by rw [cpI_in (by omega) (by omega), upI_o (by decide), upI_o (by decide)]; exact (hT.2.1 j hj).1)
            exact ⟨z.1, Or.inr (z.2.resolve_left (fun a => a.2 p hG (Nat.lt_succ_self _)))⟩
      · refine m_iload_n dX1_goOn_18 rfl ?_
        refine m_aload_n dX1_goOn_19 rfl ?_
        refine m_gi (z := 8) dX1_goOn_20 fl_X1_39 oX_79 rfl rfl ?_
        refine m_icmp_lt (tgt := 27) dX1_goOn_23 (by decide) (fun c23 => ?_) (fun c23 => ?_)
        · refine m_iload_n dX1_goOn_27 rfl ?_
          refine m_aload_n dX1_goOn_28 rfl ?_
          refine m_gi (z := 5) dX1_goOn_29 fl_X1_27 oX_79 rfl rfl ?_
          refine m_icmp_lt (tgt := 64) dX1_goOn_32 (by decide) (fun c32 => ?_) (fun c32 => ?_)
          · omega
          · refine m_aload_n dX1_goOn_35 rfl ?_
            refine m_iload dX1_goOn_36 rfl ?_
            refine m_pi (z := 7) dX1_goOn_38 fl_X1_35 oX_79 rfl rfl rfl ?_
            refine m_aload_n dX1_goOn_41 rfl ?_
            refine m_iload_n dX1_goOn_42 rfl ?_
            refine m_pi (z := 8) dX1_goOn_43 fl_X1_39 oX_79 rfl rfl rfl ?_
            refine m_aload_n dX1_goOn_46 rfl ?_
            refine m_gr (z := 3) dX1_goOn_47 fl_X1_21 oX_79 rfl rfl rX_79_3 ?_
            refine m_iconst dX1_goOn_50 (by decide) ?_
            refine m_aload_n dX1_goOn_51 rfl ?_
            refine m_gr (z := 4) dX1_goOn_52 fl_X1_24 oX_79 rfl rfl rX_79_4 ?_
            refine m_iconst dX1_goOn_55 (by decide) ?_
            refine m_aload_n dX1_goOn_56 rfl ?_
            refine m_gi (z := 5) dX1_goOn_57 fl_X1_27 oX_79 rfl rfl ?_
            rw [upI_j (show (5 : Int) ≠ 8 by decide), upI_j (show (5 : Int) ≠ 7 by decide)]
            rw [c1]
            refine m_copy dX1_goOn_60 lk_X1_46 sX_84 sX_83 (by omega) (by omega) (by omega) (by omega) (Nat.le_of_ble_eq_true rfl) ?_
            refine m_vret dX1_goOn_63 rfl ?_
            have hG : rG n p := ⟨fun j hj => (hT.2.1 j (by omega)).2, fun i j a b => hT.2.2.1 i j a (by omega)⟩
            subst ekn
            refine h _ ⟨⟨fun x a b c => ?_, fun j a b => ?_, fun j a => ?_⟩, ?_⟩
            · rw [cpI_o c, upI_o a, upI_o a]
            · rw [cpI_o (by decide), upI_j b, upI_j a]
            · rw [cpI_o (by decide), upI_o (by decide), upI_o (by decide)]
            · unfold BsX
              have e7 : cpI (upI (upI I 79 7 (rL (I 80) (I 81) (I 82) p k)) 79 8 (rTm (I 80) (I 81) p k)) 84 (upI (upI I 79 7 (rL (I 80) (I 81) (I 82) p k)) 79 8 (rTm (I 80) (I 81) p k) 83) k 79 7 = rL (I 80) (I 81) (I 82) p k := by rw [cpI_o (by decide), upI_j (by decide), upI_s]
              have e8 : cpI (upI (upI I 79 7 (rL (I 80) (I 81) (I 82) p k)) 79 8 (rTm (I 80) (I 81) p k)) 84 (upI (upI I 79 7 (rL (I 80) (I 81) (I 82) p k)) 79 8 (rTm (I 80) (I 81) p k) 83) k 79 8 = rTm (I 80) (I 81) p k := by rw [cpI_o (by decide), upI_s]
              rw [e7, e8]
              have z := bs_take (best' := cpI (upI (upI I 79 7 (rL (I 80) (I 81) (I 82) p k)) 79 8 (rTm (I 80) (I 81) p k)) 84 (upI (upI I 79 7 (rL (I 80) (I 81) (I 82) p k)) 79 8 (rTm (I 80) (I 81) p k) 83) k 84) hB hG rfl (Or.inr (by unfold rLt; omega)) (fun zn q hq hv => by
                have := hB.1 q hq hv
                have := rL_bd (X := I 80) (Y := I 81) (D := I 82) (q := q) k
                unfold NoB at zn
                unfold rLe at *
                omega) (fun j hj => by rw [cpI_in (by omega) (by omega), upI_o (by decide), upI_o (by decide)]; exact (hT.2.1 j hj).1)
              exact ⟨z.1, Or.inr (z.2.resolve_left (fun a => a.2 p hG (Nat.lt_succ_self _)))⟩
        · refine m_vret dX1_goOn_26 rfl ?_
          refine h I ⟨FrB_rf, bs_skip hB (fun q hq hqv => ?_)⟩
          have e := rN_inj k (fun j hj => ⟨hq.1 j (by omega), (hT.2.1 j hj).2⟩) hqv
          have t1 := rT_mono (X := I 80) (Y := I 81) (q := q) k (n - k)
          have l1 := rL_mono (X := I 80) (Y := I 81) (D := I 82) (q := q) k (n - k)
          rw [show k + (n - k) = n by omega] at t1 l1
          rw [rT_congr k e] at t1
          rw [rL_congr k e] at l1
          unfold rLe NoB
          constructor <;> omega
  | succ m ihm =>
    intro k d I p gone hm hd hI hT hB Q h
    have hI0 := hI
    obtain ⟨c1, c2, c3, c4, c5⟩ := hI
    have hkn := hT.1
    have tb := rT_bd c3 c4 k (fun j hj => (hT.2.1 j hj).2)
    have lb := rL_bd (X := I 80) (Y := I 81) (D := I 82) (q := p) k
    refine C_of rfl (Nat.le_of_ble_eq_true rfl) rfl ?_
    refine m_iload dX1_goOn_0 rfl ?_
    refine m_aload_n dX1_goOn_2 rfl ?_
    refine m_gi (z := 7) dX1_goOn_3 fl_X1_35 oX_79 rfl rfl ?_
    refine m_icmp_gt (tgt := 26) dX1_goOn_6 (by decide) (fun c6 => ?_) (fun c6 => ?_)
    · refine m_vret dX1_goOn_26 rfl ?_
      refine h I ⟨FrB_rf, bs_skip hB (fun q hq hqv => ?_)⟩
      have e := rN_inj k (fun j hj => ⟨hq.1 j (by omega), (hT.2.1 j hj).2⟩) hqv
      have t1 := rT_mono (X := I 80) (Y := I 81) (q := q) k (n - k)
      have l1 := rL_mono (X := I 80) (Y := I 81) (D := I 82) (q := q) k (n - k)
      rw [show k + (n - k) = n by omega] at t1 l1
      rw [rT_congr k e] at t1
      rw [rL_congr k e] at l1
      unfold rLe NoB
      constructor <;> omega
    · refine m_iload dX1_goOn_9 rfl ?_
      refine m_aload_n dX1_goOn_11 rfl ?_
      refine m_gi (z := 7) dX1_goOn_12 fl_X1_35 oX_79 rfl rfl ?_
      refine m_icmp_ne (tgt := 27) dX1_goOn_15 (by decide) (fun c15 => ?_) (fun c15 => ?_)
      · refine m_iload_n dX1_goOn_27 rfl ?_
        refine m_aload_n dX1_goOn_28 rfl ?_
        refine m_gi (z := 5) dX1_goOn_29 fl_X1_27 oX_79 rfl rfl ?_
        refine m_icmp_lt (tgt := 64) dX1_goOn_32 (by decide) (fun c32 => ?_) (fun c32 => ?_)
        · have hpk := hT.2.1 (k - 1)
          refine m_iload_n dX1_goOn_64 rfl ?_
          refine m_tif_ne (tgt := 72) (M := 85) dX1_goOn_65 (by decide) (fun c65 hM65 => by
              refine m_aload_n dX1_goOn_72 rfl ?_
              refine m_gr (z := 0) dX1_goOn_73 fl_X1_9 oX_79 rfl rfl rX_79_0 ?_
              refine m_aload_n dX1_goOn_76 rfl ?_
              refine m_gr (z := 3) dX1_goOn_77 fl_X1_21 oX_79 rfl rfl rX_79_3 ?_
              refine m_iload_n dX1_goOn_80 rfl ?_
              refine m_iconst dX1_goOn_81 (by decide) ?_
              refine m_isub dX1_goOn_82 (by omega) ?_
              refine m_iald dX1_goOn_83 sX_83 (by omega) (by omega) ?_
              rw [show (k : Int) - 1 = ((k - 1 : Nat) : Int) by omega, (hT.2.1 (k - 1) (by omega)).1]
              refine m_iald dX1_goOn_84 sX_80 (by omega) (by have := (hT.2.1 (k - 1) (by omega)).2; omega) ?_
              exact hM65
            ) (fun c65 hM65 => by
              refine m_iconst dX1_goOn_68 (by decide) ?_
              refine m_goto (tgt := 85) dX1_goOn_69 (by decide) ?_
              exact hM65
            ) ?_
          refine m_top (rX (I 80) p k) (by unfold rX; repeat' split; all_goals first | rfl | omega) ?_
          refine m_istore dX1_goOn_85 (by decide) rfl rfl ?_
          refine m_iload_n dX1_goOn_87 rfl ?_
          refine m_tif_ne (tgt := 95) (M := 108) dX1_goOn_88 (by decide) (fun c88 hM88 => by
              refine m_aload_n dX1_goOn_95 rfl ?_
              refine m_gr (z := 1) dX1_goOn_96 fl_X1_15 oX_79 rfl rfl rX_79_1 ?_
              refine m_aload_n dX1_goOn_99 rfl ?_
              refine m_gr (z := 3) dX1_goOn_100 fl_X1_21 oX_79 rfl rfl rX_79_3 ?_
              refine m_iload_n dX1_goOn_103 rfl ?_
              refine m_iconst dX1_goOn_104 (by decide) ?_
              refine m_isub dX1_goOn_105 (by omega) ?_
              refine m_iald dX1_goOn_106 sX_83 (by omega) (by omega) ?_
              rw [show (k : Int) - 1 = ((k - 1 : Nat) : Int) by omega, (hT.2.1 (k - 1) (by omega)).1]
              refine m_iald dX1_goOn_107 sX_81 (by omega) (by have := (hT.2.1 (k - 1) (by omega)).2; omega) ?_
              exact hM88
            ) (fun c88 hM88 => by
              refine m_iconst dX1_goOn_91 (by decide) ?_
              refine m_goto (tgt := 108) dX1_goOn_92 (by decide) ?_
              exact hM88
            ) ?_
          refine m_top (rX (I 81) p k) (by unfold rX; repeat' split; all_goals first | rfl | omega) ?_
          refine m_istore dX1_goOn_108 (by decide) rfl rfl ?_
          refine m_iconst dX1_goOn_110 (by decide) ?_
          refine m_istore dX1_goOn_111 (by decide) rfl rfl ?_
          have ihd := fun (I : II) (p : Nat → Nat) (gone : Int) (a : BoyI I n) (b : TrI I n (k + 1) p gone) (c : BsX I I n (k + 1) (rN n p (k + 1))) => ihm (k + 1) (d - 1) I p gone (by omega) (by omega) a b c
          exact x_goOn_loop (by omega) hI0 hT hB (by omega) ihd h (n + 1) 0 I _ (by omega) (by omega) FrB_rf (by rw [Nat.add_zero]; exact bs_down (by omega) hB)
        · omega
      · refine m_iload_n dX1_goOn_18 rfl ?_
        refine m_aload_n dX1_goOn_19 rfl ?_
        refine m_gi (z := 8) dX1_goOn_20 fl_X1_39 oX_79 rfl rfl ?_
        refine m_icmp_lt (tgt := 27) dX1_goOn_23 (by decide) (fun c23 => ?_) (fun c23 => ?_)
        · refine m_iload_n dX1_goOn_27 rfl ?_
          refine m_aload_n dX1_goOn_28 rfl ?_
          refine m_gi (z := 5) dX1_goOn_29 fl_X1_27 oX_79 rfl rfl ?_
          refine m_icmp_lt (tgt := 64) dX1_goOn_32 (by decide) (fun c32 => ?_) (fun c32 => ?_)
          · have hpk := hT.2.1 (k - 1)
            refine m_iload_n dX1_goOn_64 rfl ?_
            refine m_tif_ne (tgt := 72) (M := 85) dX1_goOn_65 (by decide) (fun c65 hM65 => by
                refine m_aload_n dX1_goOn_72 rfl ?_
                refine m_gr (z := 0) dX1_goOn_73 fl_X1_9 oX_79 rfl rfl rX_79_0 ?_
                refine m_aload_n dX1_goOn_76 rfl ?_
                refine m_gr (z := 3) dX1_goOn_77 fl_X1_21 oX_79 rfl rfl rX_79_3 ?_
                refine m_iload_n dX1_goOn_80 rfl ?_
                refine m_iconst dX1_goOn_81 (by decide) ?_
                refine m_isub dX1_goOn_82 (by omega) ?_
                refine m_iald dX1_goOn_83 sX_83 (by omega) (by omega) ?_
                rw [show (k : Int) - 1 = ((k - 1 : Nat) : Int) by omega, (hT.2.1 (k - 1) (by omega)).1]
                refine m_iald dX1_goOn_84 sX_80 (by omega) (by have := (hT.2.1 (k - 1) (by omega)).2; omega) ?_
                exact hM65
              ) (fun c65 hM65 => by
                refine m_iconst dX1_goOn_68 (by decide) ?_
                refine m_goto (tgt := 85) dX1_goOn_69 (by decide) ?_
                exact hM65
              ) ?_
            refine m_top (rX (I 80) p k) (by unfold rX; repeat' split; all_goals first | rfl | omega) ?_
            refine m_istore dX1_goOn_85 (by decide) rfl rfl ?_
            refine m_iload_n dX1_goOn_87 rfl ?_
            refine m_tif_ne (tgt := 95) (M := 108) dX1_goOn_88 (by decide) (fun c88 hM88 => by
                refine m_aload_n dX1_goOn_95 rfl ?_
                refine m_gr (z := 1) dX1_goOn_96 fl_X1_15 oX_79 rfl rfl rX_79_1 ?_
                refine m_aload_n dX1_goOn_99 rfl ?_
                refine m_gr (z := 3) dX1_goOn_100 fl_X1_21 oX_79 rfl rfl rX_79_3 ?_
                refine m_iload_n dX1_goOn_103 rfl ?_
                refine m_iconst dX1_goOn_104 (by decide) ?_
                refine m_isub dX1_goOn_105 (by omega) ?_
                refine m_iald dX1_goOn_106 sX_83 (by omega) (by omega) ?_
                rw [show (k : Int) - 1 = ((k - 1 : Nat) : Int) by omega, (hT.2.1 (k - 1) (by omega)).1]
                refine m_iald dX1_goOn_107 sX_81 (by omega) (by have := (hT.2.1 (k - 1) (by omega)).2; omega) ?_
                exact hM88
              ) (fun c88 hM88 => by
                refine m_iconst dX1_goOn_91 (by decide) ?_
                refine m_goto (tgt := 108) dX1_goOn_92 (by decide) ?_
                exact hM88
              ) ?_
            refine m_top (rX (I 81) p k) (by unfold rX; repeat' split; all_goals first | rfl | omega) ?_
            refine m_istore dX1_goOn_108 (by decide) rfl rfl ?_
            refine m_iconst dX1_goOn_110 (by decide) ?_
            refine m_istore dX1_goOn_111 (by decide) rfl rfl ?_
            have ihd := fun (I : II) (p : Nat → Nat) (gone : Int) (a : BoyI I n) (b : TrI I n (k + 1) p gone) (c : BsX I I n (k + 1) (rN n p (k + 1))) => ihm (k + 1) (d - 1) I p gone (by omega) (by omega) a b c
            exact x_goOn_loop (by omega) hI0 hT hB (by omega) ihd h (n + 1) 0 I _ (by omega) (by omega) FrB_rf (by rw [Nat.add_zero]; exact bs_down (by omega) hB)
          · omega
        · refine m_vret dX1_goOn_26 rfl ?_
          refine h I ⟨FrB_rf, bs_skip hB (fun q hq hqv => ?_)⟩
          have e := rN_inj k (fun j hj => ⟨hq.1 j (by omega), (hT.2.1 j hj).2⟩) hqv
          have t1 := rT_mono (X := I 80) (Y := I 81) (q := q) k (n - k)
          have l1 := rL_mono (X := I 80) (Y := I 81) (D := I 82) (q := q) k (n - k)
          rw [show k + (n - k) = n by omega] at t1 l1
          rw [rT_congr k e] at t1
          rw [rL_congr k e] at l1
          unfold rLe NoB
          constructor <;> omega
/-- the best round stands-/
def RndI (I : II) (n : Nat) : Prop := BsX I I n 0 1
def FrR (I J : II) : Prop := (∀ x, x ≠ 79 → x ≠ 83 → x ≠ 84 → J x = I x) ∧ ∀ j : Int, j < 6 → J 79 j = I 79 j
theorem x_planB {n : Nat} (hd : n + 3 ≤ d) (hI : BoyI I n) (h6 : I 79 6 = 0 ∨ I 79 6 = 1) (hP : I 79 6 = 1 → RndI I n) : SV g d mX1_plan [vr 79] (shX nm no) (RX nm no) I (fun J => FrR I J ∧ J 79 6 = 1 ∧ RndI J n) := by
  intro Q h
  refine C_of rfl (Nat.le_of_ble_eq_true rfl) rfl ?_
  refine m_aload_n dX1_plan_0 rfl ?_
  refine m_gi (z := 6) dX1_plan_1 fl_X1_31 oX_79 rfl rfl ?_
  refine m_if_eq (tgt := 8) dX1_plan_4 (by decide) (fun c4 => ?_) (fun c4 => ?_)
  · refine m_aload_n dX1_plan_8 rfl ?_
    refine m_iconst dX1_plan_9 (by decide) ?_
    refine m_pz (z := 6) dX1_plan_10 fl_X1_31 oX_79 rfl rfl rfl (by omega) ?_
    refine m_aload_n dX1_plan_13 rfl ?_
    refine m_aload_n dX1_plan_14 rfl ?_
    refine m_gi (z := 5) dX1_plan_15 fl_X1_27 oX_79 rfl rfl ?_
    rw [upI_j (show (5 : Int) ≠ 6 by decide)]
    refine m_iconst dX1_plan_18 (by decide) ?_
    refine m_iadd dX1_plan_19 (by have := hI.1; have := hI.2.1; omega) ?_
    refine m_pi (z := 7) dX1_plan_20 fl_X1_35 oX_79 rfl rfl rfl ?_
    refine m_aload_n dX1_plan_23 rfl ?_
    refine m_ldc (a := 1000000) dX1_plan_24 kc_X1_38 rfl ?_
    refine m_pi (z := 8) dX1_plan_26 fl_X1_39 oX_79 rfl rfl rfl ?_
    refine m_aload_n dX1_plan_29 rfl ?_
    refine m_iconst dX1_plan_30 (by decide) ?_
    refine m_iconst dX1_plan_31 (by decide) ?_
    refine m_iconst dX1_plan_32 (by decide) ?_
    refine m_iconst dX1_plan_33 (by decide) ?_
    have e5 : (upI (upI (upI I 79 6 1) 79 7 (I 79 5 + 1)) 79 8 1000000) 79 5 = I 79 5 := by rw [upI_j (by decide), upI_j (by decide), upI_j (by decide)]
    have hI2 : BoyI (upI (upI (upI I 79 6 1) 79 7 (I 79 5 + 1)) 79 8 1000000) n := by
      unfold BoyI at hI ⊢
      rw [e5, upI_o (by decide), upI_o (by decide), upI_o (by decide), upI_o (by decide), upI_o (by decide), upI_o (by decide), upI_o (by decide), upI_o (by decide), upI_o (by decide)]
      exact hI
    have hB2 : BsX (upI (upI (upI I 79 6 1) 79 7 (I 79 5 + 1)) 79 8 1000000) (upI (upI (upI I 79 6 1) 79 7 (I 79 5 + 1)) 79 8 1000000) n 0 (rN n (fun j => j) 0) :=
      ⟨fun q hq hv => absurd hv (by unfold rN; omega), Or.inl ⟨⟨by rw [upI_j (by decide), upI_s, hI.1], by rw [upI_s]⟩, fun q hq hv => absurd hv (by unfold rN; omega)⟩⟩
    refine m_VV [_, _, _, _] dX1_plan_34 lk_X1_42 rfl oX_79 rfl (Nat.le_of_ble_eq_true rfl) (by omega) (x_goOn n 0 (d - 1) _ (fun j => j) 0 (by omega) (by omega) hI2 ⟨by omega, fun j hj => by omega, fun i j a b => by omega, by omega, fun j hj => ⟨fun z => absurd z (bt_0 _), fun ⟨i, a, _⟩ => by omega⟩⟩ hB2) ?_
    intro I34 q34
    refine m_vret dX1_plan_37 rfl ?_
    obtain ⟨w1, w2⟩ := q34
    refine h _ ⟨⟨fun x a b c => by rw [w1.1 x a b c, upI_o a, upI_o a, upI_o a], fun j a => by rw [w1.2.1 j (by omega) (by omega), upI_j (by omega), upI_j (by omega), upI_j (by omega)]⟩, by rw [w1.2.1 6 (by decide) (by decide), upI_j (by decide), upI_j (by decide), upI_s], ?_⟩
    unfold RndI BsX
    rw [w1.1 80 (by decide) (by decide) (by decide), w1.1 81 (by decide) (by decide) (by decide), w1.1 82 (by decide) (by decide) (by decide)]
    exact w2
  · refine m_vret dX1_plan_7 rfl ?_
    exact h I ⟨⟨fun _ _ _ _ => rfl, fun _ _ => rfl⟩, by omega, hP (by omega)⟩
theorem px_round {k : Int} {n : Nat} (hd : n + 4 ≤ d) (hI : BoyI I n) (h6 : I 79 6 = 0 ∨ I 79 6 = 1) (hP : I 79 6 = 1 → RndI I n) : SI g d mX11_round [vr 20, vi k] (shX nm no) (RX nm no) I (fun r J => (k < 0 ∧ r = -3 ∧ J = I) ∨ (0 ≤ k ∧ FrR I J ∧ J 79 6 = 1 ∧ RndI J n ∧ r = (if k = 0 then J 79 7 else if k = 1 then J 79 8 else if k - 2 < n then J 84 (k - 2) else -1))) := by
  intro Q h
  refine C_of rfl (Nat.le_of_ble_eq_true rfl) rfl ?_
  refine m_iload_n dX11_round_0 rfl ?_
  refine m_if_ge (tgt := 7) dX11_round_1 (by decide) (fun c1 => ?_) (fun c1 => ?_)
  · refine m_aload_n dX11_round_7 rfl ?_
    refine m_gr (z := 7) dX11_round_8 fl_X11_63 oX_20 rfl rfl rX_20_7 ?_
    refine m_VV [] dX11_round_11 lk_X11_336 rfl oX_79 rfl (Nat.le_of_ble_eq_true rfl) (by omega) (x_planB (by omega) hI h6 hP) ?_
    intro I11 q11
    obtain ⟨w1, w2, w3⟩ := q11
    have w5 : I11 79 5 = n := by rw [w1.2 5 (by decide)]; exact hI.1
    have w6 := hI.2.1
    refine m_iload_n dX11_round_14 rfl ?_
    refine m_if_ne (tgt := 26) dX11_round_15 (by decide) (fun c15 => ?_) (fun c15 => ?_)
    · refine m_iload_n dX11_round_26 rfl ?_
      refine m_iconst dX11_round_27 (by decide) ?_
      refine m_icmp_ne (tgt := 39) dX11_round_28 (by decide) (fun c28 => ?_) (fun c28 => ?_)
      · refine m_rngL 1 rfl (fun rk => ?_)
        unfold R32 at rk
        refine m_iload_n dX11_round_39 rfl ?_
        refine m_iconst dX11_round_40 (by decide) ?_
        refine m_isub dX11_round_41 (by omega) ?_
        refine m_aload_n dX11_round_42 rfl ?_
        refine m_gr (z := 7) dX11_round_43 fl_X11_63 oX_20 rfl rfl rX_20_7 ?_
        refine m_gi (z := 5) dX11_round_46 fl_X11_331 oX_79 rfl rfl ?_
        refine m_icmp_ge (tgt := 66) dX11_round_49 (by decide) (fun c49 => ?_) (fun c49 => ?_)
        · refine m_iconst dX11_round_66 (by decide) ?_
          refine m_iret dX11_round_67 rfl ?_
          refine h _ _ (Or.inr ⟨by omega, w1, w2, w3, ?_⟩)
          repeat' split
          all_goals first | rfl | omega
        · refine m_aload_n dX11_round_52 rfl ?_
          refine m_gr (z := 7) dX11_round_53 fl_X11_63 oX_20 rfl rfl rX_20_7 ?_
          refine m_gr (z := 4) dX11_round_56 fl_X11_343 oX_79 rfl rfl rX_79_4 ?_
          refine m_iload_n dX11_round_59 rfl ?_
          refine m_iconst dX11_round_60 (by decide) ?_
          refine m_isub dX11_round_61 (by omega) ?_
          refine m_iald dX11_round_62 sX_84 (by omega) (by omega) ?_
          refine m_goto (tgt := 67) dX11_round_63 (by decide) ?_
          refine m_iret dX11_round_67 rfl ?_
          refine h _ _ (Or.inr ⟨by omega, w1, w2, w3, ?_⟩)
          repeat' split
          all_goals first | rfl | omega
      · refine m_aload_n dX11_round_31 rfl ?_
        refine m_gr (z := 7) dX11_round_32 fl_X11_63 oX_20 rfl rfl rX_20_7 ?_
        refine m_gi (z := 8) dX11_round_35 fl_X11_340 oX_79 rfl rfl ?_
        refine m_iret dX11_round_38 rfl ?_
        refine h _ _ (Or.inr ⟨by omega, w1, w2, w3, ?_⟩)
        repeat' split
        all_goals first | rfl | omega
    · refine m_aload_n dX11_round_18 rfl ?_
      refine m_gr (z := 7) dX11_round_19 fl_X11_63 oX_20 rfl rfl rX_20_7 ?_
      refine m_gi (z := 7) dX11_round_22 fl_X11_337 oX_79 rfl rfl ?_
      refine m_iret dX11_round_25 rfl ?_
      refine h _ _ (Or.inr ⟨by omega, w1, w2, w3, ?_⟩)
      repeat' split
      all_goals first | rfl | omega
  · refine m_bipush dX11_round_4 rfl (by decide) ?_
    refine m_iret dX11_round_6 rfl ?_
    exact h _ _ (Or.inl ⟨by omega, rfl, rfl⟩)
end
