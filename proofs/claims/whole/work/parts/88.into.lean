/-! TEXT: forget, readInto, fault -/
section
variable {g : GH} {d nm no : Nat} {I : II}
/-- orders q (rows a, b) hold what the first k lines say -/
def RO (f : Int → Int) (n : Int) (q a b : Nat) (k : Nat) (K : II) : Prop :=
  (∀ j : Int, 0 ≤ j → j < 5 → K a j = lsF (lvF f n) 0 j (rkD j) k ∧ 0 ≤ K a j ∧ K a j ≤ 9) ∧ (∀ j : Int, 0 ≤ j → j < 5 → K b j = lsF (lvF f n) 1 j 1 k ∧ 0 ≤ K b j ∧ K b j ≤ 99) ∧
  (K q 4 = lsF (lvF f n) 2 0 0 k ∧ 0 ≤ K q 4 ∧ K q 4 ≤ 99) ∧ (K q 5 = lsF (lvF f n) 5 0 0 k ∧ 0 ≤ K q 5 ∧ K q 5 ≤ 99) ∧ (∀ h : Int, 0 ≤ h → h < 24 → (nightX K q h ↔ ngF (lvF f n) h k)) ∧ ((0 ≤ K q 6 ∧ K q 6 ≤ 23) ∧ 0 ≤ K q 7 ∧ K q 7 ≤ 23) ∧ (0 ≤ K q 3 ∧ K q 3 < 32) ∧ ∀ j : Int, 0 ≤ j → j < 5 → ((j = 4 ∨ bt (K q 3) j) ↔ twF (lvF f n) j k)
def fgI (I : II) (q a b c : Nat) (r : Int → Int) : II := upI (upI (upI (upI (upI (cpI (cpI (cpI I a r 5) b (fun _ => 1) 5) c (fun _ => -1) 8) q 3 0) q 4 0) q 5 0) q 6 0) q 7 23
def dsO (q a b c : Nat) : Prop := (q ≠ 46 ∧ a ≠ 46 ∧ b ≠ 46 ∧ c ≠ 46) ∧ (q ≠ 47 ∧ a ≠ 47 ∧ b ≠ 47 ∧ c ≠ 47) ∧ q ≠ a ∧ q ≠ b ∧ q ≠ c ∧ a ≠ b ∧ a ≠ c ∧ b ≠ c
theorem rnk_D : ∀ j : Fin 5, rnkL.getD j.val 0 = rkD (j.val : Int) := by decide
theorem fg_o {I : II} {q a b c x : Nat} {r : Int → Int} (h1 : x ≠ q) (h2 : x ≠ a) (h3 : x ≠ b) (h4 : x ≠ c) : fgI I q a b c r x = I x := by
  unfold fgI; rw [upI_o h1, upI_o h1, upI_o h1, upI_o h1, upI_o h1, cpI_o h4, cpI_o h3, cpI_o h2]
theorem fg_c {I : II} {q a b c : Nat} {r : Int → Int} (hD : dsO q a b c) {o : Int} (h0 : 0 ≤ o) (h1 : o < 8) : fgI I q a b c r c o = -1 := by
  unfold fgI; have hc : c ≠ q := hD.2.2.2.2.1.symm
  rw [upI_o hc, upI_o hc, upI_o hc, upI_o hc, upI_o hc, cpI_in h0 h1]
theorem fg_RO {f : Int → Int} {n : Int} {I : II} {q a b c : Nat} {r : Int → Int} (hD : dsO q a b c) (hr : ∀ j : Nat, j < 5 → r j = rnkL.getD j 0) : RO f n q a b 0 (fgI I q a b c r) := by
  obtain ⟨d0, d1, d2, d3, d4, d5, d6, d7⟩ := hD
  have hv : ∀ (x : Int → Int) (k : Int), True := fun _ _ => trivial
  have eq3 : fgI I q a b c r q 3 = 0 := by unfold fgI; rw [upI_j (by decide), upI_j (by decide), upI_j (by decide), upI_j (by decide), upI_s]
  have eq4 : fgI I q a b c r q 4 = 0 := by unfold fgI; rw [upI_j (by decide), upI_j (by decide), upI_j (by decide), upI_s]
  have eq5 : fgI I q a b c r q 5 = 0 := by unfold fgI; rw [upI_j (by decide), upI_j (by decide), upI_s]
  have eq6 : fgI I q a b c r q 6 = 0 := by unfold fgI; rw [upI_j (by decide), upI_s]
  have eq7 : fgI I q a b c r q 7 = 23 := by unfold fgI; rw [upI_s]
  refine ⟨fun j j0 j1 => ?_, fun j j0 j1 => ?_, ?_, ?_, fun h h0 h1 => ?_, ?_, ?_, fun j j0 j1 => ?_⟩
  · have e : fgI I q a b c r a j = rkD j := by
      unfold fgI
      rw [upI_o d2.symm, upI_o d2.symm, upI_o d2.symm, upI_o d2.symm, upI_o d2.symm, cpI_o d6, cpI_o d5, cpI_in j0 j1]
      have e1 := hr j.toNat (by omega)
      have e2 := rnk_D ⟨j.toNat, by omega⟩
      have e3 : ((j.toNat : Nat) : Int) = j := by omega
      rw [e3] at e1
      rw [e1, e2]
      exact congrArg rkD e3
    rw [e]
    refine ⟨rfl, ?_⟩
    unfold rkD
    (repeat' split) <;> omega
  · have e : fgI I q a b c r b j = 1 := by
      unfold fgI
      rw [upI_o d3.symm, upI_o d3.symm, upI_o d3.symm, upI_o d3.symm, upI_o d3.symm, cpI_o d7, cpI_in j0 j1]
    rw [e]; exact ⟨rfl, by decide, by decide⟩
  · rw [eq4]; exact ⟨rfl, by decide, by decide⟩
  · rw [eq5]; exact ⟨rfl, by decide, by decide⟩
  · have e : nightX (fgI I q a b c r) q h := by
      unfold nightX; rw [eq6, eq7, if_neg (by decide)]; omega
    exact ⟨fun _ => trivial, fun _ => e⟩
  · rw [eq6, eq7]; decide
  · rw [eq3]; decide
  · rw [eq3]
    constructor
    · rintro (z | z)
      · exact Or.inl z
      · exact absurd z (bt_0 j)
    · rintro (z | ⟨k, hk, _⟩)
      · exact Or.inl z
      · omega
theorem or5 {a w : Int} (ha : 0 ≤ a) (h1 : a < 32) (hw : 0 ≤ w) (hw2 : w < 5) : f_ior a (f_ishl 1 w) < 32 := by
  have h3 := Nat.pow_le_pow_right (show 0 < 2 by omega) (show w.toNat ≤ 4 by omega)
  rw [shl32 hw (by omega)]
  generalize 2 ^ w.toNat = N at h3 ⊢
  have h4 : N ≤ 16 := h3
  rw [or32 ha (by omega) (by omega) (by omega)]
  have h5 : (a.toNat ||| ((N : Nat) : Int).toNat) < 2 ^ 5 := Nat.or_lt_two_pow (by omega) (by omega)
  omega
section
variable {f : Int → Int} {n : Int} {k : Nat}
theorem ls_s {so kd wo : Int} : lsF (lvF f n) so kd wo (k + 1) = if soT f n (poF f n k) = so ∧ lnA f n (poF f n k) = kd then lnB f n (poF f n k) else lsF (lvF f n) so kd wo k := by
  show (if lvF f n (3 * (k : Int)) = so ∧ lvF f n (3 * (k : Int) + 1) = kd then lvF f n (3 * (k : Int) + 2) else _) = _
  rw [lvF_0, lvF_1, lvF_2]
theorem ng_s {h : Int} : ngF (lvF f n) h (k + 1) = if soT f n (poF f n k) = 3 then (if lnA f n (poF f n k) ≤ lnB f n (poF f n k) then lnA f n (poF f n k) ≤ h ∧ h ≤ lnB f n (poF f n k) else lnA f n (poF f n k) ≤ h ∨ h ≤ lnB f n (poF f n k)) else ngF (lvF f n) h k := by
  show (if lvF f n (3 * (k : Int)) = 3 then _ else _) = _
  rw [lvF_0, lvF_1, lvF_2]
theorem tw_s {j : Int} : twF (lvF f n) j (k + 1) ↔ twF (lvF f n) j k ∨ (soT f n (poF f n k) = 4 ∧ lnA f n (poF f n k) = j) := by
  unfold twF
  constructor
  · rintro (z | ⟨i, hi, e⟩)
    · exact Or.inl (Or.inl z)
    · rcases (show i < k ∨ i = k by omega) with y | y
      · exact Or.inl (Or.inr ⟨i, y, e⟩)
      · subst y; rw [lvF_0, lvF_1] at e; exact Or.inr e
  · rintro ((z | ⟨i, hi, e⟩) | e)
    · exact Or.inl z
    · exact Or.inr ⟨i, by omega, e⟩
    · exact Or.inr ⟨k, by omega, by rw [lvF_0, lvF_1]; exact e⟩
theorem RO_step {q a b c : Nat} {K L : II} (hD : dsO q a b c) (hn : 0 ≤ n) (h : RO f n q a b k K) (hr : lnR f n (poF f n k) = -1) (hF : FrX (OU q a b (soT f n (poF f n k)) (lnA f n (poF f n k)) (lnB f n (poF f n k)) K) L) : RO f n q a b (k + 1) L := by
  obtain ⟨d0, d1, d2, d3, d4, d5, d6, d7⟩ := hD
  have ea : ∀ j, L a j = if soT f n (poF f n k) = 0 ∧ j = lnA f n (poF f n k) then lnB f n (poF f n k) else K a j := fun j => by rw [hF.1 a d0.2.1, OU_a d5 d2.symm]
  have eb : ∀ j, L b j = if soT f n (poF f n k) = 1 ∧ j = lnA f n (poF f n k) then lnB f n (poF f n k) else K b j := fun j => by rw [hF.1 b d0.2.2.1, OU_b d5 d3.symm]
  have eq : ∀ j, L q j = if soT f n (poF f n k) = 3 ∧ j = 6 then lnA f n (poF f n k) else if soT f n (poF f n k) = 3 ∧ j = 7 then lnB f n (poF f n k) else if soT f n (poF f n k) = 4 ∧ j = 3 then f_ior (K q 3) (f_ishl 1 (lnA f n (poF f n k))) else if soT f n (poF f n k) = 2 ∧ j = 4 then lnB f n (poF f n k) else if soT f n (poF f n k) = 5 ∧ j = 5 then lnB f n (poF f n k) else K q j := fun j => by rw [hF.1 q d0.1, OU_q d2.symm d3.symm]
  have e3 : L q 3 = if soT f n (poF f n k) = 4 then f_ior (K q 3) (f_ishl 1 (lnA f n (poF f n k))) else K q 3 := by rw [eq]; (repeat' split) <;> first | rfl | omega
  have e4 : L q 4 = if soT f n (poF f n k) = 2 then lnB f n (poF f n k) else K q 4 := by rw [eq]; (repeat' split) <;> first | rfl | omega
  have e5 : L q 5 = if soT f n (poF f n k) = 5 then lnB f n (poF f n k) else K q 5 := by rw [eq]; (repeat' split) <;> first | rfl | omega
  have e6 : L q 6 = if soT f n (poF f n k) = 3 then lnA f n (poF f n k) else K q 6 := by rw [eq]; (repeat' split) <;> first | rfl | omega
  have e7 : L q 7 = if soT f n (poF f n k) = 3 then lnB f n (poF f n k) else K q 7 := by rw [eq]; (repeat' split) <;> first | rfl | omega
  obtain ⟨h1, h2, h3, h4, h5, h6, h7, h8⟩ := h
  have hb := ln_ok (poF_bd hn k) hr
  refine ⟨fun j j0 j1 => ?_, fun j j0 j1 => ?_, ?_, ?_, fun t t0 t1 => ?_, ?_, ?_, fun j j0 j1 => ?_⟩
  · have z := h1 j j0 j1
    rw [ea, ls_s]
    by_cases e : soT f n (poF f n k) = 0 ∧ j = lnA f n (poF f n k)
    · rw [if_pos e, if_pos ⟨e.1, e.2.symm⟩]; exact ⟨rfl, by omega, by omega⟩
    · rw [if_neg e, if_neg (fun y => e ⟨y.1, y.2.symm⟩)]; exact z
  · have z := h2 j j0 j1
    rw [eb, ls_s]
    by_cases e : soT f n (poF f n k) = 1 ∧ j = lnA f n (poF f n k)
    · rw [if_pos e, if_pos ⟨e.1, e.2.symm⟩]; exact ⟨rfl, by omega, by omega⟩
    · rw [if_neg e, if_neg (fun y => e ⟨y.1, y.2.symm⟩)]; exact z
  · rw [e4, ls_s]
    by_cases e : soT f n (poF f n k) = 2
    · rw [if_pos e, if_pos ⟨e, by omega⟩]; exact ⟨rfl, by omega, by omega⟩
    · rw [if_neg e, if_neg (fun y => e y.1)]; exact h3
  · rw [e5, ls_s]
    by_cases e : soT f n (poF f n k) = 5
    · rw [if_pos e, if_pos ⟨e, by omega⟩]; exact ⟨rfl, by omega, by omega⟩
    · rw [if_neg e, if_neg (fun y => e y.1)]; exact h4
  · have z := h5 t t0 t1
    unfold nightX at z ⊢
    rw [e6, e7, ng_s]
    by_cases e : soT f n (poF f n k) = 3
    · rw [if_pos e, if_pos e, if_pos e]
      by_cases y : lnB f n (poF f n k) < lnA f n (poF f n k)
      · rw [if_pos y, if_neg (by omega)]
      · rw [if_neg y, if_pos (by omega)]
    · rw [if_neg e, if_neg e, if_neg e]; exact z
  · rw [e6, e7]
    by_cases e : soT f n (poF f n k) = 3
    · rw [if_pos e, if_pos e]; omega
    · rw [if_neg e, if_neg e]; exact h6
  · rw [e3]
    by_cases e : soT f n (poF f n k) = 4
    · rw [if_pos e]
      have hw : 0 ≤ lnA f n (poF f n k) ∧ lnA f n (poF f n k) < 5 := by omega
      exact ⟨(bt_or (j := 0) h7.1 (by omega) hw.1 (by omega) (by decide)).1, or5 h7.1 h7.2 hw.1 hw.2⟩
    · rw [if_neg e]; exact h7
  · have z := h8 j j0 j1
    rw [e3, tw_s, ← z]
    by_cases e : soT f n (poF f n k) = 4
    · rw [if_pos e]
      have hw : 0 ≤ lnA f n (poF f n k) ∧ lnA f n (poF f n k) < 5 := by omega
      rw [(bt_or (j := j) h7.1 (by omega) hw.1 (by omega) j0).2.2]
      constructor
      · rintro (y | y | y)
        · exact Or.inl (Or.inl y)
        · exact Or.inl (Or.inr y)
        · exact Or.inr ⟨e, y.symm⟩
      · rintro ((y | y) | y)
        · exact Or.inl y
        · exact Or.inr (Or.inl y)
        · exact Or.inr (Or.inr y.2.symm)
    · rw [if_neg e]
      constructor
      · exact Or.inl
      · rintro (y | y)
        · exact y
        · exact absurd y.1 e
end
section
variable {sh : SH} {R : RR} {q a b c : Nat}
theorem x_forget (hG : GvI g) (hd : 2 ≤ d) (ho : OrdAt sh R q a b c) : SP g d mX5_forget 0 0 [vr q] sh R I none sh R (fgI I q a b c (fun j => (gX g 2).2 j.toNat)) := by
  intro Q h
  refine C_of rfl (Nat.le_of_ble_eq_true rfl) rfl ?_
  refine m_gets (k := 2) dX5_forget_0 gs_X5_24 (Or.inl ⟨rfl, rfl⟩) ?_
  refine m_iconst dX5_forget_3 (by decide) ?_
  refine m_aload_n dX5_forget_4 rfl ?_
  refine m_gr (z := 0) dX5_forget_5 fl_X5_9 ho.1 rfl rfl ho.2.1 ?_
  refine m_iconst dX5_forget_8 (by decide) ?_
  refine m_iconst dX5_forget_9 (by decide) ?_
  refine m_copyg dX5_forget_10 lk_X5_27 ho.2.2.2.2.1 (by decide) (by decide) (by decide) (by have := hG.1; omega) (by omega) (Nat.le_of_ble_eq_true rfl) ?_
  refine m_aload_n dX5_forget_13 rfl ?_
  refine m_gr (z := 1) dX5_forget_14 fl_X5_15 ho.1 rfl rfl ho.2.2.1 ?_
  refine m_iconst dX5_forget_17 (by decide) ?_
  refine m_Sv [_, _] dX5_forget_18 lk_X5_33 rfl rfl (Nat.le_of_ble_eq_true rfl) (by omega) (x_fill ho.2.2.2.2.2.1 (by decide)) ?_
  refine m_aload_n dX5_forget_21 rfl ?_
  refine m_gr (z := 2) dX5_forget_22 fl_X5_18 ho.1 rfl rfl ho.2.2.2.1 ?_
  refine m_iconst dX5_forget_25 (by decide) ?_
  refine m_Sv [_, _] dX5_forget_26 lk_X5_33 rfl rfl (Nat.le_of_ble_eq_true rfl) (by omega) (x_fill ho.2.2.2.2.2.2 (by decide)) ?_
  refine m_aload_n dX5_forget_29 rfl ?_
  refine m_iconst dX5_forget_30 (by decide) ?_
  refine m_pi (z := 3) dX5_forget_31 fl_X5_39 ho.1 rfl rfl rfl ?_
  refine m_aload_n dX5_forget_34 rfl ?_
  refine m_iconst dX5_forget_35 (by decide) ?_
  refine m_pi (z := 4) dX5_forget_36 fl_X5_43 ho.1 rfl rfl rfl ?_
  refine m_aload_n dX5_forget_39 rfl ?_
  refine m_iconst dX5_forget_40 (by decide) ?_
  refine m_pi (z := 5) dX5_forget_41 fl_X5_46 ho.1 rfl rfl rfl ?_
  refine m_aload_n dX5_forget_44 rfl ?_
  refine m_iconst dX5_forget_45 (by decide) ?_
  refine m_pi (z := 6) dX5_forget_46 fl_X5_49 ho.1 rfl rfl rfl ?_
  refine m_aload_n dX5_forget_49 rfl ?_
  refine m_bipush dX5_forget_50 rfl (by decide) ?_
  refine m_pi (z := 7) dX5_forget_52 fl_X5_52 ho.1 rfl rfl rfl ?_
  refine m_vret dX5_forget_55 rfl ?_
  exact h
end
theorem x_go' {f : Int → Int} {n p : Int} (hd : 1 ≤ d) (hf : I 47 = f) (hn : I 46 1 = n) (hT : TxI I) (h3 : I 46 3 = p) (hp : 0 ≤ p ∧ p ≤ n) : SV g d mX10_goOn [vr 46] (shX nm no) (RX nm no) I (fun J => FrX I J ∧ tkB f n J p) := by
  subst hf; subst hn; intro Q h; exact x_goOn10 hd hT h3 hp Q (fun J z => h J ⟨z.1, z.2.2.2.1, z.2.2.2.2⟩)
/-- only the orders q and what the reading sets have changed -/
def FrO (I K : II) (q a b c : Nat) : Prop := (∀ x, x ≠ 46 → x ≠ q → x ≠ a → x ≠ b → x ≠ c → K x = I x) ∧ ∀ j : Int, j ≠ 2 → j ≠ 3 → j ≠ 4 → j ≠ 5 → K 46 j = I 46 j
def RIP (f : Int → Int) (n : Int) (q a b c : Nat) (I : II) (r : Int) (J : II) : Prop := ∃ k, rdO f n k r ∧ FrO I J q a b c ∧ (r = -1 → RO f n q a b (k + 1) J) ∧ ∀ o : Int, 0 ≤ o → o < 8 → J c o = -1
theorem x_ri_loop {f : Int → Int} {n : Int} {q a b c : Nat} (hf : I 47 = f) (hn : I 46 1 = n) (hT : TxI I) (ho : OrdAt (shX nm no) (RX nm no) q a b c) (hD : dsO q a b c) (hd : 9 ≤ d) {Q : QT} (h : ∀ r J, RIP f n q a b c I r J → Q (some (vi r)) (shX nm no) (RX nm no) J) :
    ∀ (m k : Nat) (K : II), 10 - k < m → k ≤ 9 → FrO I K q a b c → tkB f n K (poF f n k) → (∀ j, j < k → lnR f n (poF f n j) = -1 ∧ seP f n (lnN f n (poF f n j))) → RO f n q a b k K → (∀ o : Int, 0 ≤ o → o < 8 → K c o = -1) → T g d mX10_readInto 0 0 15 [some (vr 46), some (vr q), some (vi ((k : Int) + 1))] [] (shX nm no) (RX nm no) K Q := by
  have hT1 := hT.1
  intro m
  induction m with
  | zero => intro k K hm; omega
  | succ m ih =>
    intro k K hm hk hF hA hl hR hc
    have d0 := hD
    unfold dsO at d0
    have hp := poF_bd (f := f) (show 0 ≤ n by omega) k
    have hN := lnN_bd (f := f) hp
    have hb := t_bd (f := f) hN.2
    have hb0 := t_bd (f := f) hp.2
    have kf : K 47 = f := (hF.1 47 (by decide) (by omega) (by omega) (by omega) (by omega)).trans hf
    have kn : K 46 1 = n := (hF.2 1 (by decide) (by decide) (by decide) (by decide)).trans hn
    have kT : TxI K := by unfold TxI; rw [kf, kn, ← hf, ← hn]; exact hT
    refine m_iload_n dX10_readInto_15 rfl ?_
    refine m_bipush dX10_readInto_16 rfl (by decide) ?_
    refine m_icmp_gt (tgt := 82) dX10_readInto_18 (by decide) (fun c18 => ?_) (fun c18 => ?_)
    · exact absurd c18 (by omega)
    · refine m_aload_n dX10_readInto_21 rfl ?_
      refine m_aload_n dX10_readInto_22 rfl ?_
      refine m_VI [_] dX10_readInto_23 lk_X10_34 rfl oX_46 rfl (Nat.le_of_ble_eq_true rfl) (by omega) (x_readsLine kf kn kT hp hA ho ⟨by omega, by omega⟩ ⟨by omega, by omega⟩ ⟨by omega, by omega⟩ (by omega)) ?_
      intro r23 I23 q23
      refine m_if_ne (tgt := 34) dX10_readInto_26 (by decide) (fun c26 => ?_) (fun c26 => ?_)
      · obtain ⟨l23, f23, t23⟩ : lnR f n (poF f n k) = -1 ∧ FrX (OU q a b (soT f n (poF f n k)) (lnA f n (poF f n k)) (lnB f n (poF f n k)) K) I23 ∧ tkB f n I23 (lnN f n (poF f n k)) := (by rcases q23 with z | z; exact ⟨z.1, z.2.2⟩; exact absurd z.2.1 c26)
        have ro := RO_step hD (by omega) hR l23 f23
        have jf : I23 47 = f := by rw [f23.1 47 (by decide), OU_o (by omega) (by omega) (by omega)]; exact kf
        have jn : I23 46 1 = n := by rw [f23.2 1 (by decide) (by decide) (by decide) (by decide), OU_o (by omega) (by omega) (by omega)]; exact kn
        have jT : TxI I23 := by unfold TxI; rw [jf, jn, ← hf, ← hn]; exact hT
        have jc : ∀ o : Int, 0 ≤ o → o < 8 → I23 c o = -1 := fun o o0 o1 => by rw [f23.1 c (by omega), OU_o (by omega) (by omega) (by omega)]; exact hc o o0 o1
        have jF : FrO I I23 q a b c := ⟨fun x x1 x2 x3 x4 x5 => by rw [f23.1 x x1, OU_o x3 x4 x2]; exact hF.1 x x1 x2 x3 x4 x5, fun j j2 j3 j4 j5 => by rw [f23.2 j j2 j3 j4 j5, OU_o (by omega) (by omega) (by omega)]; exact hF.2 j j2 j3 j4 j5⟩
        refine m_aload_n dX10_readInto_34 rfl ?_
        refine m_gi (z := 2) dX10_readInto_35 fl_X10_38 oX_46 rfl rfl ?_
        rw [t23.1]
        refine m_aload_n dX10_readInto_38 rfl ?_
        refine m_gi (z := 1) dX10_readInto_39 fl_X10_15 oX_46 rfl rfl ?_
        rw [jn]
        refine m_icmp_ne (tgt := 47) dX10_readInto_42 (by decide) (fun c42 => ?_) (fun c42 => ?_)
        · refine m_aload_n dX10_readInto_47 rfl ?_
          refine m_gr (z := 0) dX10_readInto_48 fl_X10_9 oX_46 rfl rfl rX_46_0 ?_
          refine m_aload_n dX10_readInto_51 rfl ?_
          refine m_gi (z := 2) dX10_readInto_52 fl_X10_38 oX_46 rfl rfl ?_
          rw [t23.1]
          refine m_cald dX10_readInto_55 sX_47 (by omega) (by omega) ?_
          rw [jf]
          refine m_bipush dX10_readInto_56 rfl (by decide) ?_
          refine m_icmp_ne (tgt := 67) dX10_readInto_58 (by decide) (fun c58 => ?_) (fun c58 => ?_)
          · refine m_aload_n dX10_readInto_67 rfl ?_
            refine m_gi (z := 2) dX10_readInto_68 fl_X10_38 oX_46 rfl rfl ?_
            rw [t23.1]
            refine m_iret dX10_readInto_71 rfl ?_
            exact h _ _ ⟨k, ⟨hk, hl, Or.inr (Or.inr ⟨l23, c42, (by first | exact Or.inl (fun z => c58 z.2) | exact Or.inr (by omega)), rfl⟩)⟩, jF, fun z => by omega, jc⟩
          · refine m_iload_n dX10_readInto_61 rfl ?_
            refine m_bipush dX10_readInto_62 rfl (by decide) ?_
            refine m_icmp_ne (tgt := 72) dX10_readInto_64 (by decide) (fun c64 => ?_) (fun c64 => ?_)
            · refine m_aload_n dX10_readInto_72 rfl ?_
              refine m_VV [] dX10_readInto_73 lk_X10_31 rfl oX_46 rfl (Nat.le_of_ble_eq_true rfl) (by omega) (x_go' (p := tE f n (lnN f n (poF f n k))) (by omega) jf jn jT t23.2 ⟨by omega, by omega⟩) ?_
              intro I73 q73
              refine m_iinc dX10_readInto_76 rfl (by decide) rfl rfl (by omega) ?_
              refine m_goto (tgt := 15) dX10_readInto_79 (by decide) ?_
              have z := ih (k + 1) I73 (by omega) (by omega) ⟨fun x x1 x2 x3 x4 x5 => by rw [q73.1.1 x x1]; exact jF.1 x x1 x2 x3 x4 x5, fun j j2 j3 j4 j5 => by rw [q73.1.2 j j2 j3 j4 j5]; exact jF.2 j j2 j3 j4 j5⟩ q73.2 (fun j hj => by
                rcases (show j < k ∨ j = k by omega) with y | y
                · exact hl j y
                · rw [y]; exact ⟨l23, by omega, c58⟩) (by
                have e1 := q73.1.1 a (by omega)
                have e2 := q73.1.1 b (by omega)
                have e3 := q73.1.1 q (by omega)
                unfold RO nightX at ro ⊢
                rw [e1, e2, e3]; exact ro) (fun o o0 o1 => by rw [q73.1.1 c (by omega)]; exact jc o o0 o1)
              rw [show ((k + 1 : Nat) : Int) + 1 = (k : Int) + 1 + 1 by omega] at z
              exact z
            · refine m_aload_n dX10_readInto_67 rfl ?_
              refine m_gi (z := 2) dX10_readInto_68 fl_X10_38 oX_46 rfl rfl ?_
              rw [t23.1]
              refine m_iret dX10_readInto_71 rfl ?_
              exact h _ _ ⟨k, ⟨hk, hl, Or.inr (Or.inr ⟨l23, c42, (by first | exact Or.inl (fun z => c58 z.2) | exact Or.inr (by omega)), rfl⟩)⟩, jF, fun z => by omega, jc⟩
        · refine m_iconst dX10_readInto_45 (by decide) ?_
          refine m_iret dX10_readInto_46 rfl ?_
          exact h _ _ ⟨k, ⟨hk, hl, Or.inr (Or.inl ⟨l23, c42, rfl⟩)⟩, jF, fun _ => ro, jc⟩
      · obtain ⟨l23, f23, t23⟩ : lnR f n (poF f n k) ≠ -1 ∧ FrX K I23 ∧ I23 46 2 = lnR f n (poF f n k) := (by rcases q23 with z | z; exact absurd z.2.1 (by omega); exact ⟨z.1, z.2.2⟩)
        refine m_aload_n dX10_readInto_29 rfl ?_
        refine m_gi (z := 2) dX10_readInto_30 fl_X10_38 oX_46 rfl rfl ?_
        rw [t23]
        refine m_iret dX10_readInto_33 rfl ?_
        exact h _ _ ⟨k, ⟨hk, hl, Or.inl ⟨l23, rfl⟩⟩, ⟨fun x x1 x2 x3 x4 x5 => by rw [f23.1 x x1]; exact hF.1 x x1 x2 x3 x4 x5, fun j j2 j3 j4 j5 => by rw [f23.2 j j2 j3 j4 j5]; exact hF.2 j j2 j3 j4 j5⟩, fun z => absurd z l23, fun o o0 o1 => by rw [f23.1 c (by omega)]; exact hc o o0 o1⟩
theorem x_readInto {f : Int → Int} {n : Int} {q a b c : Nat} (hf : I 47 = f) (hn : I 46 1 = n) (hT : TxI I) (ho : OrdAt (shX nm no) (RX nm no) q a b c) (hD : dsO q a b c) (hG : GvI g) (hd : 9 ≤ d) : SI g d mX10_readInto [vr 46, vr q] (shX nm no) (RX nm no) I (RIP f n q a b c I) := by
  have d0 := hD
  unfold dsO at d0
  have hT1 := hT.1
  intro Q h
  refine C_of rfl (Nat.le_of_ble_eq_true rfl) rfl ?_
  refine m_aload_n dX10_readInto_0 rfl ?_
  refine m_Vv [] dX10_readInto_1 lk_X10_23 rfl ho.1 rfl (Nat.le_of_ble_eq_true rfl) (by omega) (x_forget hG (by omega) ho) ?_
  generalize hM : fgI I q a b c (fun j => (gX g 2).2 j.toNat) = M
  have mo : ∀ x, x ≠ q → x ≠ a → x ≠ b → x ≠ c → M x = I x := fun x x2 x3 x4 x5 => by rw [← hM]; exact fg_o x2 x3 x4 x5
  have mf : M 47 = f := (mo 47 (by omega) (by omega) (by omega) (by omega)).trans hf
  have m46 : M 46 = I 46 := mo 46 (by omega) (by omega) (by omega) (by omega)
  have mn : M 46 1 = n := by rw [m46]; exact hn
  have mr : RO f n q a b 0 M := by rw [← hM]; exact fg_RO hD (fun j hj => by show (gX g 2).2 (j : Int).toNat = _; rw [Int.toNat_natCast]; exact hG.2.1 j hj)
  have mc : ∀ o : Int, 0 ≤ o → o < 8 → M c o = -1 := fun o o0 o1 => by rw [← hM]; exact fg_c hD o0 o1
  refine m_aload_n dX10_readInto_4 rfl ?_
  refine m_iconst dX10_readInto_5 (by decide) ?_
  refine m_pi (z := 3) dX10_readInto_6 fl_X10_28 oX_46 rfl rfl rfl ?_
  refine m_aload_n dX10_readInto_9 rfl ?_
  refine m_VV [] dX10_readInto_10 lk_X10_31 rfl oX_46 rfl (Nat.le_of_ble_eq_true rfl) (by omega) (x_go' (f := f) (n := n) (p := 0) (by omega) ((upI_o (show (47 : Nat) ≠ 46 by decide)).trans mf) ((upI_j (show (1 : Int) ≠ 3 by decide)).trans mn) (by unfold TxI; rw [upI_o (show (47 : Nat) ≠ 46 by decide), upI_j (show (1 : Int) ≠ 3 by decide), mf, mn, ← hf, ← hn]; exact hT) upI_s ⟨by decide, by omega⟩) ?_
  intro I10 q10
  refine m_iconst dX10_readInto_13 (by decide) ?_
  refine m_istore_n dX10_readInto_14 (by decide) rfl rfl ?_
  have e1 : I10 a = M a := by rw [q10.1.1 a (by omega), upI_o (by omega)]
  have e2 : I10 b = M b := by rw [q10.1.1 b (by omega), upI_o (by omega)]
  have e3 : I10 q = M q := by rw [q10.1.1 q (by omega), upI_o (by omega)]
  have e4 : I10 c = M c := by rw [q10.1.1 c (by omega), upI_o (by omega)]
  have z := x_ri_loop (g := g) (d := d) (nm := nm) (no := no) (I := I) hf hn hT ho hD hd h 11 0 I10 (by omega) (by omega) ⟨fun x x1 x2 x3 x4 x5 => by rw [q10.1.1 x x1, upI_o x1]; exact mo x x2 x3 x4 x5, fun j j2 j3 j4 j5 => by rw [q10.1.2 j j2 j3 j4 j5, upI_j j3, m46]⟩ q10.2 (fun j hj => absurd hj (Nat.not_lt_zero j)) (by unfold RO nightX at mr ⊢; rw [e1, e2, e3]; exact mr) (fun o o0 o1 => by rw [e4]; exact mc o o0 o1)
  exact z
theorem ds_draft {no : Nat} (h : no ≤ 6) : dsO (300 + no) (310 + no) (320 + no) (330 + no) := by unfold dsO; omega
theorem px_fault (hm : nm ≤ 24) (hno : no ≤ 6) (hT : TxI I) (hG : GvI g) (hd : 10 ≤ d) : SI g d mX11_fault [vr 20] (shX nm no) (RX nm no) I (RIP (I 47) (I 46 1) (300 + no) (310 + no) (320 + no) (330 + no) I) := by
  intro Q h
  refine C_of rfl (Nat.le_of_ble_eq_true rfl) rfl ?_
  refine m_aload_n dX11_fault_0 rfl ?_
  refine m_gr (z := 3) dX11_fault_1 fl_X11_35 oX_20 rfl rfl rX_20_3 ?_
  refine m_aload_n dX11_fault_4 rfl ?_
  refine m_gr (z := 1) dX11_fault_5 fl_X11_19 oX_20 rfl rfl rX_20_1 ?_
  refine m_gr (z := 2) dX11_fault_8 fl_X11_203 oX_37 rfl rfl rX_draft ?_
  refine m_VI [_] dX11_fault_11 lk_X11_207 rfl oX_46 rfl (Nat.le_of_ble_eq_true rfl) (by omega) (x_readInto rfl rfl hT (ord_at (Nat.le_refl no) hm hno) (ds_draft hno) hG (by omega)) ?_
  intro r11 I11 q11
  refine m_iret dX11_fault_14 rfl ?_
  exact h _ _ q11
end
