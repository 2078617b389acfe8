/-! NET: joins, shorten, measureTo, wireTowards -/
noncomputable def bP (p : Prop) : Int := @bI p (Classical.propDecidable p)
theorem bP_t {p : Prop} (h : p) : bP p = 1 := @bI_t p (Classical.propDecidable p) h
theorem bP_f {p : Prop} (h : ¬ p) : bP p = 0 := @bI_f p (Classical.propDecidable p) h
theorem bP_01 {p : Prop} : bP p = 0 ∨ bP p = 1 := @bI_01 p (Classical.propDecidable p)
theorem bP_eq0 {p : Prop} (h : bP p = 0) : ¬ p := @bI_eq0 p (Classical.propDecidable p) h
theorem bP_ne0 {p : Prop} (h : bP p ≠ 0) : p := @bI_ne0 p (Classical.propDecidable p) h
theorem bP_iff {p q : Prop} (h : p ↔ q) : bP p = bP q := by rw [propext h]
theorem bI_bP {p : Prop} [Decidable p] : bI p = bP p := by
  by_cases h : p
  · rw [bI_t h, bP_t h]
  · rw [bI_f h, bP_f h]
/-- the other end, -1 if it doesn't end there -/
abbrev oeX (I : II) (v o : Int) : Int := if I 24 v = o then I 25 v else if I 25 v = o then I 24 v else -1
/-- what shorten does -/
def shP (I : II) (v k : Int) (r : Int) (I' : II) : Prop :=
  (r = 1 ∧ I' = upI I 36 (I 25 v) (I 36 (I 24 v) + k) ∧ I 36 (I 24 v) + k < I 36 (I 25 v)) ∨ (r = 1 ∧ I' = upI I 36 (I 24 v) (I 36 (I 25 v) + k) ∧ I 36 (I 25 v) + k < I 36 (I 24 v)) ∨
  (r = 0 ∧ I' = I ∧ I 36 (I 25 v) ≤ I 36 (I 24 v) + k ∧ I 36 (I 24 v) ≤ I 36 (I 25 v) + k)
theorem upI_36 {I : II} {o v : Int} : upI I 36 o v 36 = upF (I 36) o v := by
  funext j
  unfold upI upF
  by_cases e : j = o
  · rw [if_pos ⟨rfl, e⟩, if_pos e]
  · rw [if_neg (fun z => e z.2), if_neg e]
/-- the network of the class: which ways there are for n words by the wires of 'by' -/
abbrev solX (I : II) (n : Int) (by_ : Int) (to : Int) (r : Int → Int) : Prop := pSol (I 21 9) (I 24) (I 25) (Kt I n) (fun v => bt by_ v) to r
theorem netOK {I : II} (h : NetI I) {n : Int} (hn : 1 ≤ n) {U : Int → Prop} : pOK (I 21 9) (I 24) (I 25) (Kt I n) U := fun v hv => by
  have := h.2.1 v hv.1 hv.2.1
  exact ⟨this.1, this.2.1, (tk_bd hn this.2.2.2.1.1).1⟩
theorem p_congr {W : Int} {A B K : Int → Int} {U : Int → Prop} {to : Int} (hO : pOK W A B K U) (ht : 0 ≤ to ∧ to < 8) {s r : Int → Int} (hs : pSol W A B K U to s) (h : ∀ o, 0 ≤ o → o < 8 → r o = s o) : pSol W A B K U to r := by
  refine ⟨⟨by rw [h to ht.1 ht.2]; exact hs.1.1, fun o h0 h1 => by rw [h o h0 h1]; exact hs.1.2.1 o h0 h1, fun o h0 h1 h2 h3 => ?_⟩, fun w hw => ?_⟩
  · rw [h o h0 h1] at h3
    obtain ⟨w, hw, z⟩ := hs.1.2.2 o h0 h1 h2 h3
    obtain ⟨a, b, k⟩ := hO w hw
    refine ⟨w, hw, ?_⟩
    rw [h o h0 h1, h _ a.1 a.2, h _ b.1 b.2]
    exact z
  · obtain ⟨a, b, k⟩ := hO w hw
    rw [h _ a.1 a.2, h _ b.1 b.2]
    exact hs.2 w hw
section
variable {g : GH} {d nm no : Nat} {I : II}
theorem x_joins_loop {a b : Int} {Q : QT} (hd : 1 ≤ d) (hN : NetI I) (ha : 0 ≤ b) (h : Q (some (vi (bP (∃ v, 0 ≤ v ∧ v < I 21 9 ∧ oeX I v a = b)))) (shX nm no) (RX nm no) I) : ∀ (n : Nat) (i : Int), (I 21 9 - i).toNat < n → 0 ≤ i → i ≤ I 21 9 → (∀ v, 0 ≤ v → v < i → oeX I v a ≠ b) → T g d mX4_joins 0 0 2 [some (vr 21), some (vi a), some (vi b), some (vi i)] [] (shX nm no) (RX nm no) I Q := by
  intro n
  have hw := hN.1
  induction n with
  | zero => intro i hn; omega
  | succ n ih =>
    intro i hn h0 h1 hv
    refine m_iload_n dX4_joins_2 rfl ?_
    refine m_aload_n dX4_joins_3 rfl ?_
    refine m_gi (z := 9) dX4_joins_4 fl_X4_52 oX_21 rfl rfl ?_
    refine m_icmp_ge (tgt := 28) dX4_joins_7 (by decide) (fun c7 => ?_) (fun c7 => ?_)
    · rw [bP_f (fun ⟨v, v0, v1, v2⟩ => hv v v0 (by omega) v2)] at h
      refine m_iconst dX4_joins_28 (by decide) ?_
      refine m_zret dX4_joins_29 rfl (by omega) ?_
      exact h
    · refine m_aload_n dX4_joins_10 rfl ?_
      refine m_iload_n dX4_joins_11 rfl ?_
      refine m_iload_n dX4_joins_12 rfl ?_
      refine m_Vi [_, _] dX4_joins_13 lk_X4_56 rfl oX_21 rfl (Nat.le_of_ble_eq_true rfl) (by omega) (x_otherEnd (by omega) (by omega)) ?_
      refine m_iload_n dX4_joins_16 rfl ?_
      refine m_icmp_ne (tgt := 22) dX4_joins_17 (by decide) (fun c17 => ?_) (fun c17 => ?_)
      · refine m_iinc dX4_joins_22 rfl (by decide) rfl rfl (by omega) ?_
        refine m_goto (tgt := 2) dX4_joins_25 (by decide) ?_
        exact ih (i + 1) (by omega) (by omega) (by omega) (fun v v0 v1 => by
          rcases (show v < i ∨ v = i by omega) with z | z
          · exact hv v v0 z
          · rw [z]; exact c17)
      · rw [bP_t ⟨i, h0, by omega, c17⟩] at h
        refine m_iconst dX4_joins_20 (by decide) ?_
        refine m_zret dX4_joins_21 rfl (by omega) ?_
        exact h
theorem x_joins {a b : Int} (hd : 1 ≤ d) (hN : NetI I) (hb : 0 ≤ b) : SP g d mX4_joins 0 0 [vr 21, vi a, vi b] (shX nm no) (RX nm no) I (some (vi (bP (∃ v, 0 ≤ v ∧ v < I 21 9 ∧ oeX I v a = b)))) (shX nm no) (RX nm no) I := by
  intro Q h
  refine C_of rfl (Nat.le_of_ble_eq_true rfl) rfl ?_
  refine m_iconst dX4_joins_0 (by decide) ?_
  refine m_istore_n dX4_joins_1 (by decide) rfl rfl ?_
  exact x_joins_loop hd hN hb h ((I 21 9).toNat + 1) 0 (by omega) (by omega) hN.1.1 (fun v v0 v1 => by omega)
theorem x_shorten {v k : Int} (hN : NetI I) (h0 : 0 ≤ v) (h1 : v < I 21 9) (hk : 0 ≤ k ∧ k ≤ 1000) (hr : ∀ o, 0 ≤ o → o < 8 → 0 ≤ I 36 o ∧ I 36 o ≤ 1000000) : SI g d mX4_shorten [vr 21, vi v, vi k] (shX nm no) (RX nm no) I (shP I v k) := by
  have hw := hN.1
  have hv := hN.2.1 v h0 h1
  have ra := hr (I 24 v) hv.1.1 hv.1.2
  have rb := hr (I 25 v) hv.2.1.1 hv.2.1.2
  intro Q h
  refine C_of rfl (Nat.le_of_ble_eq_true rfl) rfl ?_
  refine m_aload_n dX4_shorten_0 rfl ?_
  refine m_gr (z := 2) dX4_shorten_1 fl_X4_18 oX_21 rfl rfl rX_21_2 ?_
  refine m_iload_n dX4_shorten_4 rfl ?_
  refine m_iald dX4_shorten_5 sX_24 (by omega) (by omega) ?_
  refine m_istore_n dX4_shorten_6 (by decide) rfl rfl ?_
  refine m_aload_n dX4_shorten_7 rfl ?_
  refine m_gr (z := 3) dX4_shorten_8 fl_X4_21 oX_21 rfl rfl rX_21_3 ?_
  refine m_iload_n dX4_shorten_11 rfl ?_
  refine m_iald dX4_shorten_12 sX_25 (by omega) (by omega) ?_
  refine m_istore dX4_shorten_13 (by decide) rfl rfl ?_
  refine m_aload_n dX4_shorten_15 rfl ?_
  refine m_gr (z := 8) dX4_shorten_16 fl_X4_43 oX_21 rfl rfl rX_21_8 ?_
  refine m_iload_n dX4_shorten_19 rfl ?_
  refine m_iald dX4_shorten_20 sX_36 (by omega) (by omega) ?_
  refine m_iload_n dX4_shorten_21 rfl ?_
  refine m_iadd dX4_shorten_22 (by omega) ?_
  refine m_aload_n dX4_shorten_23 rfl ?_
  refine m_gr (z := 8) dX4_shorten_24 fl_X4_43 oX_21 rfl rfl rX_21_8 ?_
  refine m_iload dX4_shorten_27 rfl ?_
  refine m_iald dX4_shorten_29 sX_36 (by omega) (by omega) ?_
  refine m_icmp_ge (tgt := 50) dX4_shorten_30 (by decide) (fun c30 => ?_) (fun c30 => ?_)
  · refine m_aload_n dX4_shorten_50 rfl ?_
    refine m_gr (z := 8) dX4_shorten_51 fl_X4_43 oX_21 rfl rfl rX_21_8 ?_
    refine m_iload dX4_shorten_54 rfl ?_
    refine m_iald dX4_shorten_56 sX_36 (by omega) (by omega) ?_
    refine m_iload_n dX4_shorten_57 rfl ?_
    refine m_iadd dX4_shorten_58 (by omega) ?_
    refine m_aload_n dX4_shorten_59 rfl ?_
    refine m_gr (z := 8) dX4_shorten_60 fl_X4_43 oX_21 rfl rfl rX_21_8 ?_
    refine m_iload_n dX4_shorten_63 rfl ?_
    refine m_iald dX4_shorten_64 sX_36 (by omega) (by omega) ?_
    refine m_icmp_ge (tgt := 85) dX4_shorten_65 (by decide) (fun c65 => ?_) (fun c65 => ?_)
    · refine m_iconst dX4_shorten_85 (by decide) ?_
      refine m_zret dX4_shorten_86 rfl (by omega) ?_
      exact h _ _ (Or.inr (Or.inr ⟨rfl, rfl, by omega, by omega⟩))
    · refine m_aload_n dX4_shorten_68 rfl ?_
      refine m_gr (z := 8) dX4_shorten_69 fl_X4_43 oX_21 rfl rfl rX_21_8 ?_
      refine m_iload_n dX4_shorten_72 rfl ?_
      refine m_aload_n dX4_shorten_73 rfl ?_
      refine m_gr (z := 8) dX4_shorten_74 fl_X4_43 oX_21 rfl rfl rX_21_8 ?_
      refine m_iload dX4_shorten_77 rfl ?_
      refine m_iald dX4_shorten_79 sX_36 (by omega) (by omega) ?_
      refine m_iload_n dX4_shorten_80 rfl ?_
      refine m_iadd dX4_shorten_81 (by omega) ?_
      refine m_iast dX4_shorten_82 sX_36 (by omega) (by omega) ?_
      refine m_iconst dX4_shorten_83 (by decide) ?_
      refine m_zret dX4_shorten_84 rfl (by omega) ?_
      exact h _ _ (Or.inr (Or.inl ⟨rfl, rfl, by omega⟩))
  · refine m_aload_n dX4_shorten_33 rfl ?_
    refine m_gr (z := 8) dX4_shorten_34 fl_X4_43 oX_21 rfl rfl rX_21_8 ?_
    refine m_iload dX4_shorten_37 rfl ?_
    refine m_aload_n dX4_shorten_39 rfl ?_
    refine m_gr (z := 8) dX4_shorten_40 fl_X4_43 oX_21 rfl rfl rX_21_8 ?_
    refine m_iload_n dX4_shorten_43 rfl ?_
    refine m_iald dX4_shorten_44 sX_36 (by omega) (by omega) ?_
    refine m_iload_n dX4_shorten_45 rfl ?_
    refine m_iadd dX4_shorten_46 (by omega) ?_
    refine m_iast dX4_shorten_47 sX_36 (by omega) (by omega) ?_
    refine m_iconst dX4_shorten_48 (by decide) ?_
    refine m_zret dX4_shorten_49 rfl (by omega) ?_
    exact h _ _ (Or.inl ⟨rfl, rfl, by omega⟩)
theorem netI_of {I J : II} (h : NetI I) (e : ∀ x, x ≠ 36 → J x = I x) : NetI J := by
  unfold NetI
  rw [e 21 (by decide), e 24 (by decide), e 25 (by decide), e 26 (by decide), e 27 (by decide), e 22 (by decide), e 23 (by decide)]
  exact h
theorem kt_of {I J : II} {n : Int} (e : ∀ x, x ≠ 36 → J x = I x) : Kt J n = Kt I n := by
  unfold Kt
  rw [e 26 (by decide)]
theorem tn_no {W : Int} {A B K : Int → Int} {U : Int → Prop} {to v : Int} {r0 r : Int → Int} (hT : pTurn W A B K U to r0 r v) (hn : ¬ pIn W U v) : pTurn W A B K U to r0 r (v + 1) :=
  ⟨hT.1, hT.2.1, fun w hw h1 => by
    rcases (show w < v ∨ w = v by omega) with z | z
    · exact hT.2.2 w hw z
    · subst z; exact absurd hw hn⟩
theorem tn_ok {W : Int} {A B K : Int → Int} {U : Int → Prop} {to v : Int} {r0 r : Int → Int} (hO : pOK W A B K U) (hT : pTurn W A B K U to r0 r v) (hin : pIn W U v) (h1 : r (B v) ≤ r (A v) + K v) (h2 : r (A v) ≤ r (B v) + K v) : pTurn W A B K U to r0 r (v + 1) :=
  ⟨hT.1, hT.2.1, fun w hw h3 => by
    rcases (show w < v ∨ w = v by omega) with z | z
    · exact hT.2.2 w hw z
    · subst z
      obtain ⟨a, b, k⟩ := hO w hw
      have := hT.2.1 _ a.1 a.2
      have := hT.2.1 _ b.1 b.2
      omega⟩
theorem tn_up {W : Int} {A B K : Int → Int} {U : Int → Prop} {to v p q : Int} {r0 r : Int → Int} (hO : pOK W A B K U) (hT : pTurn W A B K U to r0 r v) (hin : pIn W U v) (he : (A v = p ∧ B v = q) ∨ (B v = p ∧ A v = q)) (hlt : r p + K v < r q) : pTurn W A B K U to r0 (upF r q (r p + K v)) (v + 1) := by
  have hle : ∀ x, upF r q (r p + K v) x ≤ r x := fun x => upF_le (by omega)
  obtain ⟨a, b, k⟩ := hO v hin
  have hpq : p ≠ q := fun e => by rw [e] at hlt; omega
  refine ⟨p_relax hO hT.1 hin he hlt, fun o h0 h1 => Int.le_trans (hle o) (hT.2.1 o h0 h1), fun w hw h3 => ?_⟩
  rcases (show w < v ∨ w = v by omega) with z | z
  · have := hT.2.2 w hw z
    have := hle (A w)
    have := hle (B w)
    omega
  · subst z
    have ra := hT.2.1 _ a.1 a.2
    have rb := hT.2.1 _ b.1 b.2
    rcases he with ⟨e1, e2⟩ | ⟨e1, e2⟩
    · rw [e1] at ra ⊢
      rw [e2] at rb ⊢
      rw [upF_s, upF_n hpq]
      omega
    · rw [e1] at rb ⊢
      rw [e2] at ra ⊢
      rw [upF_s, upF_n hpq]
      omega
theorem tn_short {I J J' : II} {n r v to : Int} {U : Int → Prop} {r0 : Int → Int} (hO : pOK (I 21 9) (I 24) (I 25) (Kt I n) U) (he : ∀ x, x ≠ 36 → J x = I x) (hT : pTurn (I 21 9) (I 24) (I 25) (Kt I n) U to r0 (J 36) v) (hin : pIn (I 21 9) U v) (q : shP J v (Kt J n v) r J') :
    (∀ x, x ≠ 36 → J' x = I x) ∧ pTurn (I 21 9) (I 24) (I 25) (Kt I n) U to r0 (J' 36) (v + 1) ∧ (r = 0 → J' 36 = J 36) := by
  unfold shP at q
  rw [kt_of he, he 24 (by decide), he 25 (by decide)] at q
  rcases q with ⟨e1, rfl, e3⟩ | ⟨e1, rfl, e3⟩ | ⟨e1, rfl, e3, e4⟩
  · exact ⟨fun x hx => by rw [upI_o hx]; exact he x hx, by rw [upI_36]; exact tn_up hO hT hin (Or.inl ⟨rfl, rfl⟩) e3, fun z => by omega⟩
  · exact ⟨fun x hx => by rw [upI_o hx]; exact he x hx, by rw [upI_36]; exact tn_up hO hT hin (Or.inr ⟨rfl, rfl⟩) e3, fun z => by omega⟩
  · exact ⟨he, tn_ok hO hT hin e3 e4, fun _ => rfl⟩
theorem x_turn {to n by_ t : Int} {r0 : Int → Int} {Q : QT} (hd : 1 ≤ d) (hN : NetI I) (hn : 1 ≤ n ∧ n ≤ 1000) (hb : 0 ≤ by_)
    (hk : ∀ (J : II) (f v : Int), (∀ x, x ≠ 36 → J x = I x) → pTurn (I 21 9) (I 24) (I 25) (Kt I n) (fun v => bt by_ v) to r0 (J 36) (I 21 9) → (f = 0 ∨ f = 1) → (f = 0 → J 36 = r0) → T g d mX4_measureTo 0 0 83 [some (vr 21), some (vi to), some (vi n), some (vi by_), some (vi f), some (vi t), some (vi v)] [] (shX nm no) (RX nm no) J Q) :
    ∀ (m : Nat) (v f : Int) (J : II), (I 21 9 - v).toNat < m → 0 ≤ v → v ≤ I 21 9 → (f = 0 ∨ f = 1) → (∀ x, x ≠ 36 → J x = I x) → pTurn (I 21 9) (I 24) (I 25) (Kt I n) (fun v => bt by_ v) to r0 (J 36) v → (f = 0 → J 36 = r0) → T g d mX4_measureTo 0 0 40 [some (vr 21), some (vi to), some (vi n), some (vi by_), some (vi f), some (vi t), some (vi v)] [] (shX nm no) (RX nm no) J Q := by
  have hw := hN.1
  have hO := netOK hN hn.1 (U := fun v => bt by_ v)
  intro m
  induction m with
  | zero => intro v f J hm; omega
  | succ m ih =>
    intro v f J hm h0 h1 hf he hT hz
    have eW : J 21 9 = I 21 9 := by rw [he 21 (by decide)]
    have hNJ := netI_of hN he
    refine m_iload dX4_measureTo_40 rfl ?_
    refine m_aload_n dX4_measureTo_42 rfl ?_
    refine m_gi (z := 9) dX4_measureTo_43 fl_X4_52 oX_21 rfl rfl ?_
    refine m_icmp_ge (tgt := 83) dX4_measureTo_46 (by decide) (fun c46 => ?_) (fun c46 => ?_)
    · have ev : v = I 21 9 := by omega
      rw [ev] at hT
      exact hk J f v he hT hf hz
    · refine m_iload_n dX4_measureTo_49 rfl ?_
      refine m_iload dX4_measureTo_50 rfl ?_
      refine m_Ni [_, _] dX4_measureTo_52 lk_X4_77 rfl rfl (Nat.le_of_ble_eq_true rfl) (by omega) (x_isIn hb h0 (by omega)) ?_
      refine m_if_eq (tgt := 77) dX4_measureTo_55 (by decide) (fun c55 => ?_) (fun c55 => ?_)
      · have z1 := bI_eq0 c55
        have HT := tn_no hT (fun z => z1 z.2.2)
        have HE := he
        have HF := hf
        have HZ := hz
        refine m_iinc dX4_measureTo_77 rfl (by decide) rfl rfl (by omega) ?_
        refine m_goto (tgt := 40) dX4_measureTo_80 (by decide) ?_
        exact ih (v + 1) _ _ (by omega) (by omega) (by omega) HF HE HT HZ
      · have z1 := bI_ne0 c55
        have hin : pIn (I 21 9) (fun v => bt by_ v) v := ⟨h0, by omega, z1⟩
        refine m_aload_n dX4_measureTo_58 rfl ?_
        refine m_iload dX4_measureTo_59 rfl ?_
        refine m_aload_n dX4_measureTo_61 rfl ?_
        refine m_iload dX4_measureTo_62 rfl ?_
        refine m_iload_n dX4_measureTo_64 rfl ?_
        refine m_Vi [_, _] dX4_measureTo_65 lk_X4_80 rfl oX_21 rfl (Nat.le_of_ble_eq_true rfl) (by omega) (x_taken h0 (by omega) hNJ hn) ?_
        refine m_VI [_, _] dX4_measureTo_68 lk_X4_83 rfl oX_21 rfl (Nat.le_of_ble_eq_true rfl) (by omega) (x_shorten hNJ h0 (by omega) (by have := tk_bd hn.1 (hNJ.2.1 v h0 (by omega)).2.2.2.1.1; unfold Kt; omega) hT.1.2.1) ?_
        intro r68 I68 q68
        obtain ⟨HE, HT, hz2⟩ := tn_short hO he hT hin q68
        refine m_if_eq (tgt := 77) dX4_measureTo_71 (by decide) (fun c71 => ?_) (fun c71 => ?_)
        · have HF := hf
          have HZ : f = 0 → I68 36 = r0 := fun z => (hz2 c71).trans (hz z)
          refine m_iinc dX4_measureTo_77 rfl (by decide) rfl rfl (by omega) ?_
          refine m_goto (tgt := 40) dX4_measureTo_80 (by decide) ?_
          exact ih (v + 1) _ _ (by omega) (by omega) (by omega) HF HE HT HZ
        · have HF : (1 : Int) = 0 ∨ (1 : Int) = 1 := Or.inr rfl
          have HZ : (1 : Int) = 0 → I68 36 = r0 := fun z => by omega
          refine m_iconst dX4_measureTo_74 (by decide) ?_
          refine m_istore dX4_measureTo_75 (by decide) rfl rfl ?_
          refine m_iinc dX4_measureTo_77 rfl (by decide) rfl rfl (by omega) ?_
          refine m_goto (tgt := 40) dX4_measureTo_80 (by decide) ?_
          exact ih (v + 1) _ _ (by omega) (by omega) (by omega) HF HE HT HZ
theorem x_turns {to n by_ : Int} {s : Int → Int} {Q : QT} (hd : 1 ≤ d) (hN : NetI I) (hn : 1 ≤ n ∧ n ≤ 1000) (hb : 0 ≤ by_) (ht : 0 ≤ to ∧ to < 8) (hs : solX I n by_ to s)
    (h : ∀ I', ((∀ x, x ≠ 36 → I' x = I x) ∧ solX I n by_ to (I' 36)) → Q none (shX nm no) (RX nm no) I') :
    ∀ (m : Nat) (t f : Int) (J : II) (lv : Option AV), (8 - t).toNat < m → 0 ≤ t → t ≤ 8 → (f = 0 ∨ f = 1) → (∀ x, x ≠ 36 → J x = I x) → pInv (I 21 9) (I 24) (I 25) (Kt I n) (fun v => bt by_ v) to (J 36) → ((pBad s (J 36) : Int) ≤ 7 - t ∨ pBad s (J 36) = 0) → (f = 0 → pFix (I 21 9) (I 24) (I 25) (Kt I n) (fun v => bt by_ v) (J 36)) → T g d mX4_measureTo 0 0 22 [some (vr 21), some (vi to), some (vi n), some (vi by_), some (vi f), some (vi t), lv] [] (shX nm no) (RX nm no) J Q := by
  have hw := hN.1
  have hO := netOK hN hn.1 (U := fun v => bt by_ v)
  intro m
  induction m with
  | zero => intro t f J lv hm; omega
  | succ m ih =>
    intro t f J lv hm h0 h1 hf he hi hbad hz
    have eW : J 21 9 = I 21 9 := by rw [he 21 (by decide)]
    refine m_iload dX4_measureTo_22 rfl ?_
    refine m_bipush dX4_measureTo_24 rfl (by decide) ?_
    refine m_icmp_ge (tgt := 89) dX4_measureTo_26 (by decide) (fun c26 => ?_) (fun c26 => ?_)
    · have hb0 : pBad s (J 36) = 0 := by omega
      have hsol : solX I n by_ to (J 36) := p_congr hO ht hs (fun o o0 o1 => Classical.byContradiction (pc8_0 8 hb0 o o0 (by omega)))
      refine m_vret dX4_measureTo_89 rfl ?_
      exact h J ⟨he, hsol⟩
    · refine m_iload dX4_measureTo_29 rfl ?_
      refine m_if_eq (tgt := 89) dX4_measureTo_31 (by decide) (fun c31 => ?_) (fun c31 => ?_)
      · have hsol : solX I n by_ to (J 36) := ⟨hi, hz c31⟩
        refine m_vret dX4_measureTo_89 rfl ?_
        exact h J ⟨he, hsol⟩
      · refine m_iconst dX4_measureTo_34 (by decide) ?_
        refine m_istore dX4_measureTo_35 (by decide) rfl rfl ?_
        refine m_iconst dX4_measureTo_37 (by decide) ?_
        refine m_istore dX4_measureTo_38 (by decide) rfl rfl ?_
        refine x_turn (r0 := J 36) hd hN hn hb (fun J2 f2 v2 he2 hT2 hf2 hz2 => ?_) ((I 21 9).toNat + 1) 0 0 J (by omega) (by omega) hw.1 (Or.inl rfl) he ⟨hi, fun o _ _ => Int.le_refl _, fun w hw2 h9 => by have := hw2.1; omega⟩ (fun _ => rfl)
        have hb2 : (pBad s (J2 36) : Int) ≤ 7 - (t + 1) ∨ pBad s (J2 36) = 0 := by
          have hle : pBad s (J2 36) ≤ pBad s (J 36) := pc8_le 8 (fun o o0 o1 z => fun e => z (by
            have a := p_low hO hs hT2.1 ht o o0 (by omega)
            have b := hT2.2.1 o o0 (by omega)
            omega))
          rcases Nat.eq_zero_or_pos (pBad s (J 36)) with z | z
          · exact Or.inr (by omega)
          · have := p_bad hO ht hs hi hT2 z
            omega
        have hz3 : f2 = 0 → pFix (I 21 9) (I 24) (I 25) (Kt I n) (fun v => bt by_ v) (J2 36) := fun z w hw2 => by
          have := hT2.2.2 w hw2 hw2.2.1
          rw [hz2 z]
          rw [hz2 z] at this
          omega
        refine m_iinc dX4_measureTo_83 rfl (by decide) rfl rfl (by omega) ?_
        refine m_goto (tgt := 22) dX4_measureTo_86 (by decide) ?_
        exact ih (t + 1) f2 J2 _ (by omega) (by omega) (by omega) hf2 he2 hT2.1 hb2 hz3
theorem p_start {W : Int} {A B K : Int → Int} {U : Int → Prop} {to : Int} (ht : 0 ≤ to ∧ to < 8) {r : Int → Int} (h0 : r to = 0) (h1 : ∀ o, 0 ≤ o → o < 8 → o ≠ to → r o = 1000000) : pInv W A B K U to r := by
  refine ⟨h0, fun o o0 o1 => ?_, fun o o0 o1 o2 o3 => ?_⟩
  · by_cases e : o = to
    · rw [e, h0]; omega
    · rw [h1 o o0 o1 e]; omega
  · have := h1 o o0 o1 o2; omega
/-- measureTo: reached holds the cost of the shortest ways, and nothing else changes -/
theorem x_measureTo {to n by_ : Int} (hd : 2 ≤ d) (hN : NetI I) (hn : 1 ≤ n ∧ n ≤ 1000) (hb : 0 ≤ by_) (ht : 0 ≤ to ∧ to < 8) : SV g d mX4_measureTo [vr 21, vi to, vi n, vi by_] (shX nm no) (RX nm no) I (fun I' => (∀ x, x ≠ 36 → I' x = I x) ∧ solX I n by_ to (I' 36)) := by
  have hw := hN.1
  have hO := netOK hN hn.1 (U := fun v => bt by_ v)
  intro Q h
  refine C_of rfl (Nat.le_of_ble_eq_true rfl) rfl ?_
  refine m_aload_n dX4_measureTo_0 rfl ?_
  refine m_gr (z := 8) dX4_measureTo_1 fl_X4_43 oX_21 rfl rfl rX_21_8 ?_
  refine m_ldc (a := 1000000) dX4_measureTo_4 kc_X4_76 rfl ?_
  refine m_Sv [_, _] dX4_measureTo_6 lk_X4_46 rfl rfl (Nat.le_of_ble_eq_true rfl) (by omega) (x_fill sX_36 (by decide)) ?_
  refine m_aload_n dX4_measureTo_9 rfl ?_
  refine m_gr (z := 8) dX4_measureTo_10 fl_X4_43 oX_21 rfl rfl rX_21_8 ?_
  refine m_iload_n dX4_measureTo_13 rfl ?_
  refine m_iconst dX4_measureTo_14 (by decide) ?_
  refine m_iast dX4_measureTo_15 sX_36 (by omega) (by omega) ?_
  refine m_iconst dX4_measureTo_16 (by decide) ?_
  refine m_istore dX4_measureTo_17 (by decide) rfl rfl ?_
  refine m_iconst dX4_measureTo_19 (by decide) ?_
  refine m_istore dX4_measureTo_20 (by decide) rfl rfl ?_
  have es : ∀ o : Int, 0 ≤ o → o < 8 → o ≠ to → upI (cpI I 36 (fun _ => 1000000) (8 : Nat)) 36 to 0 36 o = 1000000 := fun o o0 o1 o2 => by rw [upI_j o2]; exact cpI_in o0 (by omega)
  have hi : pInv (I 21 9) (I 24) (I 25) (Kt I n) (fun v => bt by_ v) to (upI (cpI I 36 (fun _ => 1000000) (8 : Nat)) 36 to 0 36) := p_start ht upI_s es
  obtain ⟨s, hs⟩ := p_ex hO ht _ _ (Nat.lt_succ_self _) hi
  have hbad : (pBad s (upI (cpI I 36 (fun _ => 1000000) (8 : Nat)) 36 to 0 36) : Int) ≤ 7 - 0 ∨ pBad s (upI (cpI I 36 (fun _ => 1000000) (8 : Nat)) 36 to 0 36) = 0 := by
    have h9 : pBad s (upI (cpI I 36 (fun _ => 1000000) (8 : Nat)) 36 to 0 36) < pc8 (fun _ => (1 : Int) = 1) 8 := pc8_lt 8 (fun _ _ _ _ => rfl) ⟨to, ht.1, by omega, rfl, fun z => z (by rw [upI_s, hs.1.1])⟩
    have h8 : pc8 (fun _ => (1 : Int) = 1) 8 = 8 := by decide
    omega
  exact x_turns (by omega) hN hn hb ht hs h 9 0 1 _ none (by omega) (by omega) (by omega) (Or.inr rfl) (fun x hx => by rw [upI_o hx, cpI_o hx]) hi hbad (fun z => by omega)
end
