/-! TEXT: lines of orders -/
section
variable {g : GH} {d nm no : Nat} {I : II}
def tkB (f : Int → Int) (n : Int) (J : II) (p : Int) : Prop := J 46 2 = tS f n p ∧ J 46 3 = tE f n p
theorem x_pw {f : Int → Int} {n p : Int} (i : Nat) (hd : 5 ≤ d) (hi : i < 12) (hf : I 47 = f) (hn : I 46 1 = n) (hT : TxI I) (hp : 0 ≤ p ∧ p ≤ n) (hA : tkB f n I p) : SI g d mX10_passes [vr 46, vr (4 + i)] (shX nm no) (RX nm no) I (fun r J => (wdP f n p i ∧ r = 1 ∧ FrX I J ∧ J 46 4 = I 46 4 ∧ J 46 5 = I 46 5 ∧ tkB f n J (tE f n p)) ∨ (¬ wdP f n p i ∧ r = 0 ∧ J = I)) := by
  subst hf; subst hn; exact x_passes hd hT hi hp hA
theorem x_pnu {f : Int → Int} {n p mo : Int} (hd : 2 ≤ d) (hf : I 47 = f) (hn : I 46 1 = n) (hT : TxI I) (hp : 0 ≤ p ∧ p ≤ n) (hA : tkB f n I p) : SI g d mX10_passesNumber [vr 46, vi mo] (shX nm no) (RX nm no) I (fun r J => (nuP f n p mo ∧ r = 1 ∧ FrX I J ∧ J 46 4 = I 46 4 ∧ J 46 5 = nvF f n p ∧ tkB f n J (tE f n p)) ∨ (¬ nuP f n p mo ∧ r = 0 ∧ J = I)) := by
  subst hf; subst hn; exact x_passesNumber hd hT hp hA
theorem TxI_fr {I J : II} (h : TxI I) (e : FrX I J) : TxI J := by
  unfold TxI at *
  rw [e.1 47 (by decide), e.2 1 (by decide) (by decide) (by decide) (by decide)]; exact h
theorem frX_f {I J : II} {f : Int → Int} (e : FrX I J) (h : I 47 = f) : J 47 = f := (e.1 47 (by decide)).trans h
theorem frX_n {I J : II} {n : Int} (e : FrX I J) (h : I 46 1 = n) : J 46 1 = n := (e.2 1 (by decide) (by decide) (by decide) (by decide)).trans h
theorem frX_up {I J : II} {i v : Int} (e : FrX I J) (h : i = 2 ∨ i = 3 ∨ i = 4 ∨ i = 5) : FrX I (upI J 46 i v) := ⟨fun x hx => by rw [upI_o hx]; exact e.1 x hx, fun j a b c e5 => by rw [upI_j (by omega)]; exact e.2 j a b c e5⟩
theorem x_pk_end {f : Int → Int} {n p : Int} {Q : QT} (h : ∀ r J, (fun r J => (kdT f n p ≠ -1 ∧ r = 1 ∧ FrX I J ∧ J 46 4 = kdT f n p ∧ tkB f n J (tE f n p)) ∨ (kdT f n p = -1 ∧ r = 0 ∧ FrX I J ∧ tkB f n J p)) r J → Q (some (vi r)) (shX nm no) (RX nm no) J) {k : Int} {J : II} (hF : FrX I J) (hk : (k = kdT f n p ∧ k ≠ -1 ∧ tkB f n J (tE f n p)) ∨ (k = -1 ∧ kdT f n p = -1 ∧ tkB f n J p)) : T g d mX10_passesKind 0 0 67 [some (vr 46)] [vi k, vr 46] (shX nm no) (RX nm no) J Q := by
  refine m_pi (z := 4) dX10_passesKind_67 fl_X10_87 oX_46 rfl rfl rfl ?_
  refine m_aload_n dX10_passesKind_70 rfl ?_
  refine m_gi (z := 4) dX10_passesKind_71 fl_X10_87 oX_46 rfl rfl ?_
  rw [upI_s]
  refine m_iconst dX10_passesKind_74 (by decide) ?_
  refine m_icmp_eq (tgt := 82) dX10_passesKind_75 (by decide) (fun c75 => ?_) (fun c75 => ?_)
  · refine m_iconst dX10_passesKind_82 (by decide) ?_
    refine m_zret dX10_passesKind_83 rfl (Or.inl rfl) ?_
    rcases hk with z | z
    · exact absurd c75 z.2.1
    · exact h _ _ (Or.inr ⟨z.2.1, rfl, frX_up hF (by decide), (upI_j (by decide)).trans z.2.2.1, (upI_j (by decide)).trans z.2.2.2⟩)
  · refine m_iconst dX10_passesKind_78 (by decide) ?_
    refine m_goto (tgt := 83) dX10_passesKind_79 (by decide) ?_
    refine m_zret dX10_passesKind_83 rfl (Or.inr rfl) ?_
    rcases hk with z | z
    · exact h _ _ (Or.inl ⟨fun y => z.2.1 (z.1.trans y), rfl, frX_up hF (by decide), upI_s.trans z.1, (upI_j (by decide)).trans z.2.2.1, (upI_j (by decide)).trans z.2.2.2⟩)
    · exact absurd z.1 c75
theorem x_passesKind {f : Int → Int} {n p : Int} (hf : I 47 = f) (hn : I 46 1 = n) (hT : TxI I) (hp : 0 ≤ p ∧ p ≤ n) (hA : tkB f n I p) (hd : 6 ≤ d) : SI g d mX10_passesKind [vr 46] (shX nm no) (RX nm no) I (fun r J => (kdT f n p ≠ -1 ∧ r = 1 ∧ FrX I J ∧ J 46 4 = kdT f n p ∧ tkB f n J (tE f n p)) ∨ (kdT f n p = -1 ∧ r = 0 ∧ FrX I J ∧ tkB f n J p)) := by
  intro Q h
  refine C_of rfl (Nat.le_of_ble_eq_true rfl) rfl ?_
  refine m_aload_n dX10_passesKind_0 rfl ?_
  refine m_aload_n dX10_passesKind_1 rfl ?_
  refine m_ldcS (i := 1) (by decide) rfl dX10_passesKind_2 ?_
  refine m_VI [_] dX10_passesKind_4 lk_X10_43 rfl oX_46 rfl (Nat.le_of_ble_eq_true rfl) (by omega) (x_pw 1 (by omega) (by decide) hf hn hT hp hA) ?_
  intro r4 I4 q4
  refine m_if_eq (tgt := 14) dX10_passesKind_7 (by decide) (fun c7 => ?_) (fun c7 => ?_)
  · obtain ⟨n4, e4⟩ : ¬ wdP f n p 1 ∧ I = I4 := (by rcases q4 with q | q; exact absurd (q.2.1.symm.trans c7) (by decide); exact ⟨q.1, q.2.2.symm⟩)
    subst e4
    refine m_aload_n dX10_passesKind_14 rfl ?_
    refine m_ldcS (i := 2) (by decide) rfl dX10_passesKind_15 ?_
    refine m_VI [_] dX10_passesKind_17 lk_X10_43 rfl oX_46 rfl (Nat.le_of_ble_eq_true rfl) (by omega) (x_pw 2 (by omega) (by decide) hf hn hT hp hA) ?_
    intro r17 I17 q17
    refine m_if_eq (tgt := 27) dX10_passesKind_20 (by decide) (fun c20 => ?_) (fun c20 => ?_)
    · obtain ⟨n17, e17⟩ : ¬ wdP f n p 2 ∧ I = I17 := (by rcases q17 with q | q; exact absurd (q.2.1.symm.trans c20) (by decide); exact ⟨q.1, q.2.2.symm⟩)
      subst e17
      refine m_aload_n dX10_passesKind_27 rfl ?_
      refine m_ldcS (i := 3) (by decide) rfl dX10_passesKind_28 ?_
      refine m_VI [_] dX10_passesKind_30 lk_X10_43 rfl oX_46 rfl (Nat.le_of_ble_eq_true rfl) (by omega) (x_pw 3 (by omega) (by decide) hf hn hT hp hA) ?_
      intro r30 I30 q30
      refine m_if_eq (tgt := 40) dX10_passesKind_33 (by decide) (fun c33 => ?_) (fun c33 => ?_)
      · obtain ⟨n30, e30⟩ : ¬ wdP f n p 3 ∧ I = I30 := (by rcases q30 with q | q; exact absurd (q.2.1.symm.trans c33) (by decide); exact ⟨q.1, q.2.2.symm⟩)
        subst e30
        refine m_aload_n dX10_passesKind_40 rfl ?_
        refine m_ldcS (i := 4) (by decide) rfl dX10_passesKind_41 ?_
        refine m_VI [_] dX10_passesKind_43 lk_X10_43 rfl oX_46 rfl (Nat.le_of_ble_eq_true rfl) (by omega) (x_pw 4 (by omega) (by decide) hf hn hT hp hA) ?_
        intro r43 I43 q43
        refine m_if_eq (tgt := 53) dX10_passesKind_46 (by decide) (fun c46 => ?_) (fun c46 => ?_)
        · obtain ⟨n43, e43⟩ : ¬ wdP f n p 4 ∧ I = I43 := (by rcases q43 with q | q; exact absurd (q.2.1.symm.trans c46) (by decide); exact ⟨q.1, q.2.2.symm⟩)
          subst e43
          refine m_aload_n dX10_passesKind_53 rfl ?_
          refine m_ldcS (i := 5) (by decide) rfl dX10_passesKind_54 ?_
          refine m_VI [_] dX10_passesKind_56 lk_X10_43 rfl oX_46 rfl (Nat.le_of_ble_eq_true rfl) (by omega) (x_pw 5 (by omega) (by decide) hf hn hT hp hA) ?_
          intro r56 I56 q56
          refine m_if_eq (tgt := 66) dX10_passesKind_59 (by decide) (fun c59 => ?_) (fun c59 => ?_)
          · obtain ⟨n56, e56⟩ : ¬ wdP f n p 5 ∧ I = I56 := (by rcases q56 with q | q; exact absurd (q.2.1.symm.trans c59) (by decide); exact ⟨q.1, q.2.2.symm⟩)
            subst e56
            refine m_iconst dX10_passesKind_66 (by decide) ?_
            exact x_pk_end h FrX_rf (Or.inr ⟨rfl, by unfold kdT; rw [cif_f n4, cif_f n17, cif_f n30, cif_f n43, cif_f n56], hA⟩)
          · obtain ⟨w56, f56, t56⟩ : wdP f n p 5 ∧ FrX I I56 ∧ tkB f n I56 (tE f n p) := (by rcases q56 with q | q; exact ⟨q.1, q.2.2.1, q.2.2.2.2.2⟩; exact absurd q.2.1 c59)
            refine m_iconst dX10_passesKind_62 (by decide) ?_
            refine m_goto (tgt := 67) dX10_passesKind_63 (by decide) ?_
            exact x_pk_end h f56 (Or.inl ⟨by unfold kdT; rw [cif_f n4, cif_f n17, cif_f n30, cif_f n43, cif_t w56], by decide, t56⟩)
        · obtain ⟨w43, f43, t43⟩ : wdP f n p 4 ∧ FrX I I43 ∧ tkB f n I43 (tE f n p) := (by rcases q43 with q | q; exact ⟨q.1, q.2.2.1, q.2.2.2.2.2⟩; exact absurd q.2.1 c46)
          refine m_iconst dX10_passesKind_49 (by decide) ?_
          refine m_goto (tgt := 67) dX10_passesKind_50 (by decide) ?_
          exact x_pk_end h f43 (Or.inl ⟨by unfold kdT; rw [cif_f n4, cif_f n17, cif_f n30, cif_t w43], by decide, t43⟩)
      · obtain ⟨w30, f30, t30⟩ : wdP f n p 3 ∧ FrX I I30 ∧ tkB f n I30 (tE f n p) := (by rcases q30 with q | q; exact ⟨q.1, q.2.2.1, q.2.2.2.2.2⟩; exact absurd q.2.1 c33)
        refine m_iconst dX10_passesKind_36 (by decide) ?_
        refine m_goto (tgt := 67) dX10_passesKind_37 (by decide) ?_
        exact x_pk_end h f30 (Or.inl ⟨by unfold kdT; rw [cif_f n4, cif_f n17, cif_t w30], by decide, t30⟩)
    · obtain ⟨w17, f17, t17⟩ : wdP f n p 2 ∧ FrX I I17 ∧ tkB f n I17 (tE f n p) := (by rcases q17 with q | q; exact ⟨q.1, q.2.2.1, q.2.2.2.2.2⟩; exact absurd q.2.1 c20)
      refine m_iconst dX10_passesKind_23 (by decide) ?_
      refine m_goto (tgt := 67) dX10_passesKind_24 (by decide) ?_
      exact x_pk_end h f17 (Or.inl ⟨by unfold kdT; rw [cif_f n4, cif_t w17], by decide, t17⟩)
  · obtain ⟨w4, f4, t4⟩ : wdP f n p 1 ∧ FrX I I4 ∧ tkB f n I4 (tE f n p) := (by rcases q4 with q | q; exact ⟨q.1, q.2.2.1, q.2.2.2.2.2⟩; exact absurd q.2.1 c7)
    refine m_iconst dX10_passesKind_10 (by decide) ?_
    refine m_goto (tgt := 67) dX10_passesKind_11 (by decide) ?_
    exact x_pk_end h f4 (Or.inl ⟨by unfold kdT; rw [cif_t w4], by decide, t4⟩)
theorem kd_bd {f : Int → Int} {n p : Int} : -1 ≤ kdT f n p ∧ kdT f n p < 5 := by
  unfold kdT cif
  (repeat' split) <;> omega
theorem nu_bd {f : Int → Int} {n p mo : Int} (hp : p ≤ n) (h : nuP f n p mo) : 0 ≤ nvF f n p ∧ nvF f n p ≤ mo ∧ nvF f n p ≤ 99 := by
  have hb := t_bd (f := f) hp
  obtain ⟨⟨h1, h2, h3⟩, h4⟩ := h
  have hdg : ∀ i : Nat, i < (tE f n p - tS f n p).toNat → isDg (f (tS f n p + i)) := fun i hi => by
    rcases tE_sp (f := f) hp with z | ⟨_, _, z | z | z⟩
    · omega
    · exact (le_dg z.1 h2).elim
    · exact z.2.1 _ (by omega) (by omega)
    · exact absurd h2 z.2.1
  have hv := nvL_bd (f := f) (s := tS f n p) (tE f n p - tS f n p).toNat (by omega) hdg
  have e : nvF f n p = nvL f (tS f n p) (tE f n p - tS f n p).toNat := rfl
  omega
theorem x_readsRank {f : Int → Int} {n p : Int} (hf : I 47 = f) (hn : I 46 1 = n) (hT : TxI I) (hp : 0 ≤ p ∧ p ≤ n) (hA : tkB f n I p) {q a b c : Nat} (ho : OrdAt (shX nm no) (RX nm no) q a b c) (hq : q ≠ 46 ∧ q ≠ 47) (ha : a ≠ 46 ∧ a ≠ 47) (hb : b ≠ 46 ∧ b ≠ 47) (hd : 7 ≤ d) : SI g d mX10_readsRank [vr 46, vr q] (shX nm no) (RX nm no) I (fun r J => (kdT f n p ≠ -1 ∧ nuP f n (tE f n p) 9 ∧ r = 1 ∧ FrX (upI I a (kdT f n p) (nvF f n (tE f n p))) J ∧ tkB f n J (tE f n (tE f n p))) ∨ (r = 0 ∧ FrX I J ∧ ((kdT f n p = -1 ∧ J 46 2 = tS f n p) ∨ (kdT f n p ≠ -1 ∧ ¬ nuP f n (tE f n p) 9 ∧ J 46 2 = tS f n (tE f n p))))) := by
  have hb1 := t_bd (f := f) hp.2
  have hb2 := t_bd (f := f) hb1.2.2.1
  have hk := kd_bd (f := f) (n := n) (p := p)
  intro Q h
  refine C_of rfl (Nat.le_of_ble_eq_true rfl) rfl ?_
  refine m_aload_n dX10_readsRank_0 rfl ?_
  refine m_VI [] dX10_readsRank_1 lk_X10_75 rfl oX_46 rfl (Nat.le_of_ble_eq_true rfl) (by omega) (x_passesKind hf hn hT hp hA (by omega)) ?_
  intro r1 I1 q1
  refine m_if_eq (tgt := 16) dX10_readsRank_4 (by decide) (fun c4 => ?_) (fun c4 => ?_)
  · obtain ⟨k1, f1, t1⟩ : kdT f n p = -1 ∧ FrX I I1 ∧ tkB f n I1 p := (by rcases q1 with q | q; exact absurd (q.2.1.symm.trans c4) (by decide); exact ⟨q.1, q.2.2.1, q.2.2.2⟩)
    refine m_iconst dX10_readsRank_16 (by decide) ?_
    refine m_zret dX10_readsRank_17 rfl (by omega) ?_
    first
    | exact h _ _ (Or.inr ⟨rfl, f1, Or.inl ⟨k1, t1.1⟩⟩)
    | exact h _ _ (Or.inr ⟨rfl, f1, Or.inr ⟨k1, n10, t1.1⟩⟩)
  · obtain ⟨k1, f1, v1, t1⟩ : kdT f n p ≠ -1 ∧ FrX I I1 ∧ I1 46 4 = kdT f n p ∧ tkB f n I1 (tE f n p) := (by rcases q1 with q | q; exact ⟨q.1, q.2.2.1, q.2.2.2.1, q.2.2.2.2⟩; exact absurd q.2.1 c4)
    refine m_aload_n dX10_readsRank_7 rfl ?_
    refine m_bipush dX10_readsRank_8 rfl (by decide) ?_
    refine m_VI [_] dX10_readsRank_10 lk_X10_79 rfl oX_46 rfl (Nat.le_of_ble_eq_true rfl) (by omega) (x_pnu (by omega) (frX_f f1 hf) (frX_n f1 hn) (TxI_fr hT f1) ⟨by omega, by omega⟩ t1) ?_
    intro r10 I10 q10
    refine m_if_ne (tgt := 18) dX10_readsRank_13 (by decide) (fun c13 => ?_) (fun c13 => ?_)
    · obtain ⟨n10, f10, v10, u10, t10⟩ : nuP f n (tE f n p) 9 ∧ FrX I1 I10 ∧ I10 46 4 = I1 46 4 ∧ I10 46 5 = nvF f n (tE f n p) ∧ tkB f n I10 (tE f n (tE f n p)) := (by rcases q10 with q | q; exact ⟨q.1, q.2.2.1, q.2.2.2.1, q.2.2.2.2.1, q.2.2.2.2.2⟩; exact absurd q.2.1 c13)
      rw [v1] at v10
      refine m_aload_n dX10_readsRank_18 rfl ?_
      refine m_gr (z := 0) dX10_readsRank_19 fl_X10_83 ho.1 rfl rfl ho.2.1 ?_
      refine m_aload_n dX10_readsRank_22 rfl ?_
      refine m_gi (z := 4) dX10_readsRank_23 fl_X10_87 oX_46 rfl rfl ?_
      rw [v10]
      refine m_aload_n dX10_readsRank_26 rfl ?_
      refine m_gi (z := 5) dX10_readsRank_27 fl_X10_90 oX_46 rfl rfl ?_
      rw [u10]
      refine m_iast dX10_readsRank_30 ho.2.2.2.2.1 (by omega) (by omega) ?_
      refine m_iconst dX10_readsRank_31 (by decide) ?_
      refine m_zret dX10_readsRank_32 rfl (by omega) ?_
      refine h _ _ (Or.inl ⟨k1, n10, rfl, ⟨fun x hx => ?_, fun j a1 b1 c1 e1 => ?_⟩, ?_, ?_⟩)
      · funext y
        by_cases e : x = a ∧ y = kdT f n p
        · rw [e.1, e.2, upI_s, upI_s]
        · show (if x = a ∧ y = kdT f n p then _ else I10 x y) = (if x = a ∧ y = kdT f n p then _ else I x y)
          rw [if_neg e, if_neg e, f10.1 x hx, f1.1 x hx]
      · rw [upI_o ha.1.symm, upI_o ha.1.symm, f10.2 j a1 b1 c1 e1, f1.2 j a1 b1 c1 e1]
      · rw [upI_o ha.1.symm]; exact t10.1
      · rw [upI_o ha.1.symm]; exact t10.2
    · obtain ⟨n10, e10⟩ : ¬ nuP f n (tE f n p) 9 ∧ I1 = I10 := (by rcases q10 with q | q; exact absurd q.2.1 (by omega); exact ⟨q.1, q.2.2.symm⟩)
      subst e10
      refine m_iconst dX10_readsRank_16 (by decide) ?_
      refine m_zret dX10_readsRank_17 rfl (by omega) ?_
      first
      | exact h _ _ (Or.inr ⟨rfl, f1, Or.inl ⟨k1, t1.1⟩⟩)
      | exact h _ _ (Or.inr ⟨rfl, f1, Or.inr ⟨k1, n10, t1.1⟩⟩)
theorem x_readsPay {f : Int → Int} {n p : Int} (hf : I 47 = f) (hn : I 46 1 = n) (hT : TxI I) (hp : 0 ≤ p ∧ p ≤ n) (hA : tkB f n I p) {q a b c : Nat} (ho : OrdAt (shX nm no) (RX nm no) q a b c) (hq : q ≠ 46 ∧ q ≠ 47) (ha : a ≠ 46 ∧ a ≠ 47) (hb : b ≠ 46 ∧ b ≠ 47) (hd : 7 ≤ d) : SI g d mX10_readsPay [vr 46, vr q] (shX nm no) (RX nm no) I (fun r J => (kdT f n p ≠ -1 ∧ nuP f n (tE f n p) 99 ∧ r = 1 ∧ FrX (upI I b (kdT f n p) (nvF f n (tE f n p))) J ∧ tkB f n J (tE f n (tE f n p))) ∨ (r = 0 ∧ FrX I J ∧ ((kdT f n p = -1 ∧ J 46 2 = tS f n p) ∨ (kdT f n p ≠ -1 ∧ ¬ nuP f n (tE f n p) 99 ∧ J 46 2 = tS f n (tE f n p))))) := by
  have hb1 := t_bd (f := f) hp.2
  have hb2 := t_bd (f := f) hb1.2.2.1
  have hk := kd_bd (f := f) (n := n) (p := p)
  intro Q h
  refine C_of rfl (Nat.le_of_ble_eq_true rfl) rfl ?_
  refine m_aload_n dX10_readsPay_0 rfl ?_
  refine m_VI [] dX10_readsPay_1 lk_X10_75 rfl oX_46 rfl (Nat.le_of_ble_eq_true rfl) (by omega) (x_passesKind hf hn hT hp hA (by omega)) ?_
  intro r1 I1 q1
  refine m_if_eq (tgt := 16) dX10_readsPay_4 (by decide) (fun c4 => ?_) (fun c4 => ?_)
  · obtain ⟨k1, f1, t1⟩ : kdT f n p = -1 ∧ FrX I I1 ∧ tkB f n I1 p := (by rcases q1 with q | q; exact absurd (q.2.1.symm.trans c4) (by decide); exact ⟨q.1, q.2.2.1, q.2.2.2⟩)
    refine m_iconst dX10_readsPay_16 (by decide) ?_
    refine m_zret dX10_readsPay_17 rfl (by omega) ?_
    first
    | exact h _ _ (Or.inr ⟨rfl, f1, Or.inl ⟨k1, t1.1⟩⟩)
    | exact h _ _ (Or.inr ⟨rfl, f1, Or.inr ⟨k1, n10, t1.1⟩⟩)
  · obtain ⟨k1, f1, v1, t1⟩ : kdT f n p ≠ -1 ∧ FrX I I1 ∧ I1 46 4 = kdT f n p ∧ tkB f n I1 (tE f n p) := (by rcases q1 with q | q; exact ⟨q.1, q.2.2.1, q.2.2.2.1, q.2.2.2.2⟩; exact absurd q.2.1 c4)
    refine m_aload_n dX10_readsPay_7 rfl ?_
    refine m_bipush dX10_readsPay_8 rfl (by decide) ?_
    refine m_VI [_] dX10_readsPay_10 lk_X10_79 rfl oX_46 rfl (Nat.le_of_ble_eq_true rfl) (by omega) (x_pnu (by omega) (frX_f f1 hf) (frX_n f1 hn) (TxI_fr hT f1) ⟨by omega, by omega⟩ t1) ?_
    intro r10 I10 q10
    refine m_if_ne (tgt := 18) dX10_readsPay_13 (by decide) (fun c13 => ?_) (fun c13 => ?_)
    · obtain ⟨n10, f10, v10, u10, t10⟩ : nuP f n (tE f n p) 99 ∧ FrX I1 I10 ∧ I10 46 4 = I1 46 4 ∧ I10 46 5 = nvF f n (tE f n p) ∧ tkB f n I10 (tE f n (tE f n p)) := (by rcases q10 with q | q; exact ⟨q.1, q.2.2.1, q.2.2.2.1, q.2.2.2.2.1, q.2.2.2.2.2⟩; exact absurd q.2.1 c13)
      rw [v1] at v10
      refine m_aload_n dX10_readsPay_18 rfl ?_
      refine m_gr (z := 1) dX10_readsPay_19 fl_X10_93 ho.1 rfl rfl ho.2.2.1 ?_
      refine m_aload_n dX10_readsPay_22 rfl ?_
      refine m_gi (z := 4) dX10_readsPay_23 fl_X10_87 oX_46 rfl rfl ?_
      rw [v10]
      refine m_aload_n dX10_readsPay_26 rfl ?_
      refine m_gi (z := 5) dX10_readsPay_27 fl_X10_90 oX_46 rfl rfl ?_
      rw [u10]
      refine m_iast dX10_readsPay_30 ho.2.2.2.2.2.1 (by omega) (by omega) ?_
      refine m_iconst dX10_readsPay_31 (by decide) ?_
      refine m_zret dX10_readsPay_32 rfl (by omega) ?_
      refine h _ _ (Or.inl ⟨k1, n10, rfl, ⟨fun x hx => ?_, fun j a1 b1 c1 e1 => ?_⟩, ?_, ?_⟩)
      · funext y
        by_cases e : x = b ∧ y = kdT f n p
        · rw [e.1, e.2, upI_s, upI_s]
        · show (if x = b ∧ y = kdT f n p then _ else I10 x y) = (if x = b ∧ y = kdT f n p then _ else I x y)
          rw [if_neg e, if_neg e, f10.1 x hx, f1.1 x hx]
      · rw [upI_o hb.1.symm, upI_o hb.1.symm, f10.2 j a1 b1 c1 e1, f1.2 j a1 b1 c1 e1]
      · rw [upI_o hb.1.symm]; exact t10.1
      · rw [upI_o hb.1.symm]; exact t10.2
    · obtain ⟨n10, e10⟩ : ¬ nuP f n (tE f n p) 99 ∧ I1 = I10 := (by rcases q10 with q | q; exact absurd q.2.1 (by omega); exact ⟨q.1, q.2.2.symm⟩)
      subst e10
      refine m_iconst dX10_readsPay_16 (by decide) ?_
      refine m_zret dX10_readsPay_17 rfl (by omega) ?_
      first
      | exact h _ _ (Or.inr ⟨rfl, f1, Or.inl ⟨k1, t1.1⟩⟩)
      | exact h _ _ (Or.inr ⟨rfl, f1, Or.inr ⟨k1, n10, t1.1⟩⟩)
theorem x_readsLeast {f : Int → Int} {n p : Int} (hf : I 47 = f) (hn : I 46 1 = n) (hT : TxI I) (hp : 0 ≤ p ∧ p ≤ n) (hA : tkB f n I p) {q a b c : Nat} (ho : OrdAt (shX nm no) (RX nm no) q a b c) (hq : q ≠ 46 ∧ q ≠ 47) (ha : a ≠ 46 ∧ a ≠ 47) (hb : b ≠ 46 ∧ b ≠ 47) (hd : 7 ≤ d) : SI g d mX10_readsLeast [vr 46, vr q] (shX nm no) (RX nm no) I (fun r J => (nuP f n p 99 ∧ r = 1 ∧ FrX (upI I q 4 (nvF f n p)) J ∧ tkB f n J (tE f n p)) ∨ (r = 0 ∧ FrX I J ∧ ¬ nuP f n p 99 ∧ J 46 2 = tS f n p)) := by
  have hb1 := t_bd (f := f) hp.2
  intro Q h
  refine C_of rfl (Nat.le_of_ble_eq_true rfl) rfl ?_
  refine m_aload_n dX10_readsLeast_0 rfl ?_
  refine m_bipush dX10_readsLeast_1 rfl (by decide) ?_
  refine m_VI [_] dX10_readsLeast_3 lk_X10_79 rfl oX_46 rfl (Nat.le_of_ble_eq_true rfl) (by omega) (x_pnu (by omega) hf hn hT hp hA) ?_
  intro r3 I3 q3
  refine m_if_ne (tgt := 11) dX10_readsLeast_6 (by decide) (fun c6 => ?_) (fun c6 => ?_)
  · obtain ⟨n3, f3, u3, t3⟩ : nuP f n p 99 ∧ FrX I I3 ∧ I3 46 5 = nvF f n p ∧ tkB f n I3 (tE f n p) := (by rcases q3 with q | q; exact ⟨q.1, q.2.2.1, q.2.2.2.2.1, q.2.2.2.2.2⟩; exact absurd q.2.1 c6)
    refine m_aload_n dX10_readsLeast_11 rfl ?_
    refine m_aload_n dX10_readsLeast_12 rfl ?_
    refine m_gi (z := 5) dX10_readsLeast_13 fl_X10_90 oX_46 rfl rfl ?_
    rw [u3]
    refine m_pi (z := 4) dX10_readsLeast_16 fl_X10_107 ho.1 rfl rfl rfl ?_
    refine m_iconst dX10_readsLeast_19 (by decide) ?_
    refine m_zret dX10_readsLeast_20 rfl (by omega) ?_
    refine h _ _ (Or.inl ⟨n3, rfl, ⟨fun x hx => ?_, fun j a1 b1 c1 e1 => ?_⟩, ?_, ?_⟩)
    · funext y
      show (if x = q ∧ y = _ then _ else I3 x y) = (if x = q ∧ y = _ then _ else I x y)
      rw [f3.1 x hx]
    · rw [upI_o hq.1.symm, upI_o hq.1.symm, f3.2 j a1 b1 c1 e1]
    · rw [upI_o hq.1.symm]; exact t3.1
    · rw [upI_o hq.1.symm]; exact t3.2
  · obtain ⟨n3, e3⟩ : ¬ nuP f n p 99 ∧ I = I3 := (by rcases q3 with q | q; exact absurd q.2.1 (by omega); exact ⟨q.1, q.2.2.symm⟩)
    subst e3
    refine m_iconst dX10_readsLeast_9 (by decide) ?_
    refine m_zret dX10_readsLeast_10 rfl (by omega) ?_
    exact h _ _ (Or.inr ⟨rfl, FrX_rf, n3, hA.1⟩)
theorem x_readsBack {f : Int → Int} {n p : Int} (hf : I 47 = f) (hn : I 46 1 = n) (hT : TxI I) (hp : 0 ≤ p ∧ p ≤ n) (hA : tkB f n I p) {q a b c : Nat} (ho : OrdAt (shX nm no) (RX nm no) q a b c) (hq : q ≠ 46 ∧ q ≠ 47) (ha : a ≠ 46 ∧ a ≠ 47) (hb : b ≠ 46 ∧ b ≠ 47) (hd : 7 ≤ d) : SI g d mX10_readsBack [vr 46, vr q] (shX nm no) (RX nm no) I (fun r J => (nuP f n p 99 ∧ r = 1 ∧ FrX (upI I q 5 (nvF f n p)) J ∧ tkB f n J (tE f n p)) ∨ (r = 0 ∧ FrX I J ∧ ¬ nuP f n p 99 ∧ J 46 2 = tS f n p)) := by
  have hb1 := t_bd (f := f) hp.2
  intro Q h
  refine C_of rfl (Nat.le_of_ble_eq_true rfl) rfl ?_
  refine m_aload_n dX10_readsBack_0 rfl ?_
  refine m_bipush dX10_readsBack_1 rfl (by decide) ?_
  refine m_VI [_] dX10_readsBack_3 lk_X10_79 rfl oX_46 rfl (Nat.le_of_ble_eq_true rfl) (by omega) (x_pnu (by omega) hf hn hT hp hA) ?_
  intro r3 I3 q3
  refine m_if_ne (tgt := 11) dX10_readsBack_6 (by decide) (fun c6 => ?_) (fun c6 => ?_)
  · obtain ⟨n3, f3, u3, t3⟩ : nuP f n p 99 ∧ FrX I I3 ∧ I3 46 5 = nvF f n p ∧ tkB f n I3 (tE f n p) := (by rcases q3 with q | q; exact ⟨q.1, q.2.2.1, q.2.2.2.2.1, q.2.2.2.2.2⟩; exact absurd q.2.1 c6)
    refine m_aload_n dX10_readsBack_11 rfl ?_
    refine m_aload_n dX10_readsBack_12 rfl ?_
    refine m_gi (z := 5) dX10_readsBack_13 fl_X10_90 oX_46 rfl rfl ?_
    rw [u3]
    refine m_pi (z := 5) dX10_readsBack_16 fl_X10_109 ho.1 rfl rfl rfl ?_
    refine m_iconst dX10_readsBack_19 (by decide) ?_
    refine m_zret dX10_readsBack_20 rfl (by omega) ?_
    refine h _ _ (Or.inl ⟨n3, rfl, ⟨fun x hx => ?_, fun j a1 b1 c1 e1 => ?_⟩, ?_, ?_⟩)
    · funext y
      show (if x = q ∧ y = _ then _ else I3 x y) = (if x = q ∧ y = _ then _ else I x y)
      rw [f3.1 x hx]
    · rw [upI_o hq.1.symm, upI_o hq.1.symm, f3.2 j a1 b1 c1 e1]
    · rw [upI_o hq.1.symm]; exact t3.1
    · rw [upI_o hq.1.symm]; exact t3.2
  · obtain ⟨n3, e3⟩ : ¬ nuP f n p 99 ∧ I = I3 := (by rcases q3 with q | q; exact absurd q.2.1 (by omega); exact ⟨q.1, q.2.2.symm⟩)
    subst e3
    refine m_iconst dX10_readsBack_9 (by decide) ?_
    refine m_zret dX10_readsBack_10 rfl (by omega) ?_
    exact h _ _ (Or.inr ⟨rfl, FrX_rf, n3, hA.1⟩)
theorem x_readsRepeat {f : Int → Int} {n p : Int} (hf : I 47 = f) (hn : I 46 1 = n) (hT : TxI I) (hp : 0 ≤ p ∧ p ≤ n) (hA : tkB f n I p) {q a b c : Nat} (ho : OrdAt (shX nm no) (RX nm no) q a b c) (hq : q ≠ 46 ∧ q ≠ 47) (ha : a ≠ 46 ∧ a ≠ 47) (hb : b ≠ 46 ∧ b ≠ 47) (hd : 7 ≤ d) : SI g d mX10_readsRepeat [vr 46, vr q] (shX nm no) (RX nm no) I (fun r J => (kdT f n p ≠ -1 ∧ r = 1 ∧ FrX (upI I q 3 (f_ior (I q 3) (f_ishl 1 (kdT f n p)))) J ∧ tkB f n J (tE f n p)) ∨ (r = 0 ∧ FrX I J ∧ kdT f n p = -1 ∧ J 46 2 = tS f n p)) := by
  have hb1 := t_bd (f := f) hp.2
  have hk := kd_bd (f := f) (n := n) (p := p)
  intro Q h
  refine C_of rfl (Nat.le_of_ble_eq_true rfl) rfl ?_
  refine m_aload_n dX10_readsRepeat_0 rfl ?_
  refine m_VI [] dX10_readsRepeat_1 lk_X10_75 rfl oX_46 rfl (Nat.le_of_ble_eq_true rfl) (by omega) (x_passesKind hf hn hT hp hA (by omega)) ?_
  intro r1 I1 q1
  refine m_if_ne (tgt := 9) dX10_readsRepeat_4 (by decide) (fun c4 => ?_) (fun c4 => ?_)
  · obtain ⟨k1, f1, v1, t1⟩ : kdT f n p ≠ -1 ∧ FrX I I1 ∧ I1 46 4 = kdT f n p ∧ tkB f n I1 (tE f n p) := (by rcases q1 with q | q; exact ⟨q.1, q.2.2.1, q.2.2.2.1, q.2.2.2.2⟩; exact absurd q.2.1 c4)
    refine m_aload_n dX10_readsRepeat_9 rfl ?_
    refine m_dup dX10_readsRepeat_10 (fun _ z => by cases z) ?_
    refine m_gi (z := 3) dX10_readsRepeat_11 fl_X10_104 ho.1 rfl rfl ?_
    rw [f1.1 q hq.1]
    refine m_iconst dX10_readsRepeat_14 (by decide) ?_
    refine m_aload_n dX10_readsRepeat_15 rfl ?_
    refine m_gi (z := 4) dX10_readsRepeat_16 fl_X10_87 oX_46 rfl rfl ?_
    rw [v1]
    refine m_ishl dX10_readsRepeat_19 ?_
    refine m_ior dX10_readsRepeat_20 ?_
    refine m_pi (z := 3) dX10_readsRepeat_21 fl_X10_104 ho.1 rfl rfl rfl ?_
    refine m_iconst dX10_readsRepeat_24 (by decide) ?_
    refine m_zret dX10_readsRepeat_25 rfl (by omega) ?_
    refine h _ _ (Or.inl ⟨k1, rfl, ⟨fun x hx => ?_, fun j a1 b1 c1 e1 => ?_⟩, ?_, ?_⟩)
    · funext y
      show (if x = q ∧ y = _ then _ else I1 x y) = (if x = q ∧ y = _ then _ else I x y)
      rw [f1.1 x hx]
    · rw [upI_o hq.1.symm, upI_o hq.1.symm, f1.2 j a1 b1 c1 e1]
    · rw [upI_o hq.1.symm]; exact t1.1
    · rw [upI_o hq.1.symm]; exact t1.2
  · obtain ⟨k1, f1, t1⟩ : kdT f n p = -1 ∧ FrX I I1 ∧ tkB f n I1 p := (by rcases q1 with q | q; exact absurd q.2.1 (by omega); exact ⟨q.1, q.2.2.1, q.2.2.2⟩)
    refine m_iconst dX10_readsRepeat_7 (by decide) ?_
    refine m_zret dX10_readsRepeat_8 rfl (by omega) ?_
    exact h _ _ (Or.inr ⟨rfl, f1, k1, t1.1⟩)
theorem x_readsNight {f : Int → Int} {n p : Int} (hf : I 47 = f) (hn : I 46 1 = n) (hT : TxI I) (hp : 0 ≤ p ∧ p ≤ n) (hA : tkB f n I p) {q a b c : Nat} (ho : OrdAt (shX nm no) (RX nm no) q a b c) (hq : q ≠ 46 ∧ q ≠ 47) (ha : a ≠ 46 ∧ a ≠ 47) (hb : b ≠ 46 ∧ b ≠ 47) (hd : 7 ≤ d) : SI g d mX10_readsNight [vr 46, vr q] (shX nm no) (RX nm no) I (fun r J => ((nuP f n p 23 ∧ wdP f n (tE f n p) 8 ∧ nuP f n (tE f n (tE f n p)) 23) ∧ r = 1 ∧ FrX (upI (upI I q 6 (nvF f n p)) q 7 (nvF f n (tE f n (tE f n p)))) J ∧ tkB f n J (tE f n (tE f n (tE f n p)))) ∨ (r = 0 ∧ FrX I J ∧ ((¬ nuP f n p 23 ∧ J 46 2 = tS f n p) ∨ (nuP f n p 23 ∧ ¬ wdP f n (tE f n p) 8 ∧ J 46 2 = tS f n (tE f n p)) ∨ (nuP f n p 23 ∧ wdP f n (tE f n p) 8 ∧ ¬ nuP f n (tE f n (tE f n p)) 23 ∧ J 46 2 = tS f n (tE f n (tE f n p)))))) := by
  have hb1 := t_bd (f := f) hp.2
  have hb2 := t_bd (f := f) hb1.2.2.1
  have hb3 := t_bd (f := f) hb2.2.2.1
  intro Q h
  refine C_of rfl (Nat.le_of_ble_eq_true rfl) rfl ?_
  refine m_aload_n dX10_readsNight_0 rfl ?_
  refine m_bipush dX10_readsNight_1 rfl (by decide) ?_
  refine m_VI [_] dX10_readsNight_3 lk_X10_79 rfl oX_46 rfl (Nat.le_of_ble_eq_true rfl) (by omega) (x_pnu (by omega) hf hn hT hp hA) ?_
  intro r3 I3 q3
  refine m_if_ne (tgt := 11) dX10_readsNight_6 (by decide) (fun c6 => ?_) (fun c6 => ?_)
  · obtain ⟨n3, f3, u3, t3⟩ : nuP f n p 23 ∧ FrX I I3 ∧ I3 46 5 = nvF f n p ∧ tkB f n I3 (tE f n p) := (by rcases q3 with q | q; exact ⟨q.1, q.2.2.1, q.2.2.2.2.1, q.2.2.2.2.2⟩; exact absurd q.2.1 c6)
    refine m_aload_n dX10_readsNight_11 rfl ?_
    refine m_gi (z := 5) dX10_readsNight_12 fl_X10_90 oX_46 rfl rfl ?_
    rw [u3]
    refine m_istore_n dX10_readsNight_15 (by decide) rfl rfl ?_
    refine m_aload_n dX10_readsNight_16 rfl ?_
    refine m_ldcS (i := 8) (by decide) rfl dX10_readsNight_17 ?_
    refine m_VI [_] dX10_readsNight_19 lk_X10_43 rfl oX_46 rfl (Nat.le_of_ble_eq_true rfl) (by omega) (x_pw 8 (by omega) (by decide) (frX_f f3 hf) (frX_n f3 hn) (TxI_fr hT f3) ⟨by omega, by omega⟩ t3) ?_
    intro r19 I19 q19
    refine m_if_eq (tgt := 34) dX10_readsNight_22 (by decide) (fun c22 => ?_) (fun c22 => ?_)
    · obtain ⟨n19, e19⟩ : ¬ wdP f n (tE f n p) 8 ∧ I3 = I19 := (by rcases q19 with q | q; exact absurd (q.2.1.symm.trans c22) (by decide); exact ⟨q.1, q.2.2.symm⟩)
      subst e19
      refine m_iconst dX10_readsNight_34 (by decide) ?_
      refine m_zret dX10_readsNight_35 rfl (by omega) ?_
      first
      | exact h _ _ (Or.inr ⟨rfl, f3, Or.inr (Or.inl ⟨n3, n19, t3.1⟩)⟩)
      | exact h _ _ (Or.inr ⟨rfl, g19, Or.inr (Or.inr ⟨n3, n19, n28, t19.1⟩)⟩)
    · obtain ⟨n19, f19, t19⟩ : wdP f n (tE f n p) 8 ∧ FrX I3 I19 ∧ tkB f n I19 (tE f n (tE f n p)) := (by rcases q19 with q | q; exact ⟨q.1, q.2.2.1, q.2.2.2.2.2⟩; exact absurd q.2.1 c22)
      have g19 := FrX_tr f3 f19
      refine m_aload_n dX10_readsNight_25 rfl ?_
      refine m_bipush dX10_readsNight_26 rfl (by decide) ?_
      refine m_VI [_] dX10_readsNight_28 lk_X10_79 rfl oX_46 rfl (Nat.le_of_ble_eq_true rfl) (by omega) (x_pnu (by omega) (frX_f g19 hf) (frX_n g19 hn) (TxI_fr hT g19) ⟨by omega, by omega⟩ t19) ?_
      intro r28 I28 q28
      refine m_if_ne (tgt := 36) dX10_readsNight_31 (by decide) (fun c31 => ?_) (fun c31 => ?_)
      · obtain ⟨n28, f28, u28, t28⟩ : nuP f n (tE f n (tE f n p)) 23 ∧ FrX I19 I28 ∧ I28 46 5 = nvF f n (tE f n (tE f n p)) ∧ tkB f n I28 (tE f n (tE f n (tE f n p))) := (by rcases q28 with q | q; exact ⟨q.1, q.2.2.1, q.2.2.2.2.1, q.2.2.2.2.2⟩; exact absurd q.2.1 c31)
        have g28 := FrX_tr g19 f28
        refine m_aload_n dX10_readsNight_36 rfl ?_
        refine m_iload_n dX10_readsNight_37 rfl ?_
        refine m_pi (z := 6) dX10_readsNight_38 fl_X10_98 ho.1 rfl rfl rfl ?_
        refine m_aload_n dX10_readsNight_41 rfl ?_
        refine m_aload_n dX10_readsNight_42 rfl ?_
        refine m_gi (z := 5) dX10_readsNight_43 fl_X10_90 oX_46 rfl rfl ?_
        rw [upI_o (show (46 : Nat) ≠ q by omega)]
        rw [u28]
        refine m_pi (z := 7) dX10_readsNight_46 fl_X10_101 ho.1 rfl rfl rfl ?_
        refine m_iconst dX10_readsNight_49 (by decide) ?_
        refine m_zret dX10_readsNight_50 rfl (by omega) ?_
        refine h _ _ (Or.inl ⟨⟨n3, n19, n28⟩, rfl, ⟨fun x hx => ?_, fun j a1 b1 c1 e1 => ?_⟩, ?_, ?_⟩)
        · funext y
          show (if x = q ∧ y = _ then _ else if x = q ∧ y = _ then _ else I28 x y) = (if x = q ∧ y = _ then _ else if x = q ∧ y = _ then _ else I x y)
          rw [g28.1 x hx]
        · rw [upI_o hq.1.symm, upI_o hq.1.symm, upI_o hq.1.symm, upI_o hq.1.symm, g28.2 j a1 b1 c1 e1]
        · rw [upI_o hq.1.symm, upI_o hq.1.symm]; exact t28.1
        · rw [upI_o hq.1.symm, upI_o hq.1.symm]; exact t28.2
      · obtain ⟨n28, e28⟩ : ¬ nuP f n (tE f n (tE f n p)) 23 ∧ I19 = I28 := (by rcases q28 with q | q; exact absurd q.2.1 (by omega); exact ⟨q.1, q.2.2.symm⟩)
        subst e28
        refine m_iconst dX10_readsNight_34 (by decide) ?_
        refine m_zret dX10_readsNight_35 rfl (by omega) ?_
        first
        | exact h _ _ (Or.inr ⟨rfl, f3, Or.inr (Or.inl ⟨n3, n19, t3.1⟩)⟩)
        | exact h _ _ (Or.inr ⟨rfl, g19, Or.inr (Or.inr ⟨n3, n19, n28, t19.1⟩)⟩)
  · obtain ⟨n3, e3⟩ : ¬ nuP f n p 23 ∧ I = I3 := (by rcases q3 with q | q; exact absurd q.2.1 (by omega); exact ⟨q.1, q.2.2.symm⟩)
    subst e3
    refine m_iconst dX10_readsNight_9 (by decide) ?_
    refine m_zret dX10_readsNight_10 rfl (by omega) ?_
    exact h _ _ (Or.inr ⟨rfl, FrX_rf, Or.inl ⟨n3, hA.1⟩⟩)
end
