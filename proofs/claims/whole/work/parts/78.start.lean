/-! NET: opening, notAhead, startFrom -/
section
variable {g : GH} {d nm no : Nat} {I : II}
def opn (I : II) (o t : Int) : Int := if t % 1440 < I 22 o then t + I 22 o - t % 1440 else if t % 1440 ≤ I 23 o then t else t + 1440 - t % 1440 + I 22 o
theorem opn_ge {I : II} {o t : Int} (h : 0 ≤ I 22 o ∧ I 22 o ≤ I 23 o ∧ I 23 o ≤ 1439) (ht : 0 ≤ t) : t ≤ opn I o t ∧ opn I o t ≤ t + 2880 := by
  unfold opn; split
  · omega
  · split <;> omega
theorem opn_no {I : II} {o t t' : Int} (h : 0 ≤ I 22 o ∧ I 22 o ≤ I 23 o ∧ I 23 o ≤ 1439) (ht : 0 ≤ t) (h1 : t ≤ t') (h2 : t' < opn I o t) : ¬ opX I t' o := by
  unfold opn at h2; unfold opX
  split at h2
  · omega
  · split at h2 <;> omega
theorem opn_eq {I : II} {o t : Int} (h : 0 ≤ I 22 o ∧ I 22 o ≤ I 23 o ∧ I 23 o ≤ 1439) (ht : 0 ≤ t) (h1 : opn I o t ≤ t) : opX I t o := by
  unfold opn at h1; unfold opX
  split at h1
  · omega
  · split at h1 <;> omega
theorem en_no {I : II} {o a b c : Nat} {v t t' K e : Int} (h : enB I a b c v t (t + K) (I o 3) e) (h1 : t ≤ t') (h2 : t' ≤ e) (ht : 0 ≤ t) (hK : 0 ≤ K) (hS : ∀ k, 0 ≤ k → k < I o 3 → I b k ≤ I c k) : ∃ u, t' ≤ u ∧ u ≤ t' + K ∧ stp I o a b c v u := by
  rcases h.2.2 with z | ⟨k, k0, k1, k2, k3, k4, k5⟩
  · omega
  · have := hS k k0 k1
    exact ⟨max t' (I b k), by omega, by omega, k, k0, k1, k2, by omega, by omega⟩
theorem en_ok {I : II} {o a b c : Nat} {v t K e : Int} (h : enB I a b c v t (t + K) (I o 3) e) (h1 : e < t) : ∀ u, t ≤ u → u ≤ t + K → ¬ stp I o a b c v u := by
  rintro u u0 u1 ⟨k, k0, k1, k2, k3, k4⟩
  have := h.2.1 k k0 k1 k2 (by omega) (by omega)
  omega
/-- what takes K minutes can set out on wire v in minute t; pr: by night alone, as orders q have it -/
def sokT (I : II) (q : Nat) (pr : Prop) (v K t : Int) : Prop := opX I t (I 24 v) ∧ opX I t (I 25 v) ∧ (pr → nightX I q (t % 1440 / 60)) ∧ ∀ u, t ≤ u → u ≤ t + K → upX I u v
/-- r is the least such minute from m on to l; -1: there is none -/
def fsT (I : II) (q : Nat) (pr : Prop) (v K m l r : Int) : Prop := (r = -1 ∧ ∀ t, m ≤ t → t ≤ l → ¬ sokT I q pr v K t) ∨ ((m ≤ r ∧ r ≤ l) ∧ sokT I q pr v K r ∧ ∀ t, m ≤ t → t < r → ¬ sokT I q pr v K t)
theorem fs_uniq {I : II} {q : Nat} {pr : Prop} {v K m l r r' : Int} (hm : 0 ≤ m) (h : fsT I q pr v K m l r) (h' : fsT I q pr v K m l r') : r = r' := by
  rcases h with ⟨a, b⟩ | ⟨a, b, c⟩
  · rcases h' with ⟨a', b'⟩ | ⟨a', b', c'⟩
    · omega
    · exact absurd b' (b r' a'.1 a'.2)
  · rcases h' with ⟨a', b'⟩ | ⟨a', b', c'⟩
    · exact absurd b (b' r a.1 a.2)
    · rcases (show r < r' ∨ r = r' ∨ r' < r by omega) with z | z | z
      · exact absurd b (c' r a.1 z)
      · exact z
      · exact absurd b' (c r' a'.1 z)
/-- nothing can set out ahead of r; in r itself, if it is t -/
def naT (I : II) (q : Nat) (pr : Prop) (v K t r : Int) : Prop := (t ≤ r ∧ r ≤ t + 20000) ∧ (∀ t', t ≤ t' → t' < r → ¬ sokT I q pr v K t') ∧ (r = t → sokT I q pr v K t)
theorem na_of {I : II} {q : Nat} {pr : Prop} {v K t e1 e2 nx : Int} (hN : NetI I) (h1 : StI I 28 29 30 31 12) (h2 : StI I 32 33 34 35 6) (hv : 0 ≤ v ∧ v < I 21 9) (ht : 0 ≤ t ∧ t ≤ 20000) (hK : 0 ≤ K) (q1 : enB I 29 30 31 v t (t + K) (I 28 3) e1) (q2 : enB I 33 34 35 v t (t + K) (I 32 3) e2) (hn0 : t ≤ nx ∧ nx ≤ t + 60) (hn1 : ∀ t', t ≤ t' → t' < nx → ¬ (pr → nightX I q (t' % 1440 / 60))) (hn2 : nx = t → (pr → nightX I q (t % 1440 / 60))) : naT I q pr v K t (max (max (max (max (opn I (I 24 v) t) (opn I (I 25 v) t)) (e1 + 1)) (e2 + 1)) nx) := by
  have hk := hN.2.1 v hv.1 hv.2
  have ha := hN.2.2 (I 24 v) hk.1.1 hk.1.2
  have hb := hN.2.2 (I 25 v) hk.2.1.1 hk.2.1.2
  have ga := opn_ge ha ht.1
  have gb := opn_ge hb ht.1
  have x1 := q1.1
  have x2 := q2.1
  refine ⟨by omega, fun t' t0 t1 z => ?_, fun e => ?_⟩
  · rcases (show t' < opn I (I 24 v) t ∨ t' < opn I (I 25 v) t ∨ t' ≤ e1 ∨ t' ≤ e2 ∨ t' < nx by omega) with y | y | y | y | y
    · exact opn_no ha ht.1 t0 y z.1
    · exact opn_no hb ht.1 t0 y z.2.1
    · obtain ⟨u, u0, u1, u2⟩ := en_no q1 t0 y ht.1 hK (fun k k0 k1 => (h1.2.2 k k0 k1).2.2.1)
      exact (z.2.2.2 u u0 u1).2.1 u2
    · obtain ⟨u, u0, u1, u2⟩ := en_no q2 t0 y ht.1 hK (fun k k0 k1 => (h2.2.2 k k0 k1).2.2.1)
      exact (z.2.2.2 u u0 u1).2.2 u2
    · exact hn1 t' t0 y z.2.2.1
  · exact ⟨opn_eq ha ht.1 (by omega), opn_eq hb ht.1 (by omega), hn2 (by omega), fun u u0 u1 => ⟨hv.2, en_ok q1 (by omega) u u0 u1, en_ok q2 (by omega) u u0 u1⟩⟩
theorem x_opening {o t : Int} (ho : 0 ≤ o ∧ o < 8) (hN : NetI I) (ht : 0 ≤ t ∧ t ≤ 20000) : SP g d mX4_opening 0 0 [vr 21, vi o, vi t] (shX nm no) (RX nm no) I (some (vi (opn I o t))) (shX nm no) (RX nm no) I := by
  have hb := hN.2.2 o ho.1 ho.2
  intro Q h
  refine C_of rfl (Nat.le_of_ble_eq_true rfl) rfl ?_
  refine m_iload_n dX4_opening_0 rfl ?_
  refine m_sipush dX4_opening_1 rfl (by decide) ?_
  refine m_irem dX4_opening_4 (by omega) (by omega) ?_
  refine m_istore_n dX4_opening_5 (by decide) rfl rfl ?_
  refine m_iload_n dX4_opening_6 rfl ?_
  refine m_aload_n dX4_opening_7 rfl ?_
  refine m_gr (z := 0) dX4_opening_8 fl_X4_9 oX_21 rfl rfl rX_21_0 ?_
  refine m_iload_n dX4_opening_11 rfl ?_
  refine m_iald dX4_opening_12 sX_22 (by omega) (by omega) ?_
  refine m_icmp_ge (tgt := 27) dX4_opening_13 (by decide) (fun c13 => ?_) (fun c13 => ?_)
  · refine m_iload_n dX4_opening_27 rfl ?_
    refine m_aload_n dX4_opening_28 rfl ?_
    refine m_gr (z := 1) dX4_opening_29 fl_X4_15 oX_21 rfl rfl rX_21_1 ?_
    refine m_iload_n dX4_opening_32 rfl ?_
    refine m_iald dX4_opening_33 sX_23 (by omega) (by omega) ?_
    refine m_icmp_gt (tgt := 41) dX4_opening_34 (by decide) (fun c34 => ?_) (fun c34 => ?_)
    · refine m_iload_n dX4_opening_41 rfl ?_
      refine m_sipush dX4_opening_42 rfl (by decide) ?_
      refine m_iadd dX4_opening_45 (by omega) ?_
      refine m_iload_n dX4_opening_46 rfl ?_
      refine m_isub dX4_opening_47 (by omega) ?_
      refine m_aload_n dX4_opening_48 rfl ?_
      refine m_gr (z := 0) dX4_opening_49 fl_X4_9 oX_21 rfl rfl rX_21_0 ?_
      refine m_iload_n dX4_opening_52 rfl ?_
      refine m_iald dX4_opening_53 sX_22 (by omega) (by omega) ?_
      refine m_iadd dX4_opening_54 (by omega) ?_
      refine m_iret dX4_opening_55 rfl ?_
      unfold opn at h
      first | (rw [if_pos (by omega)] at h; exact h) | (rw [if_neg (by omega), if_pos (by omega)] at h; exact h) | (rw [if_neg (by omega), if_neg (by omega)] at h; exact h)
    · refine m_iload_n dX4_opening_37 rfl ?_
      refine m_goto (tgt := 55) dX4_opening_38 (by decide) ?_
      refine m_iret dX4_opening_55 rfl ?_
      unfold opn at h
      first | (rw [if_pos (by omega)] at h; exact h) | (rw [if_neg (by omega), if_pos (by omega)] at h; exact h) | (rw [if_neg (by omega), if_neg (by omega)] at h; exact h)
  · refine m_iload_n dX4_opening_16 rfl ?_
    refine m_aload_n dX4_opening_17 rfl ?_
    refine m_gr (z := 0) dX4_opening_18 fl_X4_9 oX_21 rfl rfl rX_21_0 ?_
    refine m_iload_n dX4_opening_21 rfl ?_
    refine m_iald dX4_opening_22 sX_22 (by omega) (by omega) ?_
    refine m_iadd dX4_opening_23 (by omega) ?_
    refine m_iload_n dX4_opening_24 rfl ?_
    refine m_isub dX4_opening_25 (by omega) ?_
    refine m_iret dX4_opening_26 rfl ?_
    unfold opn at h
    first | (rw [if_pos (by omega)] at h; exact h) | (rw [if_neg (by omega), if_pos (by omega)] at h; exact h) | (rw [if_neg (by omega), if_neg (by omega)] at h; exact h)
theorem x_notAheadN {q : Nat} {v t K : Int} (hd : 2 ≤ d) (hN : NetI I) (h1 : StI I 28 29 30 31 12) (h2 : StI I 32 33 34 35 6) (hv : 0 ≤ v ∧ v < I 21 9) (ht : 0 ≤ t ∧ t ≤ 20000) (hK : 0 ≤ K ∧ K ≤ 1000) : SI g d mX4_notAhead [vr 21, vi v, vi t, vi K, vn] (shX nm no) (RX nm no) I (fun r J => J = I ∧ naT I q False v K t r) := by
  have hk := hN.2.1 v hv.1 hv.2
  have hW := hN.1
  have ga := opn_ge (hN.2.2 (I 24 v) hk.1.1 hk.1.2) ht.1
  have gb := opn_ge (hN.2.2 (I 25 v) hk.2.1.1 hk.2.1.2) ht.1
  have hK2 := hK.2
  replace hK := hK.1
  intro Q h
  refine C_of rfl (Nat.le_of_ble_eq_true rfl) rfl ?_
  refine m_aload_n dX4_notAhead_0 rfl ?_
  refine m_aload_n dX4_notAhead_1 rfl ?_
  refine m_gr (z := 2) dX4_notAhead_2 fl_X4_18 oX_21 rfl rfl rX_21_2 ?_
  refine m_iload_n dX4_notAhead_5 rfl ?_
  refine m_iald dX4_notAhead_6 sX_24 (by omega) (by omega) ?_
  refine m_iload_n dX4_notAhead_7 rfl ?_
  refine m_Vi [_, _] dX4_notAhead_8 lk_X4_110 rfl oX_21 rfl (Nat.le_of_ble_eq_true rfl) (by omega) (x_opening ⟨by omega, by omega⟩ hN ht) ?_
  refine m_aload_n dX4_notAhead_11 rfl ?_
  refine m_aload_n dX4_notAhead_12 rfl ?_
  refine m_gr (z := 3) dX4_notAhead_13 fl_X4_21 oX_21 rfl rfl rX_21_3 ?_
  refine m_iload_n dX4_notAhead_16 rfl ?_
  refine m_iald dX4_notAhead_17 sX_25 (by omega) (by omega) ?_
  refine m_iload_n dX4_notAhead_18 rfl ?_
  refine m_Vi [_, _] dX4_notAhead_19 lk_X4_110 rfl oX_21 rfl (Nat.le_of_ble_eq_true rfl) (by omega) (x_opening ⟨by omega, by omega⟩ hN ht) ?_
  refine m_max dX4_notAhead_22 lk_X4_113 (by omega) (Nat.le_of_ble_eq_true rfl) ?_
  refine m_istore dX4_notAhead_25 (by decide) rfl rfl ?_
  refine m_iload dX4_notAhead_27 rfl ?_
  refine m_aload_n dX4_notAhead_29 rfl ?_
  refine m_gr (z := 6) dX4_notAhead_30 fl_X4_36 oX_21 rfl rfl rX_21_6 ?_
  refine m_iload_n dX4_notAhead_33 rfl ?_
  refine m_iload_n dX4_notAhead_34 rfl ?_
  refine m_iload_n dX4_notAhead_35 rfl ?_
  refine m_iload_n dX4_notAhead_36 rfl ?_
  refine m_iadd dX4_notAhead_37 (by omega) ?_
  refine m_VI [_, _, _] dX4_notAhead_38 lk_X4_116 rfl oX_28 rfl (Nat.le_of_ble_eq_true rfl) (by omega) (x_endOf28 (by omega) h1) ?_
  intro r38 I38 q38
  obtain ⟨e38, q38⟩ := q38
  replace e38 := e38.symm
  subst e38
  have y1 := q38.1
  refine m_iconst dX4_notAhead_41 (by decide) ?_
  refine m_iadd dX4_notAhead_42 (by omega) ?_
  refine m_max dX4_notAhead_43 lk_X4_113 (by omega) (Nat.le_of_ble_eq_true rfl) ?_
  refine m_istore dX4_notAhead_46 (by decide) rfl rfl ?_
  refine m_iload dX4_notAhead_48 rfl ?_
  refine m_aload_n dX4_notAhead_50 rfl ?_
  refine m_gr (z := 7) dX4_notAhead_51 fl_X4_40 oX_21 rfl rfl rX_21_7 ?_
  refine m_iload_n dX4_notAhead_54 rfl ?_
  refine m_iload_n dX4_notAhead_55 rfl ?_
  refine m_iload_n dX4_notAhead_56 rfl ?_
  refine m_iload_n dX4_notAhead_57 rfl ?_
  refine m_iadd dX4_notAhead_58 (by omega) ?_
  refine m_VI [_, _, _] dX4_notAhead_59 lk_X4_116 rfl oX_32 rfl (Nat.le_of_ble_eq_true rfl) (by omega) (x_endOf32 (by omega) h2) ?_
  intro r59 I59 q59
  obtain ⟨e59, q59⟩ := q59
  replace e59 := e59.symm
  subst e59
  have y2 := q59.1
  refine m_iconst dX4_notAhead_62 (by decide) ?_
  refine m_iadd dX4_notAhead_63 (by omega) ?_
  refine m_max dX4_notAhead_64 lk_X4_113 (by omega) (Nat.le_of_ble_eq_true rfl) ?_
  refine m_istore dX4_notAhead_67 (by decide) rfl rfl ?_
  refine m_aloadN dX4_notAhead_69 rfl ?_
  refine m_ifnullN (tgt := 102) dX4_notAhead_71 (by decide) ?_
  refine m_iload dX4_notAhead_102 rfl ?_
  refine m_iret dX4_notAhead_104 rfl ?_
  have hz := na_of (q := q) (pr := False) hN h1 h2 hv ht hK q38 q59 (nx := t) (by omega) (fun t' a b => by omega) (fun _ f => f.elim)
  rw [show max (max (max (max (opn I (I 24 v) t) (opn I (I 25 v) t)) (r38 + 1)) (r59 + 1)) t = max (max (max (opn I (I 24 v) t) (opn I (I 25 v) t)) (r38 + 1)) (r59 + 1) by omega] at hz
  exact h _ _ ⟨rfl, hz⟩
theorem x_st_loopN {q : Nat} {v m K l : Int} {Q : QT} (hd : 3 ≤ d) (hN : NetI I) (h1 : StI I 28 29 30 31 12) (h2 : StI I 32 33 34 35 6) (hv : 0 ≤ v ∧ v < I 21 9) (hm : 0 ≤ m ∧ m ≤ 13000) (hK : 0 ≤ K ∧ K ≤ 1000) (hl : l ≤ m + 3000 ∧ l ≤ 13000) (h : ∀ r, fsT I q False v K m l r → Q (some (vi r)) (shX nm no) (RX nm no) I) :
    ∀ (n k : Nat) (s : Int) (l8 : Option AV), (3001 - k) < n → k ≤ 3001 → m + k ≤ s → s ≤ 40000 → (∀ t, m ≤ t → t < s → ¬ sokT I q False v K t) → T g d mX4_startFrom 0 0 6 [some (vr 21), some (vi v), some (vi m), some (vi K), some (vi l), some (vn), some (vi s), some (vi k), l8] [] (shX nm no) (RX nm no) I Q := by
  intro n
  induction n with
  | zero => intro k s l8 hn; omega
  | succ n ih =>
    intro k s l8 hn hk hs hs2 hno
    refine m_iload dX4_startFrom_6 rfl ?_
    refine m_sipush dX4_startFrom_8 rfl (by decide) ?_
    refine m_icmp_gt (tgt := 53) dX4_startFrom_11 (by decide) (fun c11 => ?_) (fun c11 => ?_)
    · refine m_iconst dX4_startFrom_53 (by decide) ?_
      refine m_iret dX4_startFrom_54 rfl ?_
      exact h _ (Or.inl ⟨rfl, fun t t0 t1 => hno t t0 (by omega)⟩)
    · refine m_iload dX4_startFrom_14 rfl ?_
      refine m_iload dX4_startFrom_16 rfl ?_
      refine m_icmp_gt (tgt := 53) dX4_startFrom_18 (by decide) (fun c18 => ?_) (fun c18 => ?_)
      · refine m_iconst dX4_startFrom_53 (by decide) ?_
        refine m_iret dX4_startFrom_54 rfl ?_
        exact h _ (Or.inl ⟨rfl, fun t t0 t1 => hno t t0 (by omega)⟩)
      · refine m_aload_n dX4_startFrom_21 rfl ?_
        refine m_iload_n dX4_startFrom_22 rfl ?_
        refine m_iload dX4_startFrom_23 rfl ?_
        refine m_iload_n dX4_startFrom_25 rfl ?_
        refine m_aloadN dX4_startFrom_26 rfl ?_
        refine m_VI [_, _, _, _] dX4_startFrom_28 lk_X4_106 rfl oX_21 rfl (Nat.le_of_ble_eq_true rfl) (by omega) (x_notAheadN (q := q) (by omega) hN h1 h2 hv ⟨by omega, by omega⟩ hK) ?_
        intro r28 I28 q28
        obtain ⟨e28, q28⟩ := q28
        replace e28 := e28.symm
        subst e28
        have y1 := q28.1
        refine m_istore dX4_startFrom_31 (by decide) rfl rfl ?_
        refine m_iload dX4_startFrom_33 rfl ?_
        refine m_iload dX4_startFrom_35 rfl ?_
        refine m_icmp_ne (tgt := 43) dX4_startFrom_37 (by decide) (fun c37 => ?_) (fun c37 => ?_)
        · refine m_iload dX4_startFrom_43 rfl ?_
          refine m_istore dX4_startFrom_45 (by decide) rfl rfl ?_
          refine m_iinc dX4_startFrom_47 rfl (by decide) rfl rfl (by omega) ?_
          refine m_goto (tgt := 6) dX4_startFrom_50 (by decide) ?_
          refine ih (k + 1) r28 _ (by omega) (by omega) (by omega) (by omega) (fun t t0 t1 => ?_)
          rcases (show t < s ∨ s ≤ t by omega) with z | z
          · exact hno t t0 z
          · exact q28.2.1 t z t1
        · refine m_iload dX4_startFrom_40 rfl ?_
          refine m_iret dX4_startFrom_42 rfl ?_
          exact h _ (Or.inr ⟨by omega, q28.2.2 (by omega), hno⟩)
theorem x_startFromN {q : Nat} {v m K l : Int} (hd : 3 ≤ d) (hN : NetI I) (h1 : StI I 28 29 30 31 12) (h2 : StI I 32 33 34 35 6) (hv : 0 ≤ v ∧ v < I 21 9) (hm : 0 ≤ m ∧ m ≤ 13000) (hK : 0 ≤ K ∧ K ≤ 1000) (hl : l ≤ m + 3000 ∧ l ≤ 13000) : SI g d mX4_startFrom [vr 21, vi v, vi m, vi K, vi l, vn] (shX nm no) (RX nm no) I (fun r J => J = I ∧ fsT I q False v K m l r) := by
  intro Q h
  refine C_of rfl (Nat.le_of_ble_eq_true rfl) rfl ?_
  refine m_iload_n dX4_startFrom_0 rfl ?_
  refine m_istore dX4_startFrom_1 (by decide) rfl rfl ?_
  refine m_iconst dX4_startFrom_3 (by decide) ?_
  refine m_istore dX4_startFrom_4 (by decide) rfl rfl ?_
  exact x_st_loopN (q := q) hd hN h1 h2 hv hm hK hl (fun r hr => h r I ⟨rfl, hr⟩) 3002 0 m _ (by omega) (by omega) (by omega) (by omega) (fun t a b => by omega)
theorem x_notAheadO {q a b c : Nat} (hO : OrdAt (shX nm no) (RX nm no) q a b c) {v t K : Int} (hd : 2 ≤ d) (hN : NetI I) (h1 : StI I 28 29 30 31 12) (h2 : StI I 32 33 34 35 6) (hv : 0 ≤ v ∧ v < I 21 9) (ht : 0 ≤ t ∧ t ≤ 20000) (hK : 0 ≤ K ∧ K ≤ 1000) : SI g d mX4_notAhead [vr 21, vi v, vi t, vi K, vr q] (shX nm no) (RX nm no) I (fun r J => J = I ∧ naT I q True v K t r) := by
  have hk := hN.2.1 v hv.1 hv.2
  have hW := hN.1
  have ga := opn_ge (hN.2.2 (I 24 v) hk.1.1 hk.1.2) ht.1
  have gb := opn_ge (hN.2.2 (I 25 v) hk.2.1.1 hk.2.1.2) ht.1
  have hK2 := hK.2
  replace hK := hK.1
  intro Q h
  refine C_of rfl (Nat.le_of_ble_eq_true rfl) rfl ?_
  refine m_aload_n dX4_notAhead_0 rfl ?_
  refine m_aload_n dX4_notAhead_1 rfl ?_
  refine m_gr (z := 2) dX4_notAhead_2 fl_X4_18 oX_21 rfl rfl rX_21_2 ?_
  refine m_iload_n dX4_notAhead_5 rfl ?_
  refine m_iald dX4_notAhead_6 sX_24 (by omega) (by omega) ?_
  refine m_iload_n dX4_notAhead_7 rfl ?_
  refine m_Vi [_, _] dX4_notAhead_8 lk_X4_110 rfl oX_21 rfl (Nat.le_of_ble_eq_true rfl) (by omega) (x_opening ⟨by omega, by omega⟩ hN ht) ?_
  refine m_aload_n dX4_notAhead_11 rfl ?_
  refine m_aload_n dX4_notAhead_12 rfl ?_
  refine m_gr (z := 3) dX4_notAhead_13 fl_X4_21 oX_21 rfl rfl rX_21_3 ?_
  refine m_iload_n dX4_notAhead_16 rfl ?_
  refine m_iald dX4_notAhead_17 sX_25 (by omega) (by omega) ?_
  refine m_iload_n dX4_notAhead_18 rfl ?_
  refine m_Vi [_, _] dX4_notAhead_19 lk_X4_110 rfl oX_21 rfl (Nat.le_of_ble_eq_true rfl) (by omega) (x_opening ⟨by omega, by omega⟩ hN ht) ?_
  refine m_max dX4_notAhead_22 lk_X4_113 (by omega) (Nat.le_of_ble_eq_true rfl) ?_
  refine m_istore dX4_notAhead_25 (by decide) rfl rfl ?_
  refine m_iload dX4_notAhead_27 rfl ?_
  refine m_aload_n dX4_notAhead_29 rfl ?_
  refine m_gr (z := 6) dX4_notAhead_30 fl_X4_36 oX_21 rfl rfl rX_21_6 ?_
  refine m_iload_n dX4_notAhead_33 rfl ?_
  refine m_iload_n dX4_notAhead_34 rfl ?_
  refine m_iload_n dX4_notAhead_35 rfl ?_
  refine m_iload_n dX4_notAhead_36 rfl ?_
  refine m_iadd dX4_notAhead_37 (by omega) ?_
  refine m_VI [_, _, _] dX4_notAhead_38 lk_X4_116 rfl oX_28 rfl (Nat.le_of_ble_eq_true rfl) (by omega) (x_endOf28 (by omega) h1) ?_
  intro r38 I38 q38
  obtain ⟨e38, q38⟩ := q38
  replace e38 := e38.symm
  subst e38
  have y1 := q38.1
  refine m_iconst dX4_notAhead_41 (by decide) ?_
  refine m_iadd dX4_notAhead_42 (by omega) ?_
  refine m_max dX4_notAhead_43 lk_X4_113 (by omega) (Nat.le_of_ble_eq_true rfl) ?_
  refine m_istore dX4_notAhead_46 (by decide) rfl rfl ?_
  refine m_iload dX4_notAhead_48 rfl ?_
  refine m_aload_n dX4_notAhead_50 rfl ?_
  refine m_gr (z := 7) dX4_notAhead_51 fl_X4_40 oX_21 rfl rfl rX_21_7 ?_
  refine m_iload_n dX4_notAhead_54 rfl ?_
  refine m_iload_n dX4_notAhead_55 rfl ?_
  refine m_iload_n dX4_notAhead_56 rfl ?_
  refine m_iload_n dX4_notAhead_57 rfl ?_
  refine m_iadd dX4_notAhead_58 (by omega) ?_
  refine m_VI [_, _, _] dX4_notAhead_59 lk_X4_116 rfl oX_32 rfl (Nat.le_of_ble_eq_true rfl) (by omega) (x_endOf32 (by omega) h2) ?_
  intro r59 I59 q59
  obtain ⟨e59, q59⟩ := q59
  replace e59 := e59.symm
  subst e59
  have y2 := q59.1
  refine m_iconst dX4_notAhead_62 (by decide) ?_
  refine m_iadd dX4_notAhead_63 (by omega) ?_
  refine m_max dX4_notAhead_64 lk_X4_113 (by omega) (Nat.le_of_ble_eq_true rfl) ?_
  refine m_istore dX4_notAhead_67 (by decide) rfl rfl ?_
  refine m_aload dX4_notAhead_69 rfl ?_
  refine m_ifnull dX4_notAhead_71 ?_
  refine m_aload dX4_notAhead_74 rfl ?_
  refine m_iload_n dX4_notAhead_76 rfl ?_
  refine m_Ni [_] dX4_notAhead_77 lk_X4_120 rfl rfl (Nat.le_of_ble_eq_true rfl) (by omega) (x_hourOf (by omega)) ?_
  refine m_Vi [_] dX4_notAhead_80 lk_X4_123 rfl hO.1 rfl (Nat.le_of_ble_eq_true rfl) (by omega) (x_isNight (by omega) hO) ?_
  refine m_if_ne (tgt := 102) dX4_notAhead_83 (by decide) (fun c83 => ?_) (fun c83 => ?_)
  · have z83 := bP_ne0 c83
    refine m_iload dX4_notAhead_102 rfl ?_
    refine m_iret dX4_notAhead_104 rfl ?_
    first
    | (have hz := na_of (q := q) (pr := True) hN h1 h2 hv ht hK q38 q59 (nx := t) (by omega) (fun t' a b => by omega) (fun _ _ => z83)
       rw [show max (max (max (max (opn I (I 24 v) t) (opn I (I 25 v) t)) (r38 + 1)) (r59 + 1)) t = max (max (max (opn I (I 24 v) t) (opn I (I 25 v) t)) (r38 + 1)) (r59 + 1) by omega] at hz
       exact h _ _ ⟨rfl, hz⟩)
    | (have hz := na_of (q := q) (pr := True) hN h1 h2 hv ht hK q38 q59 (nx := t + 60 - t % 60) (by omega) (fun t' a b f => z83 (by have := f trivial; rw [show t' % 1440 / 60 = t % 1440 / 60 by omega] at this; exact this)) (fun e => by omega)
       exact h _ _ ⟨rfl, hz⟩)
  · have z83 := bP_eq0 (show _ = (0 : Int) by omega)
    refine m_iload dX4_notAhead_86 rfl ?_
    refine m_iload_n dX4_notAhead_88 rfl ?_
    refine m_bipush dX4_notAhead_89 rfl (by decide) ?_
    refine m_iadd dX4_notAhead_91 (by omega) ?_
    refine m_iload_n dX4_notAhead_92 rfl ?_
    refine m_bipush dX4_notAhead_93 rfl (by decide) ?_
    refine m_irem dX4_notAhead_95 (by omega) (by omega) ?_
    refine m_isub dX4_notAhead_96 (by omega) ?_
    refine m_max dX4_notAhead_97 lk_X4_113 (by omega) (Nat.le_of_ble_eq_true rfl) ?_
    refine m_istore dX4_notAhead_100 (by decide) rfl rfl ?_
    refine m_iload dX4_notAhead_102 rfl ?_
    refine m_iret dX4_notAhead_104 rfl ?_
    first
    | (have hz := na_of (q := q) (pr := True) hN h1 h2 hv ht hK q38 q59 (nx := t) (by omega) (fun t' a b => by omega) (fun _ _ => z83)
       rw [show max (max (max (max (opn I (I 24 v) t) (opn I (I 25 v) t)) (r38 + 1)) (r59 + 1)) t = max (max (max (opn I (I 24 v) t) (opn I (I 25 v) t)) (r38 + 1)) (r59 + 1) by omega] at hz
       exact h _ _ ⟨rfl, hz⟩)
    | (have hz := na_of (q := q) (pr := True) hN h1 h2 hv ht hK q38 q59 (nx := t + 60 - t % 60) (by omega) (fun t' a b f => z83 (by have := f trivial; rw [show t' % 1440 / 60 = t % 1440 / 60 by omega] at this; exact this)) (fun e => by omega)
       exact h _ _ ⟨rfl, hz⟩)
theorem x_st_loopO {q a b c : Nat} (hO : OrdAt (shX nm no) (RX nm no) q a b c) {v m K l : Int} {Q : QT} (hd : 3 ≤ d) (hN : NetI I) (h1 : StI I 28 29 30 31 12) (h2 : StI I 32 33 34 35 6) (hv : 0 ≤ v ∧ v < I 21 9) (hm : 0 ≤ m ∧ m ≤ 13000) (hK : 0 ≤ K ∧ K ≤ 1000) (hl : l ≤ m + 3000 ∧ l ≤ 13000) (h : ∀ r, fsT I q True v K m l r → Q (some (vi r)) (shX nm no) (RX nm no) I) :
    ∀ (n k : Nat) (s : Int) (l8 : Option AV), (3001 - k) < n → k ≤ 3001 → m + k ≤ s → s ≤ 40000 → (∀ t, m ≤ t → t < s → ¬ sokT I q True v K t) → T g d mX4_startFrom 0 0 6 [some (vr 21), some (vi v), some (vi m), some (vi K), some (vi l), some (vr q), some (vi s), some (vi k), l8] [] (shX nm no) (RX nm no) I Q := by
  intro n
  induction n with
  | zero => intro k s l8 hn; omega
  | succ n ih =>
    intro k s l8 hn hk hs hs2 hno
    refine m_iload dX4_startFrom_6 rfl ?_
    refine m_sipush dX4_startFrom_8 rfl (by decide) ?_
    refine m_icmp_gt (tgt := 53) dX4_startFrom_11 (by decide) (fun c11 => ?_) (fun c11 => ?_)
    · refine m_iconst dX4_startFrom_53 (by decide) ?_
      refine m_iret dX4_startFrom_54 rfl ?_
      exact h _ (Or.inl ⟨rfl, fun t t0 t1 => hno t t0 (by omega)⟩)
    · refine m_iload dX4_startFrom_14 rfl ?_
      refine m_iload dX4_startFrom_16 rfl ?_
      refine m_icmp_gt (tgt := 53) dX4_startFrom_18 (by decide) (fun c18 => ?_) (fun c18 => ?_)
      · refine m_iconst dX4_startFrom_53 (by decide) ?_
        refine m_iret dX4_startFrom_54 rfl ?_
        exact h _ (Or.inl ⟨rfl, fun t t0 t1 => hno t t0 (by omega)⟩)
      · refine m_aload_n dX4_startFrom_21 rfl ?_
        refine m_iload_n dX4_startFrom_22 rfl ?_
        refine m_iload dX4_startFrom_23 rfl ?_
        refine m_iload_n dX4_startFrom_25 rfl ?_
        refine m_aload dX4_startFrom_26 rfl ?_
        refine m_VI [_, _, _, _] dX4_startFrom_28 lk_X4_106 rfl oX_21 rfl (Nat.le_of_ble_eq_true rfl) (by omega) (x_notAheadO hO (by omega) hN h1 h2 hv ⟨by omega, by omega⟩ hK) ?_
        intro r28 I28 q28
        obtain ⟨e28, q28⟩ := q28
        replace e28 := e28.symm
        subst e28
        have y1 := q28.1
        refine m_istore dX4_startFrom_31 (by decide) rfl rfl ?_
        refine m_iload dX4_startFrom_33 rfl ?_
        refine m_iload dX4_startFrom_35 rfl ?_
        refine m_icmp_ne (tgt := 43) dX4_startFrom_37 (by decide) (fun c37 => ?_) (fun c37 => ?_)
        · refine m_iload dX4_startFrom_43 rfl ?_
          refine m_istore dX4_startFrom_45 (by decide) rfl rfl ?_
          refine m_iinc dX4_startFrom_47 rfl (by decide) rfl rfl (by omega) ?_
          refine m_goto (tgt := 6) dX4_startFrom_50 (by decide) ?_
          refine ih (k + 1) r28 _ (by omega) (by omega) (by omega) (by omega) (fun t t0 t1 => ?_)
          rcases (show t < s ∨ s ≤ t by omega) with z | z
          · exact hno t t0 z
          · exact q28.2.1 t z t1
        · refine m_iload dX4_startFrom_40 rfl ?_
          refine m_iret dX4_startFrom_42 rfl ?_
          exact h _ (Or.inr ⟨by omega, q28.2.2 (by omega), hno⟩)
theorem x_startFromO {q a b c : Nat} (hO : OrdAt (shX nm no) (RX nm no) q a b c) {v m K l : Int} (hd : 3 ≤ d) (hN : NetI I) (h1 : StI I 28 29 30 31 12) (h2 : StI I 32 33 34 35 6) (hv : 0 ≤ v ∧ v < I 21 9) (hm : 0 ≤ m ∧ m ≤ 13000) (hK : 0 ≤ K ∧ K ≤ 1000) (hl : l ≤ m + 3000 ∧ l ≤ 13000) : SI g d mX4_startFrom [vr 21, vi v, vi m, vi K, vi l, vr q] (shX nm no) (RX nm no) I (fun r J => J = I ∧ fsT I q True v K m l r) := by
  intro Q h
  refine C_of rfl (Nat.le_of_ble_eq_true rfl) rfl ?_
  refine m_iload_n dX4_startFrom_0 rfl ?_
  refine m_istore dX4_startFrom_1 (by decide) rfl rfl ?_
  refine m_iconst dX4_startFrom_3 (by decide) ?_
  refine m_istore dX4_startFrom_4 (by decide) rfl rfl ?_
  exact x_st_loopO hO hd hN h1 h2 hv hm hK hl (fun r hr => h r I ⟨rfl, hr⟩) 3002 0 m _ (by omega) (by omega) (by omega) (by omega) (fun t a b => by omega)
end
