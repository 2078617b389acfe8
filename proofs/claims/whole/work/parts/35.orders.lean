/-! ORDERS, LAW, MESSAGE -/
/-- an object of Orders at q with its rows a (ranks), b (pays), c (knownFrom) -/
def OrdAt (sh : SH) (R : RR) (q a b c : Nat) : Prop := (sh q).1 = 5 + 1 ∧ R q 0 = some a ∧ R q 1 = some b ∧ R q 2 = some c ∧ sh a = (20, 5) ∧ sh b = (20, 5) ∧ sh c = (20, 8)
theorem ord_none {nm no : Nat} : OrdAt (shX nm no) (RX nm no) 38 39 40 41 := ⟨rfl, rfl, rfl, rfl, rfl, rfl, rfl⟩
theorem ord_at {nm no k : Nat} (hk : k ≤ no) (hm : nm ≤ 24) (ho : no ≤ 6) : OrdAt (shX nm no) (RX nm no) (300 + k) (310 + k) (320 + k) (330 + k) := by
  have h0 := rX_ord (nm := nm) hk 0 (by decide)
  have h1 := rX_ord (nm := nm) hk 1 (by decide)
  have h2 := rX_ord (nm := nm) hk 2 (by decide)
  rw [show 300 + k + 10 + 10 * 0 = 310 + k by omega] at h0
  rw [show 300 + k + 10 + 10 * 1 = 320 + k by omega] at h1
  rw [show 300 + k + 10 + 10 * 2 = 330 + k by omega] at h2
  exact ⟨sX_ord hk hm, h0, h1, h2, sX_ordR hk hm ho, sX_ordP hk hm ho, sX_ordK hk hm ho⟩
/-- the id of orders n; of no orders, if there are none of that number -/
def oid (no : Nat) (n : Int) : Nat := if 0 ≤ n ∧ n < no then 300 + n.toNat else 38
def orw (q j : Nat) : Nat := if q = 38 then 39 + j else q + 10 + 10 * j
theorem ord_id {nm no : Nat} (hm : nm ≤ 24) (ho : no ≤ 6) (n : Int) : OrdAt (shX nm no) (RX nm no) (oid no n) (orw (oid no n) 0) (orw (oid no n) 1) (orw (oid no n) 2) := by
  unfold oid
  split
  · have := ord_at (nm := nm) (no := no) (k := n.toNat) (by omega) hm ho
    unfold orw
    rw [if_neg (by omega), if_neg (by omega), if_neg (by omega)]
    have e0 : 300 + n.toNat + 10 + 10 * 0 = 310 + n.toNat := by omega
    have e1 : 300 + n.toNat + 10 + 10 * 1 = 320 + n.toNat := by omega
    have e2 : 300 + n.toNat + 10 + 10 * 2 = 330 + n.toNat := by omega
    rw [e2, e1, e0]
    exact this
  · exact ord_none
def nightX (I : II) (q : Nat) (t : Int) : Prop := if I q 7 < I q 6 then (I q 6 ≤ t ∨ t ≤ I q 7) else (I q 6 ≤ t ∧ t ≤ I q 7)
def twX (I : II) (q : Nat) (k : Int) : Prop := k = 4 ∨ bt (I q 3) k
def wsX (I : II) (q : Nat) (n k : Int) : Int := if k = 4 ∨ (I q 3).toNat.testBit k.toNat = true then 2 * n else n
/-- which of the first n orders an office goes by in a minute; -1: none -/
def gbF (I : II) (o t : Int) : Nat → Int
  | 0 => -1
  | n + 1 => if I (330 + n) o ≠ -1 ∧ I (330 + n) o ≤ t then n else gbF I o t n
theorem gbF_bd (I : II) (o t : Int) : ∀ n : Nat, -1 ≤ gbF I o t n ∧ gbF I o t n < n
  | 0 => ⟨by unfold gbF; omega, by unfold gbF; omega⟩
  | n + 1 => by
    have := gbF_bd I o t n
    unfold gbF
    split <;> omega
abbrev goX (I : II) (no : Nat) (o t : Int) : Nat := oid no (gbF I o t no)
section
variable {g : GH} {d nm no : Nat} {sh : SH} {R : RR} {I : II} {q a b c : Nat}
theorem x_isKnown {v t : Int} (ho : OrdAt sh R q a b c) (h0 : 0 ≤ v) (h1 : v < 8) : SP g d mX5_isKnown 0 0 [vr q, vi v, vi t] sh R I (some (vi (bI (I c v ≠ -1 ∧ I c v ≤ t)))) sh R I := by
  intro Q h
  refine C_of rfl (Nat.le_of_ble_eq_true rfl) rfl ?_
  refine m_aload_n dX5_isKnown_0 rfl ?_
  refine m_gr (z := 2) dX5_isKnown_1 fl_X5_18 ho.1 rfl rfl ho.2.2.2.1 ?_
  refine m_iload_n dX5_isKnown_4 rfl ?_
  refine m_iald dX5_isKnown_5 ho.2.2.2.2.2.2 (by omega) (by omega) ?_
  refine m_iconst dX5_isKnown_6 (by decide) ?_
  refine m_icmp_eq (tgt := 24) dX5_isKnown_7 (by decide) (fun c7 => ?_) (fun c7 => ?_)
  · refine m_iconst dX5_isKnown_24 (by decide) ?_
    refine m_zret dX5_isKnown_25 rfl (by omega) ?_
    rw [bI_f (by omega)] at h; exact h
  · refine m_aload_n dX5_isKnown_10 rfl ?_
    refine m_gr (z := 2) dX5_isKnown_11 fl_X5_18 ho.1 rfl rfl ho.2.2.2.1 ?_
    refine m_iload_n dX5_isKnown_14 rfl ?_
    refine m_iald dX5_isKnown_15 ho.2.2.2.2.2.2 (by omega) (by omega) ?_
    refine m_iload_n dX5_isKnown_16 rfl ?_
    refine m_icmp_gt (tgt := 24) dX5_isKnown_17 (by decide) (fun c17 => ?_) (fun c17 => ?_)
    · refine m_iconst dX5_isKnown_24 (by decide) ?_
      refine m_zret dX5_isKnown_25 rfl (by omega) ?_
      rw [bI_f (by omega)] at h; exact h
    · refine m_iconst dX5_isKnown_20 (by decide) ?_
      refine m_goto (tgt := 25) dX5_isKnown_21 (by decide) ?_
      refine m_zret dX5_isKnown_25 rfl (by omega) ?_
      rw [bI_t (by omega)] at h; exact h
theorem x_isNight {t : Int} (hd : 1 ≤ d) (ho : OrdAt sh R q a b c) : SP g d mX5_isNight 0 0 [vr q, vi t] sh R I (some (vi (bP (nightX I q t)))) sh R I := by
  intro Q h
  refine C_of rfl (Nat.le_of_ble_eq_true rfl) rfl ?_
  refine m_aload_n dX5_isNight_0 rfl ?_
  refine m_gi (z := 7) dX5_isNight_1 fl_X5_52 ho.1 rfl rfl ?_
  refine m_aload_n dX5_isNight_4 rfl ?_
  refine m_gi (z := 6) dX5_isNight_5 fl_X5_49 ho.1 rfl rfl ?_
  refine m_icmp_ge (tgt := 33) dX5_isNight_8 (by decide) (fun c8 => ?_) (fun c8 => ?_)
  · refine m_iload_n dX5_isNight_33 rfl ?_
    refine m_aload_n dX5_isNight_34 rfl ?_
    refine m_gi (z := 6) dX5_isNight_35 fl_X5_49 ho.1 rfl rfl ?_
    refine m_aload_n dX5_isNight_38 rfl ?_
    refine m_gi (z := 7) dX5_isNight_39 fl_X5_52 ho.1 rfl rfl ?_
    refine m_Ni [_, _, _] dX5_isNight_42 lk_X5_55 rfl rfl (Nat.le_of_ble_eq_true rfl) (by omega) x_isWithin ?_
    refine m_zret dX5_isNight_45 rfl bI_01 ?_
    rw [bP_iff (show nightX I q t ↔ _ from by unfold nightX; rw [if_neg (by omega)]), ← bI_bP] at h; exact h
  · refine m_iload_n dX5_isNight_11 rfl ?_
    refine m_aload_n dX5_isNight_12 rfl ?_
    refine m_gi (z := 6) dX5_isNight_13 fl_X5_49 ho.1 rfl rfl ?_
    refine m_icmp_ge (tgt := 27) dX5_isNight_16 (by decide) (fun c16 => ?_) (fun c16 => ?_)
    · refine m_iconst dX5_isNight_27 (by decide) ?_
      refine m_goto (tgt := 32) dX5_isNight_28 (by decide) ?_
      refine m_zret dX5_isNight_32 rfl (by omega) ?_
      rw [bP_t (show  nightX I q t by unfold nightX; rw [if_pos (by omega)]; omega)] at h; exact h
    · refine m_iload_n dX5_isNight_19 rfl ?_
      refine m_aload_n dX5_isNight_20 rfl ?_
      refine m_gi (z := 7) dX5_isNight_21 fl_X5_52 ho.1 rfl rfl ?_
      refine m_icmp_gt (tgt := 31) dX5_isNight_24 (by decide) (fun c24 => ?_) (fun c24 => ?_)
      · refine m_iconst dX5_isNight_31 (by decide) ?_
        refine m_zret dX5_isNight_32 rfl (by omega) ?_
        rw [bP_f (show ¬ nightX I q t by unfold nightX; rw [if_pos (by omega)]; omega)] at h; exact h
      · refine m_iconst dX5_isNight_27 (by decide) ?_
        refine m_goto (tgt := 32) dX5_isNight_28 (by decide) ?_
        refine m_zret dX5_isNight_32 rfl (by omega) ?_
        rw [bP_t (show  nightX I q t by unfold nightX; rw [if_pos (by omega)]; omega)] at h; exact h
theorem x_isSentTwice {k : Int} (hd : 1 ≤ d) (ho : OrdAt sh R q a b c) (hr : 0 ≤ I q 3) (h0 : 0 ≤ k) (h1 : k < 32) : SP g d mX5_isSentTwice 0 0 [vr q, vi k] sh R I (some (vi (bI (k = 4 ∨ bt (I q 3) k)))) sh R I := by
  intro Q h
  refine C_of rfl (Nat.le_of_ble_eq_true rfl) rfl ?_
  refine m_iload_n dX5_isSentTwice_0 rfl ?_
  refine m_iconst dX5_isSentTwice_1 (by decide) ?_
  refine m_icmp_eq (tgt := 16) dX5_isSentTwice_2 (by decide) (fun c2 => ?_) (fun c2 => ?_)
  · have z2 : k = 4 ∨ bt (I q 3) k := Or.inl (by omega)
    refine m_iconst dX5_isSentTwice_16 (by decide) ?_
    refine m_goto (tgt := 21) dX5_isSentTwice_17 (by decide) ?_
    refine m_zret dX5_isSentTwice_21 rfl (by omega) ?_
    rw [bI_t z2] at h; exact h
  · refine m_aload_n dX5_isSentTwice_5 rfl ?_
    refine m_gi (z := 3) dX5_isSentTwice_6 fl_X5_39 ho.1 rfl rfl ?_
    refine m_iload_n dX5_isSentTwice_9 rfl ?_
    refine m_Ni [_, _] dX5_isSentTwice_10 lk_X5_59 rfl rfl (Nat.le_of_ble_eq_true rfl) (by omega) (x_isIn hr h0 h1) ?_
    refine m_if_eq (tgt := 20) dX5_isSentTwice_13 (by decide) (fun c13 => ?_) (fun c13 => ?_)
    · have z := bI_eq0 c13
      have z2 : ¬ (k = 4 ∨ bt (I q 3) k) := fun y => y.elim (fun e => by omega) z
      refine m_iconst dX5_isSentTwice_20 (by decide) ?_
      refine m_zret dX5_isSentTwice_21 rfl (by omega) ?_
      rw [bI_f z2] at h; exact h
    · have z := bI_ne0 c13
      have z2 : k = 4 ∨ bt (I q 3) k := Or.inr z
      refine m_iconst dX5_isSentTwice_16 (by decide) ?_
      refine m_goto (tgt := 21) dX5_isSentTwice_17 (by decide) ?_
      refine m_zret dX5_isSentTwice_21 rfl (by omega) ?_
      rw [bI_t z2] at h; exact h
theorem x_wordsSent {n k : Int} (hd : 2 ≤ d) (ho : OrdAt sh R q a b c) (hr : 0 ≤ I q 3) (h0 : 0 ≤ k) (h1 : k < 32) (hn : 0 ≤ n ∧ n ≤ 1000) : SP g d mX5_wordsSent 0 0 [vr q, vi n, vi k] sh R I (some (vi (wsX I q n k))) sh R I := by
  intro Q h
  refine C_of rfl (Nat.le_of_ble_eq_true rfl) rfl ?_
  refine m_aload_n dX5_wordsSent_0 rfl ?_
  refine m_iload_n dX5_wordsSent_1 rfl ?_
  refine m_Vi [_] dX5_wordsSent_2 lk_X5_63 rfl ho.1 rfl (Nat.le_of_ble_eq_true rfl) (by omega) (x_isSentTwice (by omega) ho hr h0 h1) ?_
  refine m_if_eq (tgt := 14) dX5_wordsSent_5 (by decide) (fun c5 => ?_) (fun c5 => ?_)
  · have z := bI_eq0 c5
    rw [show wsX I q n k = n from if_neg z] at h
    refine m_iload_n dX5_wordsSent_14 rfl ?_
    refine m_iret dX5_wordsSent_15 rfl ?_
    exact h
  · have z := bI_ne0 c5
    rw [show wsX I q n k = 2 * n from if_pos z] at h
    refine m_iconst dX5_wordsSent_8 (by decide) ?_
    refine m_iload_n dX5_wordsSent_9 rfl ?_
    refine m_imul dX5_wordsSent_10 (by omega) ?_
    refine m_goto (tgt := 15) dX5_wordsSent_11 (by decide) ?_
    refine m_iret dX5_wordsSent_15 rfl ?_
    exact h
theorem x_price {n k : Int} (hd : 1 ≤ d) (ho : OrdAt sh R q a b c) (h0 : 0 ≤ k) (h1 : k < 5) (hn : 0 ≤ n ∧ n ≤ 99) (hp : 0 ≤ I b k ∧ I b k ≤ 99) : SP g d mX5_price 0 0 [vr q, vi n, vi k] sh R I (some (vi (max (n * I b k) (I q 4)))) sh R I := by
  have hm : 0 ≤ n * I b k ∧ n * I b k ≤ 99 * 99 := ⟨Int.mul_nonneg hn.1 hp.1, Int.mul_le_mul hn.2 hp.2 hp.1 (by omega)⟩
  intro Q h
  refine C_of rfl (Nat.le_of_ble_eq_true rfl) rfl ?_
  refine m_iload_n dX5_price_0 rfl ?_
  refine m_aload_n dX5_price_1 rfl ?_
  refine m_gr (z := 1) dX5_price_2 fl_X5_15 ho.1 rfl rfl ho.2.2.1 ?_
  refine m_iload_n dX5_price_5 rfl ?_
  refine m_iald dX5_price_6 ho.2.2.2.2.2.1 (by omega) (by omega) ?_
  refine m_imul dX5_price_7 (by omega) ?_
  refine m_aload_n dX5_price_8 rfl ?_
  refine m_gi (z := 4) dX5_price_9 fl_X5_43 ho.1 rfl rfl ?_
  refine m_max dX5_price_12 lk_X5_67 (by omega) (Nat.le_of_ble_eq_true rfl) ?_
  refine m_iret dX5_price_15 rfl ?_
  exact h
end
section
variable {g : GH} {d nm no : Nat} {I : II}
theorem x_numbered {n : Int} (hd : 1 ≤ d) (hm : nm ≤ 24) (hno : no ≤ 6) (hc : I 37 3 = no) : SP g d mX2_numbered 0 0 [vr 37, vi n] (shX nm no) (RX nm no) I (some (vr (oid no n))) (shX nm no) (RX nm no) I := by
  intro Q h
  refine C_of rfl (Nat.le_of_ble_eq_true rfl) rfl ?_
  refine m_iload_n dX2_numbered_0 rfl ?_
  refine m_iconst dX2_numbered_1 (by decide) ?_
  refine m_aload_n dX2_numbered_2 rfl ?_
  refine m_gi (z := 3) dX2_numbered_3 fl_X2_29 oX_37 rfl rfl ?_
  refine m_iconst dX2_numbered_6 (by decide) ?_
  refine m_isub dX2_numbered_7 (by omega) ?_
  refine m_Ni [_, _, _] dX2_numbered_8 lk_X2_32 rfl rfl (Nat.le_of_ble_eq_true rfl) (by omega) x_isWithin ?_
  refine m_if_eq (tgt := 23) dX2_numbered_11 (by decide) (fun c11 => ?_) (fun c11 => ?_)
  · have z := bI_eq0 c11
    rw [show oid no n = 38 from if_neg (by omega)] at h
    refine m_aload_n dX2_numbered_23 rfl ?_
    refine m_gr (z := 0) dX2_numbered_24 fl_X2_12 oX_37 rfl rfl rX_37_0 ?_
    refine m_aret dX2_numbered_27 rfl ?_
    exact h
  · have z := bI_ne0 c11
    rw [show oid no n = 300 + n.toNat from if_pos (by omega)] at h
    refine m_aload_n dX2_numbered_14 rfl ?_
    refine m_gr (z := 1) dX2_numbered_15 fl_X2_18 oX_37 rfl rfl rX_37_1 ?_
    refine m_iload_n dX2_numbered_18 rfl ?_
    refine m_al dX2_numbered_19 sX_42 (by decide) (by omega) (by omega) (rX_forced (by omega) (by omega)) ?_
    refine m_goto (tgt := 27) dX2_numbered_20 (by decide) ?_
    refine m_aret dX2_numbered_27 rfl ?_
    exact h
theorem x_ngb_loop {v t : Int} {Q : QT} (hd : 1 ≤ d) (hm : nm ≤ 24) (hno : no ≤ 6) (h0 : 0 ≤ v) (h1 : v < 8) : ∀ (n : Nat), n ≤ no → Q (some (vi (gbF I v t n))) (shX nm no) (RX nm no) I → T g d mX2_numberGoneBy 0 0 7 [some (vr 37), some (vi v), some (vi t), some (vi ((n : Int) - 1))] [] (shX nm no) (RX nm no) I Q := by
  intro n
  induction n with
  | zero =>
    intro hn h
    refine m_iload_n dX2_numberGoneBy_7 rfl ?_
    refine m_if_lt (tgt := 33) dX2_numberGoneBy_8 (by decide) (fun c8 => ?_) (fun c8 => ?_)
    · refine m_iconst dX2_numberGoneBy_33 (by decide) ?_
      refine m_iret dX2_numberGoneBy_34 rfl ?_
      exact h
    · omega
  | succ n ih =>
    intro hn h
    have ho := ord_at (nm := nm) (no := no) (k := n) (by omega) hm hno
    refine m_iload_n dX2_numberGoneBy_7 rfl ?_
    refine m_if_lt (tgt := 33) dX2_numberGoneBy_8 (by decide) (fun c8 => ?_) (fun c8 => ?_)
    · omega
    · refine m_aload_n dX2_numberGoneBy_11 rfl ?_
      refine m_gr (z := 1) dX2_numberGoneBy_12 fl_X2_18 oX_37 rfl rfl rX_37_1 ?_
      refine m_iload_n dX2_numberGoneBy_15 rfl ?_
      refine m_al dX2_numberGoneBy_16 sX_42 (by decide) (by omega) (by omega) (show RX nm no 42 (((n + 1 : Nat) : Int) - 1) = some (300 + n) by rw [rX_forced (by omega) (by omega)]; congr 1; omega) ?_
      refine m_iload_n dX2_numberGoneBy_17 rfl ?_
      refine m_iload_n dX2_numberGoneBy_18 rfl ?_
      refine m_Vi [_, _] dX2_numberGoneBy_19 lk_X2_36 rfl ho.1 rfl (Nat.le_of_ble_eq_true rfl) (by omega) (x_isKnown ho h0 h1) ?_
      refine m_if_eq (tgt := 27) dX2_numberGoneBy_22 (by decide) (fun c22 => ?_) (fun c22 => ?_)
      · have z := bI_eq0 c22
        rw [show gbF I v t (n + 1) = gbF I v t n from if_neg z] at h
        refine m_iinc dX2_numberGoneBy_27 rfl (by decide) rfl rfl (by omega) ?_
        refine m_goto (tgt := 7) dX2_numberGoneBy_30 (by decide) ?_
        have e := ih (by omega) h
        rw [show ((n : Int) - 1) = ((n + 1 : Nat) : Int) - 1 + -1 by omega] at e
        exact e
      · have z := bI_ne0 c22
        rw [show gbF I v t (n + 1) = n from if_pos z] at h
        refine m_iload_n dX2_numberGoneBy_25 rfl ?_
        refine m_iret dX2_numberGoneBy_26 rfl ?_
        rw [show (((n + 1 : Nat) : Int) - 1) = n by omega]
        exact h
theorem x_numberGoneBy {v t : Int} (hd : 1 ≤ d) (hm : nm ≤ 24) (hno : no ≤ 6) (hc : I 37 3 = no) (h0 : 0 ≤ v) (h1 : v < 8) : SP g d mX2_numberGoneBy 0 0 [vr 37, vi v, vi t] (shX nm no) (RX nm no) I (some (vi (gbF I v t no))) (shX nm no) (RX nm no) I := by
  intro Q h
  refine C_of rfl (Nat.le_of_ble_eq_true rfl) rfl ?_
  refine m_aload_n dX2_numberGoneBy_0 rfl ?_
  refine m_gi (z := 3) dX2_numberGoneBy_1 fl_X2_29 oX_37 rfl rfl ?_
  rw [hc]
  refine m_iconst dX2_numberGoneBy_4 (by decide) ?_
  refine m_isub dX2_numberGoneBy_5 (by omega) ?_
  refine m_istore_n dX2_numberGoneBy_6 (by decide) rfl rfl ?_
  exact x_ngb_loop hd hm hno h0 h1 no (Nat.le_refl _) h
theorem x_goneBy {v t : Int} (hd : 2 ≤ d) (hm : nm ≤ 24) (hno : no ≤ 6) (hc : I 37 3 = no) (h0 : 0 ≤ v) (h1 : v < 8) : SP g d mX2_goneBy 0 0 [vr 37, vi v, vi t] (shX nm no) (RX nm no) I (some (vr (goX I no v t))) (shX nm no) (RX nm no) I := by
  intro Q h
  refine C_of rfl (Nat.le_of_ble_eq_true rfl) rfl ?_
  refine m_aload_n dX2_goneBy_0 rfl ?_
  refine m_aload_n dX2_goneBy_1 rfl ?_
  refine m_iload_n dX2_goneBy_2 rfl ?_
  refine m_iload_n dX2_goneBy_3 rfl ?_
  refine m_Vi [_, _] dX2_goneBy_4 lk_X2_40 rfl oX_37 rfl (Nat.le_of_ble_eq_true rfl) (by omega) (x_numberGoneBy (by omega) hm hno hc h0 h1) ?_
  refine m_Vr [_] dX2_goneBy_7 lk_X2_44 rfl oX_37 rfl (Nat.le_of_ble_eq_true rfl) (by omega) (x_numbered (by omega) hm hno hc) ?_
  refine m_aret dX2_goneBy_10 rfl ?_
  exact h
end
section
variable {g : GH} {d : Nat} {sh : SH} {R : RR} {I : II} {q q2 : Nat}
theorem x_waits (hq : (sh q).1 = 3 + 1) : SP g d mX3_waitsOnTheWay 0 0 [vr q] sh R I (some (vi (bI (I q 5 = 0 ∧ I q 6 ≠ I q 0)))) sh R I := by
  intro Q h
  refine C_of rfl (Nat.le_of_ble_eq_true rfl) rfl ?_
  refine m_aload_n dX3_waitsOnTheWay_0 rfl ?_
  refine m_gi (z := 5) dX3_waitsOnTheWay_1 fl_X3_9 hq rfl rfl ?_
  refine m_if_ne (tgt := 22) dX3_waitsOnTheWay_4 (by decide) (fun c4 => ?_) (fun c4 => ?_)
  · refine m_iconst dX3_waitsOnTheWay_22 (by decide) ?_
    refine m_zret dX3_waitsOnTheWay_23 rfl (by omega) ?_
    rw [bI_f (by omega)] at h; exact h
  · refine m_aload_n dX3_waitsOnTheWay_7 rfl ?_
    refine m_gi (z := 6) dX3_waitsOnTheWay_8 fl_X3_36 hq rfl rfl ?_
    refine m_aload_n dX3_waitsOnTheWay_11 rfl ?_
    refine m_gi (z := 0) dX3_waitsOnTheWay_12 fl_X3_39 hq rfl rfl ?_
    refine m_icmp_eq (tgt := 22) dX3_waitsOnTheWay_15 (by decide) (fun c15 => ?_) (fun c15 => ?_)
    · refine m_iconst dX3_waitsOnTheWay_22 (by decide) ?_
      refine m_zret dX3_waitsOnTheWay_23 rfl (by omega) ?_
      rw [bI_f (by omega)] at h; exact h
    · refine m_iconst dX3_waitsOnTheWay_18 (by decide) ?_
      refine m_goto (tgt := 23) dX3_waitsOnTheWay_19 (by decide) ?_
      refine m_zret dX3_waitsOnTheWay_23 rfl (by omega) ?_
      rw [bI_t (by omega)] at h; exact h
theorem x_setOut {v t : Int} (hq : (sh q).1 = 3 + 1) : SP g d mX3_setOut 0 0 [vr q, vi v, vi t] sh R I none sh R (upI (upI (upI I q 5 1) q 7 v) q 8 t) := by
  intro Q h
  refine C_of rfl (Nat.le_of_ble_eq_true rfl) rfl ?_
  refine m_aload_n dX3_setOut_0 rfl ?_
  refine m_iconst dX3_setOut_1 (by decide) ?_
  refine m_pi (z := 5) dX3_setOut_2 fl_X3_9 hq rfl rfl rfl ?_
  refine m_aload_n dX3_setOut_5 rfl ?_
  refine m_iload_n dX3_setOut_6 rfl ?_
  refine m_pi (z := 7) dX3_setOut_7 fl_X3_15 hq rfl rfl rfl ?_
  refine m_aload_n dX3_setOut_10 rfl ?_
  refine m_iload_n dX3_setOut_11 rfl ?_
  refine m_pi (z := 8) dX3_setOut_12 fl_X3_18 hq rfl rfl rfl ?_
  refine m_vret dX3_setOut_15 rfl ?_
  exact h
theorem x_waitIn {v : Int} (hq : (sh q).1 = 3 + 1) : SP g d mX3_waitIn 0 0 [vr q, vi v] sh R I none sh R (upI (upI (upI (upI I q 5 0) q 6 v) q 7 (-1)) q 8 (-1)) := by
  intro Q h
  refine C_of rfl (Nat.le_of_ble_eq_true rfl) rfl ?_
  refine m_aload_n dX3_waitIn_0 rfl ?_
  refine m_iconst dX3_waitIn_1 (by decide) ?_
  refine m_pi (z := 5) dX3_waitIn_2 fl_X3_9 hq rfl rfl rfl ?_
  refine m_aload_n dX3_waitIn_5 rfl ?_
  refine m_iload_n dX3_waitIn_6 rfl ?_
  refine m_pi (z := 6) dX3_waitIn_7 fl_X3_36 hq rfl rfl rfl ?_
  refine m_aload_n dX3_waitIn_10 rfl ?_
  refine m_iconst dX3_waitIn_11 (by decide) ?_
  refine m_pi (z := 7) dX3_waitIn_12 fl_X3_15 hq rfl rfl rfl ?_
  refine m_aload_n dX3_waitIn_15 rfl ?_
  refine m_iconst dX3_waitIn_16 (by decide) ?_
  refine m_pi (z := 8) dX3_waitIn_17 fl_X3_18 hq rfl rfl rfl ?_
  refine m_vret dX3_waitIn_20 rfl ?_
  exact h
theorem x_give {v : Int} (hq : (sh q).1 = 3 + 1) : SP g d mX3_give 0 0 [vr q, vi v] sh R I none sh R (upI (upI I q 5 2) q 9 v) := by
  intro Q h
  refine C_of rfl (Nat.le_of_ble_eq_true rfl) rfl ?_
  refine m_aload_n dX3_give_0 rfl ?_
  refine m_iconst dX3_give_1 (by decide) ?_
  refine m_pi (z := 5) dX3_give_2 fl_X3_9 hq rfl rfl rfl ?_
  refine m_aload_n dX3_give_5 rfl ?_
  refine m_iload_n dX3_give_6 rfl ?_
  refine m_pi (z := 9) dX3_give_7 fl_X3_21 hq rfl rfl rfl ?_
  refine m_vret dX3_give_10 rfl ?_
  exact h
theorem x_takeOver (hq : (sh q).1 = 3 + 1) (hq2 : (sh q2).1 = 3 + 1) (hne : q2 ≠ q) : SP g d mX3_takeOver 0 0 [vr q, vr q2] sh R I none sh R (upI (upI (upI (upI (upI (upI I q 5 (I q2 5)) q 6 (I q2 6)) q 7 (I q2 7)) q 8 (I q2 8)) q 9 (I q2 9)) q 10 (I q2 10)) := by
  intro Q h
  refine C_of rfl (Nat.le_of_ble_eq_true rfl) rfl ?_
  refine m_aload_n dX3_takeOver_0 rfl ?_
  refine m_aload_n dX3_takeOver_1 rfl ?_
  refine m_gi (z := 5) dX3_takeOver_2 fl_X3_9 hq2 rfl rfl ?_
  refine m_pi (z := 5) dX3_takeOver_5 fl_X3_9 hq rfl rfl rfl ?_
  refine m_aload_n dX3_takeOver_8 rfl ?_
  refine m_aload_n dX3_takeOver_9 rfl ?_
  refine m_gi (z := 6) dX3_takeOver_10 fl_X3_36 hq2 rfl rfl ?_
  rw [upI_o (show (q2 : Nat) ≠ q by omega)]
  refine m_pi (z := 6) dX3_takeOver_13 fl_X3_36 hq rfl rfl rfl ?_
  refine m_aload_n dX3_takeOver_16 rfl ?_
  refine m_aload_n dX3_takeOver_17 rfl ?_
  refine m_gi (z := 7) dX3_takeOver_18 fl_X3_15 hq2 rfl rfl ?_
  rw [upI_o (show (q2 : Nat) ≠ q by omega), upI_o (show (q2 : Nat) ≠ q by omega)]
  refine m_pi (z := 7) dX3_takeOver_21 fl_X3_15 hq rfl rfl rfl ?_
  refine m_aload_n dX3_takeOver_24 rfl ?_
  refine m_aload_n dX3_takeOver_25 rfl ?_
  refine m_gi (z := 8) dX3_takeOver_26 fl_X3_18 hq2 rfl rfl ?_
  rw [upI_o (show (q2 : Nat) ≠ q by omega), upI_o (show (q2 : Nat) ≠ q by omega), upI_o (show (q2 : Nat) ≠ q by omega)]
  refine m_pi (z := 8) dX3_takeOver_29 fl_X3_18 hq rfl rfl rfl ?_
  refine m_aload_n dX3_takeOver_32 rfl ?_
  refine m_aload_n dX3_takeOver_33 rfl ?_
  refine m_gi (z := 9) dX3_takeOver_34 fl_X3_21 hq2 rfl rfl ?_
  rw [upI_o (show (q2 : Nat) ≠ q by omega), upI_o (show (q2 : Nat) ≠ q by omega), upI_o (show (q2 : Nat) ≠ q by omega), upI_o (show (q2 : Nat) ≠ q by omega)]
  refine m_pi (z := 9) dX3_takeOver_37 fl_X3_21 hq rfl rfl rfl ?_
  refine m_aload_n dX3_takeOver_40 rfl ?_
  refine m_aload_n dX3_takeOver_41 rfl ?_
  refine m_gi (z := 10) dX3_takeOver_42 fl_X3_42 hq2 rfl rfl ?_
  rw [upI_o (show (q2 : Nat) ≠ q by omega), upI_o (show (q2 : Nat) ≠ q by omega), upI_o (show (q2 : Nat) ≠ q by omega), upI_o (show (q2 : Nat) ≠ q by omega), upI_o (show (q2 : Nat) ≠ q by omega)]
  refine m_pi (z := 10) dX3_takeOver_45 fl_X3_42 hq rfl rfl rfl ?_
  refine m_vret dX3_takeOver_48 rfl ?_
  exact h
end
