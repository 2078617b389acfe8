/-! A MINUTE, as mathematics; POST: counts, isTaken, goesAhead -/
noncomputable def cif {α : Type} (p : Prop) (a b : α) : α := @ite α p (Classical.propDecidable p) a b
theorem cif_t {α : Type} {p : Prop} {a b : α} (h : p) : cif p a b = a := @if_pos p (Classical.propDecidable p) h α a b
theorem cif_f {α : Type} {p : Prop} {a b : α} (h : ¬ p) : cif p a b = b := @if_neg p (Classical.propDecidable p) h α a b
/-- the six numbers of a message that move: place, office, wire, arrives, givenIn, broken -/
def mk6 (a b c e f h : Int) : Int → Int := fun j => if j = 0 then a else if j = 1 then b else if j = 2 then c else if j = 3 then e else if j = 4 then f else if j = 5 then h else 0
abbrev MV : Type := Nat → Int → Int
def upD (D : MV) (m : Nat) (x : Int → Int) : MV := fun k => if k = m then x else D k
theorem upD_s {D : MV} {m : Nat} {x : Int → Int} : upD D m x m = x := if_pos rfl
theorem upD_n {D : MV} {m k : Nat} {x : Int → Int} (h : k ≠ m) : upD D m x k = D k := if_neg h
/-- NEXT as a function -/
noncomputable def nxF (W : Int) (A B SPD : Int → Int) (U : Int → Prop) (o to n : Int) : Int := Classical.epsilon (isNx W A B (fun v => (n + SPD v - 1) / SPD v) U to o)
theorem nxF_eq {W : Int} {A B SPD : Int → Int} {U : Int → Prop} {o to n v : Int} (hO : pOK W A B (fun v => (n + SPD v - 1) / SPD v) U) (ht : 0 ≤ to ∧ to < 8) (ho : 0 ≤ o ∧ o < 8) (h : isNx W A B (fun v => (n + SPD v - 1) / SPD v) U to o v) : nxF W A B SPD U o to n = v := by
  have h2 := Classical.epsilon_spec_aux (⟨0⟩ : Nonempty Int) (isNx W A B (fun v => (n + SPD v - 1) / SPD v) U to o) ⟨v, h⟩
  exact nx_uniq hO ht ho h2 h
section
variable (nm : Nat) (t : Int) (A B SPD DB : Int → Int) (U : Int → Prop) (OP : Int → Prop) (NX : Int → Int → Int → Int) (WS : Int → Int → Int → Int) (RK : Int → Int → Int) (NT : Int → Prop) (TO WD KD HI : Nat → Int)
def othF (v o : Int) : Int := if A v = o then B v else A v
noncomputable def endM (x : Int → Int) : Int → Int := if x 0 = 1 then cif (U (x 2)) (if x 3 = t then mk6 0 (othF A B (x 2) (x 1)) (-1) (-1) (x 4) (x 5) else x) (mk6 0 (x 1) (-1) (-1) (x 4) (x 5 + 1)) else x
noncomputable def givM (m : Nat) (x : Int → Int) : Int → Int := cif (x 0 = 0 ∧ x 1 = TO m ∧ OP (TO m)) (mk6 2 (x 1) (x 2) (x 3) t (x 5)) x
def nxtM (m : Nat) (x : Int → Int) : Int := NX (x 1) (TO m) (WS (x 1) (WD m) (KD m))
def cand (D : MV) (o v : Int) (m : Nat) : Prop := D m 0 = 0 ∧ D m 1 = o ∧ D m 1 ≠ TO m ∧ nxtM NX WS TO WD KD m (D m) = v ∧ (KD m ≠ 2 ∨ NT o)
noncomputable def pick (D : MV) (o v : Int) : Nat → Int
  | 0 => -1
  | n + 1 => cif (cand NX WS NT TO WD KD D o v n ∧ (pick D o v n = -1 ∨ RK o (KD n) < RK o (KD (pick D o v n).toNat) ∨ (RK o (KD n) = RK o (KD (pick D o v n).toNat) ∧ HI n < HI (pick D o v n).toNat))) (n : Int) (pick D o v n)
def busy (D : MV) (v o : Int) : Prop := ∃ m : Nat, m < nm ∧ D m 0 = 1 ∧ D m 2 = v ∧ D m 1 = o
noncomputable def sendF (D : MV) (o v : Int) : MV :=
  cif (busy nm D v o ∨ (DB v = 0 ∧ busy nm D v (othF A B v o))) D
  (if pick NX WS RK NT TO WD KD HI D o v nm = -1 then D
  else upD D (pick NX WS RK NT TO WD KD HI D o v nm).toNat (mk6 1 (D (pick NX WS RK NT TO WD KD HI D o v nm).toNat 1) v (t + (WS o (WD (pick NX WS RK NT TO WD KD HI D o v nm).toNat) (KD (pick NX WS RK NT TO WD KD HI D o v nm).toNat) + SPD v - 1) / SPD v) (D (pick NX WS RK NT TO WD KD HI D o v nm).toNat 4) (D (pick NX WS RK NT TO WD KD HI D o v nm).toNat 5)))
noncomputable def sendW (D : MV) : Nat → MV
  | 0 => D
  | n + 1 => cif (U n ∧ OP (A n) ∧ OP (B n)) (sendF nm t A B SPD DB NX WS RK NT TO WD KD HI (sendF nm t A B SPD DB NX WS RK NT TO WD KD HI (sendW D n) (A n) n) (B n) n) (sendW D n)
/-- a minute: what is on wires, what is given, what sets out -/
noncomputable def minuteF (W : Nat) (D : MV) : MV := sendW nm t A B SPD DB U OP NX WS RK NT TO WD KD HI (fun m => if m < nm then givM t OP TO m (endM t A B U (D m)) else D m) W
theorem pick_bd (D : MV) (o v : Int) : ∀ n : Nat, -1 ≤ pick NX WS RK NT TO WD KD HI D o v n ∧ pick NX WS RK NT TO WD KD HI D o v n < n
  | 0 => by unfold pick; omega
  | n + 1 => by
    have h1 := pick_bd D o v n
    by_cases c : cand NX WS NT TO WD KD D o v n ∧ (pick NX WS RK NT TO WD KD HI D o v n = -1 ∨ RK o (KD n) < RK o (KD (pick NX WS RK NT TO WD KD HI D o v n).toNat) ∨ (RK o (KD n) = RK o (KD (pick NX WS RK NT TO WD KD HI D o v n).toNat) ∧ HI n < HI (pick NX WS RK NT TO WD KD HI D o v n).toNat))
    · rw [pick, cif_t c]; omega
    · rw [pick, cif_f c]; omega
theorem pick_cand (D : MV) (o v : Int) : ∀ n : Nat, pick NX WS RK NT TO WD KD HI D o v n ≠ -1 → cand NX WS NT TO WD KD D o v (pick NX WS RK NT TO WD KD HI D o v n).toNat
  | 0 => fun h => absurd rfl h
  | n + 1 => by
    intro h
    by_cases c : cand NX WS NT TO WD KD D o v n ∧ (pick NX WS RK NT TO WD KD HI D o v n = -1 ∨ RK o (KD n) < RK o (KD (pick NX WS RK NT TO WD KD HI D o v n).toNat) ∨ (RK o (KD n) = RK o (KD (pick NX WS RK NT TO WD KD HI D o v n).toNat) ∧ HI n < HI (pick NX WS RK NT TO WD KD HI D o v n).toNat))
    · rw [pick, cif_t c, Int.toNat_natCast]
      exact c.1
    · rw [pick, cif_f c] at h ⊢
      exact pick_cand D o v n h
end
/-- the class's view of its messages -/
def vX (J : II) : MV := fun m => mk6 (J (200 + m) 5) (J (200 + m) 6) (J (200 + m) 7) (J (200 + m) 8) (J (200 + m) 9) (J (200 + m) 10)
/-- how many of the first n messages are in a place; their prices -/
def cntP (J : II) (p : Int) : Nat → Int
  | 0 => 0
  | n + 1 => cntP J p n + (if J (200 + n) 5 = p then 1 else 0)
def sumP (J : II) : Nat → Int
  | 0 => 0
  | n + 1 => sumP J n + J (200 + n) 3
theorem cntP_bd (J : II) (p : Int) : ∀ n : Nat, 0 ≤ cntP J p n ∧ cntP J p n ≤ n
  | 0 => by unfold cntP; omega
  | n + 1 => by
    have := cntP_bd J p n
    unfold cntP
    split <;> omega
theorem sumP_bd (J : II) : ∀ n : Nat, (∀ m : Nat, m < n → 0 ≤ J (200 + m) 3 ∧ J (200 + m) 3 ≤ 9801) → 0 ≤ sumP J n ∧ sumP J n ≤ 9801 * n
  | 0, _ => by unfold sumP; omega
  | n + 1, h => by
    have := sumP_bd J n (fun m hm => h m (by omega))
    have := h n (by omega)
    unfold sumP
    omega
section
variable {g : GH} {d nm no : Nat} {I : II}
theorem x_inPlace_loop {p : Int} {Q : QT} (hc : I 43 4 = nm) (hm : nm ≤ 24) (h : Q (some (vi (cntP I p nm))) (shX nm no) (RX nm no) I) : ∀ (k i : Nat), nm - i < k → i ≤ nm → T g d mX6_inPlace 0 0 4 [some (vr 43), some (vi p), some (vi (cntP I p i)), some (vi i)] [] (shX nm no) (RX nm no) I Q := by
  intro k
  induction k with
  | zero => intro i hk; omega
  | succ k ih =>
    intro i hk h1
    have hb := cntP_bd I p i
    refine m_iload_n dX6_inPlace_4 rfl ?_
    refine m_aload_n dX6_inPlace_5 rfl ?_
    refine m_gi (z := 4) dX6_inPlace_6 fl_X6_62 oX_43 rfl rfl ?_
    refine m_icmp_ge (tgt := 34) dX6_inPlace_9 (by decide) (fun c9 => ?_) (fun c9 => ?_)
    · have ei : i = nm := by omega
      subst ei
      refine m_iload_n dX6_inPlace_34 rfl ?_
      refine m_iret dX6_inPlace_35 rfl ?_
      exact h
    · have hq := sX_msg (no := no) (show i < nm by omega) hm
      refine m_aload_n dX6_inPlace_12 rfl ?_
      refine m_gr (z := 2) dX6_inPlace_13 fl_X6_11 oX_43 rfl rfl rX_43_2 ?_
      refine m_iload_n dX6_inPlace_16 rfl ?_
      refine m_al dX6_inPlace_17 sX_44 (by decide) (by omega) (by omega) (show RX nm no 44 (i : Int) = some (200 + i) by rw [rX_msg (by omega) (by omega)]; rfl) ?_
      refine m_gi (z := 5) dX6_inPlace_18 fl_X6_88 hq rfl rfl ?_
      refine m_iload_n dX6_inPlace_21 rfl ?_
      refine m_icmp_ne (tgt := 28) dX6_inPlace_22 (by decide) (fun c22 => ?_) (fun c22 => ?_)
      · have e : cntP I p (i + 1) = cntP I p i := by rw [cntP, if_neg c22]; omega
        refine m_iinc dX6_inPlace_28 rfl (by decide) rfl rfl (by omega) ?_
        refine m_goto (tgt := 4) dX6_inPlace_31 (by decide) ?_
        have h9 := ih (i + 1) (by omega) (by omega)
        rw [e] at h9
        exact h9
      · have e : cntP I p (i + 1) = cntP I p i + 1 := by rw [cntP, if_pos c22]
        refine m_iinc dX6_inPlace_25 rfl (by decide) rfl rfl (by omega) ?_
        refine m_iinc dX6_inPlace_28 rfl (by decide) rfl rfl (by omega) ?_
        refine m_goto (tgt := 4) dX6_inPlace_31 (by decide) ?_
        have h9 := ih (i + 1) (by omega) (by omega)
        rw [e] at h9
        exact h9
theorem x_inPlace {p : Int} (hc : I 43 4 = nm) (hm : nm ≤ 24) : SP g d mX6_inPlace 0 0 [vr 43, vi p] (shX nm no) (RX nm no) I (some (vi (cntP I p nm))) (shX nm no) (RX nm no) I := by
  intro Q h
  refine C_of rfl (Nat.le_of_ble_eq_true rfl) rfl ?_
  refine m_iconst dX6_inPlace_0 (by decide) ?_
  refine m_istore_n dX6_inPlace_1 (by decide) rfl rfl ?_
  refine m_iconst dX6_inPlace_2 (by decide) ?_
  refine m_istore_n dX6_inPlace_3 (by decide) rfl rfl ?_
  exact x_inPlace_loop hc hm h (nm + 1) 0 (by omega) (by omega)
theorem x_prices_loop {Q : QT} (hc : I 43 4 = nm) (hm : nm ≤ 24) (hp : ∀ m : Nat, m < nm → 0 ≤ I (200 + m) 3 ∧ I (200 + m) 3 ≤ 9801) (h : Q (some (vi (sumP I nm))) (shX nm no) (RX nm no) I) : ∀ (k i : Nat), nm - i < k → i ≤ nm → T g d mX6_prices 0 0 4 [some (vr 43), some (vi (sumP I i)), some (vi i)] [] (shX nm no) (RX nm no) I Q := by
  intro k
  induction k with
  | zero => intro i hk; omega
  | succ k ih =>
    intro i hk h1
    have hb := sumP_bd I i (fun m hm => hp m (by omega))
    refine m_iload_n dX6_prices_4 rfl ?_
    refine m_aload_n dX6_prices_5 rfl ?_
    refine m_gi (z := 4) dX6_prices_6 fl_X6_62 oX_43 rfl rfl ?_
    refine m_icmp_ge (tgt := 30) dX6_prices_9 (by decide) (fun c9 => ?_) (fun c9 => ?_)
    · have ei : i = nm := by omega
      subst ei
      refine m_iload_n dX6_prices_30 rfl ?_
      refine m_iret dX6_prices_31 rfl ?_
      exact h
    · have hq := sX_msg (no := no) (show i < nm by omega) hm
      have hpi := hp i (by omega)
      refine m_iload_n dX6_prices_12 rfl ?_
      refine m_aload_n dX6_prices_13 rfl ?_
      refine m_gr (z := 2) dX6_prices_14 fl_X6_11 oX_43 rfl rfl rX_43_2 ?_
      refine m_iload_n dX6_prices_17 rfl ?_
      refine m_al dX6_prices_18 sX_44 (by decide) (by omega) (by omega) (show RX nm no 44 (i : Int) = some (200 + i) by rw [rX_msg (by omega) (by omega)]; rfl) ?_
      refine m_gi (z := 3) dX6_prices_19 fl_X6_60 hq rfl rfl ?_
      refine m_iadd dX6_prices_22 (by omega) ?_
      refine m_istore_n dX6_prices_23 (by decide) rfl rfl ?_
      refine m_iinc dX6_prices_24 rfl (by decide) rfl rfl (by omega) ?_
      refine m_goto (tgt := 4) dX6_prices_27 (by decide) ?_
      exact ih (i + 1) (by omega) (by omega)
theorem x_prices (hc : I 43 4 = nm) (hm : nm ≤ 24) (hp : ∀ m : Nat, m < nm → 0 ≤ I (200 + m) 3 ∧ I (200 + m) 3 ≤ 9801) : SP g d mX6_prices 0 0 [vr 43] (shX nm no) (RX nm no) I (some (vi (sumP I nm))) (shX nm no) (RX nm no) I := by
  intro Q h
  refine C_of rfl (Nat.le_of_ble_eq_true rfl) rfl ?_
  refine m_iconst dX6_prices_0 (by decide) ?_
  refine m_istore_n dX6_prices_1 (by decide) rfl rfl ?_
  refine m_iconst dX6_prices_2 (by decide) ?_
  refine m_istore_n dX6_prices_3 (by decide) rfl rfl ?_
  exact x_prices_loop hc hm hp h (nm + 1) 0 (by omega) (by omega)
def tkX (I : II) (v o : Int) (m : Nat) : Prop := I (200 + m) 5 = 1 ∧ I (200 + m) 7 = v ∧ (I (200 + m) 6 = o ∨ I 27 v = 0)
theorem x_isTaken_loop {v o : Int} {Q : QT} (hc : I 43 4 = nm) (hm : nm ≤ 24) (hv : 0 ≤ v ∧ v < 12) (h : Q (some (vi (bP (∃ m : Nat, m < nm ∧ tkX I v o m)))) (shX nm no) (RX nm no) I) : ∀ (k i : Nat) (lv : Option AV), nm - i < k → i ≤ nm → (∀ m : Nat, m < i → ¬ tkX I v o m) → T g d mX6_isTaken 0 0 2 [some (vr 43), some (vi v), some (vi o), some (vi i), lv] [] (shX nm no) (RX nm no) I Q := by
  intro k
  induction k with
  | zero => intro i lv hk; omega
  | succ k ih =>
    intro i lv hk h1 hn
    refine m_iload_n dX6_isTaken_2 rfl ?_
    refine m_aload_n dX6_isTaken_3 rfl ?_
    refine m_gi (z := 4) dX6_isTaken_4 fl_X6_62 oX_43 rfl rfl ?_
    refine m_icmp_ge (tgt := 65) dX6_isTaken_7 (by decide) (fun c7 => ?_) (fun c7 => ?_)
    · rw [bP_f (fun ⟨m, m0, m1⟩ => hn m (by omega) m1)] at h
      refine m_iconst dX6_isTaken_65 (by decide) ?_
      refine m_zret dX6_isTaken_66 rfl (by omega) ?_
      exact h
    · have hq := sX_msg (no := no) (show i < nm by omega) hm
      refine m_aload_n dX6_isTaken_10 rfl ?_
      refine m_gr (z := 2) dX6_isTaken_11 fl_X6_11 oX_43 rfl rfl rX_43_2 ?_
      refine m_iload_n dX6_isTaken_14 rfl ?_
      refine m_al dX6_isTaken_15 sX_44 (by decide) (by omega) (by omega) (show RX nm no 44 (i : Int) = some (200 + i) by rw [rX_msg (by omega) (by omega)]; rfl) ?_
      refine m_astore dX6_isTaken_16 (by decide) rfl rfl ?_
      refine m_aload dX6_isTaken_18 rfl ?_
      refine m_gi (z := 5) dX6_isTaken_20 fl_X6_88 hq rfl rfl ?_
      refine m_iconst dX6_isTaken_23 (by decide) ?_
      refine m_icmp_ne (tgt := 59) dX6_isTaken_24 (by decide) (fun c24 => ?_) (fun c24 => ?_)
      · have HN : ¬ tkX I v o i := fun z => by unfold tkX at z; omega
        refine m_iinc dX6_isTaken_59 rfl (by decide) rfl rfl (by omega) ?_
        refine m_goto (tgt := 2) dX6_isTaken_62 (by decide) ?_
        exact ih (i + 1) _ (by omega) (by omega) (fun m m0 => by
          rcases (show m < i ∨ m = i by omega) with z | z
          · exact hn m z
          · rw [z]; exact HN)
      · refine m_aload dX6_isTaken_27 rfl ?_
        refine m_gi (z := 7) dX6_isTaken_29 fl_X6_91 hq rfl rfl ?_
        refine m_iload_n dX6_isTaken_32 rfl ?_
        refine m_icmp_ne (tgt := 59) dX6_isTaken_33 (by decide) (fun c33 => ?_) (fun c33 => ?_)
        · have HN : ¬ tkX I v o i := fun z => by unfold tkX at z; omega
          refine m_iinc dX6_isTaken_59 rfl (by decide) rfl rfl (by omega) ?_
          refine m_goto (tgt := 2) dX6_isTaken_62 (by decide) ?_
          exact ih (i + 1) _ (by omega) (by omega) (fun m m0 => by
            rcases (show m < i ∨ m = i by omega) with z | z
            · exact hn m z
            · rw [z]; exact HN)
        · refine m_aload dX6_isTaken_36 rfl ?_
          refine m_gi (z := 6) dX6_isTaken_38 fl_X6_45 hq rfl rfl ?_
          refine m_iload_n dX6_isTaken_41 rfl ?_
          refine m_icmp_eq (tgt := 57) dX6_isTaken_42 (by decide) (fun c42 => ?_) (fun c42 => ?_)
          · rw [bP_t ⟨i, by omega, by unfold tkX; omega⟩] at h
            refine m_iconst dX6_isTaken_57 (by decide) ?_
            refine m_zret dX6_isTaken_58 rfl (by omega) ?_
            exact h
          · refine m_aload_n dX6_isTaken_45 rfl ?_
            refine m_gr (z := 0) dX6_isTaken_46 fl_X6_20 oX_43 rfl rfl rX_43_0 ?_
            refine m_gr (z := 5) dX6_isTaken_49 fl_X6_172 oX_21 rfl rfl rX_21_5 ?_
            refine m_iload_n dX6_isTaken_52 rfl ?_
            refine m_zald dX6_isTaken_53 sX_27 (by omega) (by omega) ?_
            refine m_if_ne (tgt := 59) dX6_isTaken_54 (by decide) (fun c54 => ?_) (fun c54 => ?_)
            · have HN : ¬ tkX I v o i := fun z => by unfold tkX at z; omega
              refine m_iinc dX6_isTaken_59 rfl (by decide) rfl rfl (by omega) ?_
              refine m_goto (tgt := 2) dX6_isTaken_62 (by decide) ?_
              exact ih (i + 1) _ (by omega) (by omega) (fun m m0 => by
                rcases (show m < i ∨ m = i by omega) with z | z
                · exact hn m z
                · rw [z]; exact HN)
            · rw [bP_t ⟨i, by omega, by unfold tkX; omega⟩] at h
              refine m_iconst dX6_isTaken_57 (by decide) ?_
              refine m_zret dX6_isTaken_58 rfl (by omega) ?_
              exact h
theorem x_isTaken {v o : Int} (hc : I 43 4 = nm) (hm : nm ≤ 24) (hv : 0 ≤ v ∧ v < 12) : SP g d mX6_isTaken 0 0 [vr 43, vi v, vi o] (shX nm no) (RX nm no) I (some (vi (bP (∃ m : Nat, m < nm ∧ tkX I v o m)))) (shX nm no) (RX nm no) I := by
  intro Q h
  refine C_of rfl (Nat.le_of_ble_eq_true rfl) rfl ?_
  refine m_iconst dX6_isTaken_0 (by decide) ?_
  refine m_istore_n dX6_isTaken_1 (by decide) rfl rfl ?_
  exact x_isTaken_loop hc hm hv h (nm + 1) 0 none (by omega) (by omega) (fun m m0 => by omega)
end
section
variable {g : GH} {d : Nat} {sh : SH} {R : RR} {I : II} {q a b c p p2 : Nat}
theorem x_goesAhead (ho : OrdAt sh R q a b c) (hp : (sh p).1 = 3 + 1) (hp2 : (sh p2).1 = 3 + 1) (hk : 0 ≤ I p 2 ∧ I p 2 < 5) (hk2 : 0 ≤ I p2 2 ∧ I p2 2 < 5) : SP g d mX6_goesAhead 0 0 [vr p, vr p2, vr q] sh R I (some (vi (bI (I a (I p 2) < I a (I p2 2) ∨ (I a (I p 2) = I a (I p2 2) ∧ I p 4 < I p2 4))))) sh R I := by
  intro Q h
  refine C_of rfl (Nat.le_of_ble_eq_true rfl) rfl ?_
  refine m_aload_n dX6_goesAhead_0 rfl ?_
  refine m_gr (z := 0) dX6_goesAhead_1 fl_X6_187 ho.1 rfl rfl ho.2.1 ?_
  refine m_aload_n dX6_goesAhead_4 rfl ?_
  refine m_gi (z := 2) dX6_goesAhead_5 fl_X6_36 hp rfl rfl ?_
  refine m_iald dX6_goesAhead_8 ho.2.2.2.2.1 (by omega) (by omega) ?_
  refine m_istore_n dX6_goesAhead_9 (by decide) rfl rfl ?_
  refine m_aload_n dX6_goesAhead_10 rfl ?_
  refine m_gr (z := 0) dX6_goesAhead_11 fl_X6_187 ho.1 rfl rfl ho.2.1 ?_
  refine m_aload_n dX6_goesAhead_14 rfl ?_
  refine m_gi (z := 2) dX6_goesAhead_15 fl_X6_36 hp2 rfl rfl ?_
  refine m_iald dX6_goesAhead_18 ho.2.2.2.2.1 (by omega) (by omega) ?_
  refine m_istore dX6_goesAhead_19 (by decide) rfl rfl ?_
  refine m_iload_n dX6_goesAhead_21 rfl ?_
  refine m_iload dX6_goesAhead_22 rfl ?_
  refine m_icmp_lt (tgt := 44) dX6_goesAhead_24 (by decide) (fun c24 => ?_) (fun c24 => ?_)
  · refine m_iconst dX6_goesAhead_44 (by decide) ?_
    refine m_goto (tgt := 49) dX6_goesAhead_45 (by decide) ?_
    refine m_zret dX6_goesAhead_49 rfl (by omega) ?_
    rw [bI_t (by omega)] at h; exact h
  · refine m_iload_n dX6_goesAhead_27 rfl ?_
    refine m_iload dX6_goesAhead_28 rfl ?_
    refine m_icmp_ne (tgt := 48) dX6_goesAhead_30 (by decide) (fun c30 => ?_) (fun c30 => ?_)
    · refine m_iconst dX6_goesAhead_48 (by decide) ?_
      refine m_zret dX6_goesAhead_49 rfl (by omega) ?_
      rw [bI_f (by omega)] at h; exact h
    · refine m_aload_n dX6_goesAhead_33 rfl ?_
      refine m_gi (z := 4) dX6_goesAhead_34 fl_X6_42 hp rfl rfl ?_
      refine m_aload_n dX6_goesAhead_37 rfl ?_
      refine m_gi (z := 4) dX6_goesAhead_38 fl_X6_42 hp2 rfl rfl ?_
      refine m_icmp_ge (tgt := 48) dX6_goesAhead_41 (by decide) (fun c41 => ?_) (fun c41 => ?_)
      · refine m_iconst dX6_goesAhead_48 (by decide) ?_
        refine m_zret dX6_goesAhead_49 rfl (by omega) ?_
        rw [bI_f (by omega)] at h; exact h
      · refine m_iconst dX6_goesAhead_44 (by decide) ?_
        refine m_goto (tgt := 49) dX6_goesAhead_45 (by decide) ?_
        refine m_zret dX6_goesAhead_49 rfl (by omega) ?_
        rw [bI_t (by omega)] at h; exact h
end
