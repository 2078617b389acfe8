/-! NET: which wires are up; ways -/
theorem andn32 {a b : Int} (ha : 0 ≤ a) (h1 : a < 4096) (hb : 0 ≤ b) (h2 : b < 4096) : 0 ≤ f_iand a (f_ixor b (-1)) ∧ f_iand a (f_ixor b (-1)) < 4096 ∧ ∀ j, 0 ≤ j → (bt (f_iand a (f_ixor b (-1))) j ↔ (bt a j ∧ ¬ bt b j)) := by
  have e : f_iand a (f_ixor b (-1)) = ((Int32.ofInt a &&& (Int32.ofInt b ^^^ Int32.ofInt (-1)))).toInt := by
    unfold f_iand f_ixor
    rw [Int32.ofInt_toInt]
  have ea : (Int32.ofInt a).toBitVec.toNat = a.toNat := by
    show (BitVec.ofInt 32 a).toNat = _
    rw [BitVec.toNat_ofInt]
    omega
  have eb : (Int32.ofInt b).toBitVec.toNat = b.toNat := by
    show (BitVec.ofInt 32 b).toNat = _
    rw [BitVec.toNat_ofInt]
    omega
  have ez : (Int32.ofInt a &&& (Int32.ofInt b ^^^ Int32.ofInt (-1))).toBitVec = (Int32.ofInt a).toBitVec &&& ((Int32.ofInt b).toBitVec ^^^ (Int32.ofInt (-1)).toBitVec) := rfl
  generalize hx : (Int32.ofInt a).toBitVec = x at ea ez
  generalize hy : (Int32.ofInt b).toBitVec = y at eb ez
  have en : (x &&& (y ^^^ (Int32.ofInt (-1)).toBitVec)).toNat ≤ a.toNat := by
    rw [BitVec.toNat_and, ea]
    exact Nat.and_le_left
  have et : f_iand a (f_ixor b (-1)) = (((x &&& (y ^^^ (Int32.ofInt (-1)).toBitVec)).toNat : Nat) : Int) := by
    rw [e, Int32.toInt, ez, BitVec.toInt_eq_toNat_of_lt (by omega)]
  rw [et]
  refine ⟨Int.natCast_nonneg _, by omega, fun j hj => ?_⟩
  unfold bt
  rw [Int.toNat_natCast, BitVec.toNat_and, Nat.testBit_and, ea, BitVec.toNat_xor, Nat.testBit_xor, eb]
  by_cases hj : j.toNat < 32
  · have e1 : (Int32.ofInt (-1)).toBitVec.toNat.testBit j.toNat = true := by
      rw [show (Int32.ofInt (-1)).toBitVec.toNat = 2 ^ 32 - 1 by decide, Nat.testBit_two_pow_sub_one]
      simpa using hj
    rw [e1]
    simp
  · have e2 : a.toNat.testBit j.toNat = false := Nat.testBit_lt_two_pow (Nat.lt_of_lt_of_le (show a.toNat < 2 ^ 32 by omega) (Nat.pow_le_pow_right (by omega) (by omega)))
    rw [e2]
    simp
theorem bt_all {n j : Int} (h0 : 0 ≤ n) (h1 : n ≤ 12) (hj : 0 ≤ j) : 0 ≤ f_ishl 1 n - 1 ∧ f_ishl 1 n - 1 < 4096 ∧ (bt (f_ishl 1 n - 1) j ↔ j < n) := by
  rw [shl32 h0 (by omega)]
  have h2 : (2 : Nat) ^ n.toNat ≤ 4096 := Nat.pow_le_pow_right (n := 2) (by omega) (show n.toNat ≤ 12 by omega)
  have h3 : 0 < (2 : Nat) ^ n.toNat := Nat.pow_pos (by omega)
  have e : (((2 ^ n.toNat : Nat) : Int) - 1) = ((2 ^ n.toNat - 1 : Nat) : Int) := by omega
  rw [e]
  refine ⟨Int.natCast_nonneg _, by omega, ?_⟩
  unfold bt
  rw [Int.toNat_natCast, Nat.testBit_two_pow_sub_one, decide_eq_true_eq]
  omega
theorem tk_bd {n s : Int} (h : 1 ≤ n) (hs : 1 ≤ s) : 1 ≤ (n + s - 1) / s ∧ (n + s - 1) / s ≤ n := by
  constructor
  · exact (Int.le_ediv_iff_mul_le (by omega)).mpr (by omega)
  · have h1 : (n + s - 1) / s < n + 1 := by
      apply Int.ediv_lt_of_lt_mul (by omega)
      have h2 : 0 ≤ (n) * (s - 1) := Int.mul_nonneg (by omega) (by omega)
      have h3 : (n + 1) * s = n * (s - 1) + n + s := by
        rw [Int.mul_sub, Int.add_mul]
        omega
      omega
    omega
/-- offices and wires as they are kept -/
def NetI (I : II) : Prop := (0 ≤ I 21 9 ∧ I 21 9 ≤ 12) ∧ (∀ v, 0 ≤ v → v < I 21 9 → (0 ≤ I 24 v ∧ I 24 v < 8) ∧ (0 ≤ I 25 v ∧ I 25 v < 8) ∧ I 24 v ≠ I 25 v ∧ (1 ≤ I 26 v ∧ I 26 v ≤ 40) ∧ (I 27 v = 0 ∨ I 27 v = 1)) ∧ ∀ o, 0 ≤ o → o < 8 → 0 ≤ I 22 o ∧ I 22 o ≤ I 23 o ∧ I 23 o ≤ 1439
abbrev Kt (I : II) (n : Int) : Int → Int := fun v => (n + I 26 v - 1) / I 26 v
/-- wire v is stopped in minute t -/
def stp (I : II) (o a b c : Nat) (v t : Int) : Prop := ∃ k, 0 ≤ k ∧ k < I o 3 ∧ I a k = v ∧ I b k ≤ t ∧ t ≤ I c k
def upX (I : II) (t v : Int) : Prop := v < I 21 9 ∧ ¬ stp I 28 29 30 31 v t ∧ ¬ stp I 32 33 34 35 v t
theorem cpI_up {I : II} {o : Nat} {f : Int → Int} {n : Int} (h : 0 ≤ n) : upI (cpI I o f n) o n (f n) = cpI I o f (n + 1) := by
  funext x j
  unfold upI cpI
  by_cases e : x = o
  · subst e
    by_cases e2 : j = n
    · subst e2
      rw [if_pos ⟨rfl, rfl⟩, if_pos ⟨rfl, h, by omega⟩]
    · rw [if_neg (fun z => e2 z.2)]
      by_cases e3 : 0 ≤ j ∧ j < n
      · rw [if_pos ⟨rfl, e3⟩, if_pos ⟨rfl, e3.1, by omega⟩]
      · rw [if_neg (fun z => e3 z.2), if_neg (fun z => e3 ⟨z.2.1, by omega⟩)]
  · rw [if_neg (fun z => e z.1), if_neg (fun z => e z.1), if_neg (fun z => e z.1)]
theorem cpI_0 {I : II} {o : Nat} {f : Int → Int} : cpI I o f 0 = I := by
  funext x j
  unfold cpI
  rw [if_neg (by omega)]
section
variable {g : GH} {d nm no : Nat} {I : II}
theorem x_fill_loop {sh : SH} {R : RR} {o N : Nat} {v : Int} {Q : QT} (ho : sh o = (20, N)) (hN : N < 1000) (h : Q none sh R (cpI I o (fun _ => v) N)) : ∀ (n : Nat) (i : Int), (N - i).toNat < n → 0 ≤ i → i ≤ N → T g d mJ7_fill_53178 0 0 5 [some (vr o), some (vi v), some (vi i), some (vi N)] [] sh R (cpI I o (fun _ => v) i) Q := by
  intro n
  induction n with
  | zero => intro i hn; omega
  | succ n ih =>
    intro i hn h0 h1
    refine m_iload_n dJ7_fill_53178_5 rfl ?_
    refine m_iload_n dJ7_fill_53178_6 rfl ?_
    refine m_icmp_ge (tgt := 20) dJ7_fill_53178_7 (by decide) (fun c7 => ?_) (fun c7 => ?_)
    · have ei : i = N := by omega
      subst ei
      refine m_vret dJ7_fill_53178_20 rfl ?_
      exact h
    · refine m_aload_n dJ7_fill_53178_10 rfl ?_
      refine m_iload_n dJ7_fill_53178_11 rfl ?_
      refine m_iload_n dJ7_fill_53178_12 rfl ?_
      refine m_iast dJ7_fill_53178_13 ho (by omega) (by omega) ?_
      refine m_iinc dJ7_fill_53178_14 rfl (by decide) rfl rfl (by omega) ?_
      refine m_goto (tgt := 5) dJ7_fill_53178_17 (by decide) ?_
      rw [cpI_up h0]
      exact ih (i + 1) (by omega) (by omega) (by omega)
theorem x_fill {sh : SH} {R : RR} {o N : Nat} {v : Int} (ho : sh o = (20, N)) (hN : N < 1000) : SP g d mJ7_fill_53178 0 0 [vr o, vi v] sh R I none sh R (cpI I o (fun _ => v) N) := by
  intro Q h
  refine C_of rfl (Nat.le_of_ble_eq_true rfl) rfl ?_
  refine m_iconst dJ7_fill_53178_0 (by decide) ?_
  refine m_istore_n dJ7_fill_53178_1 (by decide) rfl rfl ?_
  refine m_aload_n dJ7_fill_53178_2 rfl ?_
  refine m_alen dJ7_fill_53178_3 ho (by decide) (by omega) ?_
  refine m_istore_n dJ7_fill_53178_4 (by decide) rfl rfl ?_
  have h9 := x_fill_loop (g := g) (d := d) (I := I) ho hN h (N + 1) 0 (by omega) (by omega) (by omega)
  rw [cpI_0] at h9
  exact h9
theorem x_allWires (h : NetI I) : SP g d mX4_allWires 0 0 [vr 21] (shX nm no) (RX nm no) I (some (vi (f_ishl 1 (I 21 9) - 1))) (shX nm no) (RX nm no) I := by
  have hb := bt_all (j := 0) h.1.1 h.1.2 (by omega)
  intro Q h
  refine C_of rfl (Nat.le_of_ble_eq_true rfl) rfl ?_
  refine m_iconst dX4_allWires_0 (by decide) ?_
  refine m_aload_n dX4_allWires_1 rfl ?_
  refine m_gi (z := 9) dX4_allWires_2 fl_X4_52 oX_21 rfl rfl ?_
  refine m_ishl dX4_allWires_5 ?_
  refine m_iconst dX4_allWires_6 (by decide) ?_
  refine m_isub dX4_allWires_7 (by omega) ?_
  refine m_iret dX4_allWires_8 rfl ?_
  exact h
theorem x_upIn {t : Int} (hd : 1 ≤ d) (hN : NetI I) (h1 : StI I 28 29 30 31 12) (h2 : StI I 32 33 34 35 6) : SI g d mX4_upIn [vr 21, vi t] (shX nm no) (RX nm no) I (fun r I' => I' = I ∧ (0 ≤ r ∧ r < 4096) ∧ ∀ v, 0 ≤ v → v < 12 → (bt r v ↔ upX I t v)) := by
  intro Q h
  refine C_of rfl (Nat.le_of_ble_eq_true rfl) rfl ?_
  refine m_aload_n dX4_upIn_0 rfl ?_
  refine m_Vi [] dX4_upIn_1 lk_X4_68 rfl oX_21 rfl (Nat.le_of_ble_eq_true rfl) (by omega) (x_allWires hN) ?_
  refine m_aload_n dX4_upIn_4 rfl ?_
  refine m_gr (z := 6) dX4_upIn_5 fl_X4_36 oX_21 rfl rfl rX_21_6 ?_
  refine m_iload_n dX4_upIn_8 rfl ?_
  refine m_VI [_] dX4_upIn_9 lk_X4_72 rfl oX_28 rfl (Nat.le_of_ble_eq_true rfl) (by omega) (x_stoppedIn28 h1) ?_
  intro r9 I9 q9
  obtain ⟨rfl, b1⟩ := q9
  refine m_iconst dX4_upIn_12 (by decide) ?_
  refine m_ixor dX4_upIn_13 ?_
  refine m_iand dX4_upIn_14 ?_
  refine m_aload_n dX4_upIn_15 rfl ?_
  refine m_gr (z := 7) dX4_upIn_16 fl_X4_40 oX_21 rfl rfl rX_21_7 ?_
  refine m_iload_n dX4_upIn_19 rfl ?_
  refine m_VI [_] dX4_upIn_20 lk_X4_72 rfl oX_32 rfl (Nat.le_of_ble_eq_true rfl) (by omega) (x_stoppedIn32 h2) ?_
  intro r20 I20 q20
  obtain ⟨rfl, b2⟩ := q20
  refine m_iconst dX4_upIn_23 (by decide) ?_
  refine m_ixor dX4_upIn_24 ?_
  refine m_iand dX4_upIn_25 ?_
  refine m_iret dX4_upIn_26 rfl ?_
  have ba := fun j hj => bt_all (j := j) hN.1.1 hN.1.2 hj
  have c1 := andn32 (ba 0 (by omega)).1 (ba 0 (by omega)).2.1 b1.1 b1.2.1
  have c2 := andn32 c1.1 c1.2.1 b2.1 b2.2.1
  refine h _ _ ⟨rfl, ⟨c2.1, c2.2.1⟩, fun v v0 v1 => ?_⟩
  rw [c2.2.2 v v0, c1.2.2 v v0, (ba v v0).2.2, b1.2.2 v v0 v1, b2.2.2 v v0 v1, and_assoc]
  rfl
theorem x_taken {v n : Int} (h0 : 0 ≤ v) (h1 : v < I 21 9) (hN : NetI I) (hn : 1 ≤ n ∧ n ≤ 1000) : SP g d mX4_taken 0 0 [vr 21, vi v, vi n] (shX nm no) (RX nm no) I (some (vi (Kt I n v))) (shX nm no) (RX nm no) I := by
  have hk := hN.2.1 v h0 h1
  have hw := hN.1
  intro Q h
  refine C_of rfl (Nat.le_of_ble_eq_true rfl) rfl ?_
  refine m_iload_n dX4_taken_0 rfl ?_
  refine m_aload_n dX4_taken_1 rfl ?_
  refine m_gr (z := 4) dX4_taken_2 fl_X4_24 oX_21 rfl rfl rX_21_4 ?_
  refine m_iload_n dX4_taken_5 rfl ?_
  refine m_iald dX4_taken_6 sX_26 (by omega) (by omega) ?_
  refine m_iadd dX4_taken_7 (by omega) ?_
  refine m_iconst dX4_taken_8 (by decide) ?_
  refine m_isub dX4_taken_9 (by omega) ?_
  refine m_aload_n dX4_taken_10 rfl ?_
  refine m_gr (z := 4) dX4_taken_11 fl_X4_24 oX_21 rfl rfl rX_21_4 ?_
  refine m_iload_n dX4_taken_14 rfl ?_
  refine m_iald dX4_taken_15 sX_26 (by omega) (by omega) ?_
  refine m_idiv dX4_taken_16 (by omega) (by omega) ?_
  refine m_iret dX4_taken_17 rfl ?_
  exact h
theorem x_areEndsOpen {v t : Int} (hd : 2 ≤ d) (h0 : 0 ≤ v) (h1 : v < I 21 9) (hN : NetI I) (ht : 0 ≤ t) : SP g d mX4_areEndsOpen 0 0 [vr 21, vi v, vi t] (shX nm no) (RX nm no) I (some (vi (bI ((I 22 (I 24 v) ≤ t % 1440 ∧ t % 1440 ≤ I 23 (I 24 v)) ∧ I 22 (I 25 v) ≤ t % 1440 ∧ t % 1440 ≤ I 23 (I 25 v))))) (shX nm no) (RX nm no) I := by
  have hk := hN.2.1 v h0 h1
  have hw := hN.1
  intro Q h
  refine C_of rfl (Nat.le_of_ble_eq_true rfl) rfl ?_
  refine m_aload_n dX4_areEndsOpen_0 rfl ?_
  refine m_aload_n dX4_areEndsOpen_1 rfl ?_
  refine m_gr (z := 2) dX4_areEndsOpen_2 fl_X4_18 oX_21 rfl rfl rX_21_2 ?_
  refine m_iload_n dX4_areEndsOpen_5 rfl ?_
  refine m_iald dX4_areEndsOpen_6 sX_24 (by omega) (by omega) ?_
  refine m_iload_n dX4_areEndsOpen_7 rfl ?_
  refine m_Vi [_, _] dX4_areEndsOpen_8 lk_X4_64 rfl oX_21 rfl (Nat.le_of_ble_eq_true rfl) (by omega) (x_isOpen (by omega) (by omega) ht (by omega)) ?_
  refine m_if_eq (tgt := 32) dX4_areEndsOpen_11 (by decide) (fun c11 => ?_) (fun c11 => ?_)
  · have z1 := bI_eq0 c11
    refine m_iconst dX4_areEndsOpen_32 (by decide) ?_
    refine m_zret dX4_areEndsOpen_33 rfl (by omega) ?_
    rw [bI_f (by omega)] at h; exact h
  · have z1 := bI_ne0 c11
    refine m_aload_n dX4_areEndsOpen_14 rfl ?_
    refine m_aload_n dX4_areEndsOpen_15 rfl ?_
    refine m_gr (z := 3) dX4_areEndsOpen_16 fl_X4_21 oX_21 rfl rfl rX_21_3 ?_
    refine m_iload_n dX4_areEndsOpen_19 rfl ?_
    refine m_iald dX4_areEndsOpen_20 sX_25 (by omega) (by omega) ?_
    refine m_iload_n dX4_areEndsOpen_21 rfl ?_
    refine m_Vi [_, _] dX4_areEndsOpen_22 lk_X4_64 rfl oX_21 rfl (Nat.le_of_ble_eq_true rfl) (by omega) (x_isOpen (by omega) (by omega) ht (by omega)) ?_
    refine m_if_eq (tgt := 32) dX4_areEndsOpen_25 (by decide) (fun c25 => ?_) (fun c25 => ?_)
    · have z2 := bI_eq0 c25
      refine m_iconst dX4_areEndsOpen_32 (by decide) ?_
      refine m_zret dX4_areEndsOpen_33 rfl (by omega) ?_
      rw [bI_f (by omega)] at h; exact h
    · have z2 := bI_ne0 c25
      refine m_iconst dX4_areEndsOpen_28 (by decide) ?_
      refine m_goto (tgt := 33) dX4_areEndsOpen_29 (by decide) ?_
      refine m_zret dX4_areEndsOpen_33 rfl (by omega) ?_
      rw [bI_t (by omega)] at h; exact h
end
