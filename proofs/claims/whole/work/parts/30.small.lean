/-! SMALL METHODS OF THE CLASS -/
/-- a truth as an int -/
def bI (p : Prop) [Decidable p] : Int := if p then 1 else 0
theorem bI_t {p : Prop} [Decidable p] (h : p) : bI p = 1 := if_pos h
theorem bI_f {p : Prop} [Decidable p] (h : ¬ p) : bI p = 0 := if_neg h
theorem bI_01 {p : Prop} [Decidable p] : bI p = 0 ∨ bI p = 1 := by unfold bI; split; exact Or.inr rfl; exact Or.inl rfl
theorem bI_eq0 {p : Prop} [Decidable p] (h : bI p = 0) : ¬ p := fun q => by rw [bI_t q] at h; cases h
theorem bI_ne0 {p : Prop} [Decidable p] (h : bI p ≠ 0) : p := by
  by_cases q : p
  · exact q
  · exact absurd (bI_f q) h
/-- bit i of a number that is not below 0 -/
abbrev bt (a i : Int) : Prop := a.toNat.testBit i.toNat = true
theorem shr32 {a i : Int} (ha : R32 a) (h0 : 0 ≤ i) (h1 : i < 32) : f_ishr a i = a / 2 ^ i.toNat := by
  unfold f_ishr
  have ri : R32 i := by omega
  have e1 : Int32.ofInt i &&& 31 = Int32.ofInt i := by
    have h2 := pk_andN (n := i.toNat) (by omega) (m := 31) 5 rfl
    rw [show i = ((i.toNat : Nat) : Int) by omega, Int32.ofInt_eq_ofNat]
    show nI _ &&& 31 = nI _
    rw [h2, Nat.mod_eq_of_lt (by omega)]
  rw [e1, pk_shr _ _ i.toNat (by
    rw [show i = ((i.toNat : Nat) : Int) by omega, Int32.ofInt_eq_ofNat]
    have h3 : i.toNat < 32 := by omega
    generalize i.toNat = n at h3
    revert n
    decide), r32_toInt ha]
  exact Int.shiftRight_eq_div_pow a i.toNat
theorem and1 {a : Int} (ha : R32 a) : f_iand a 1 = a % 2 := by
  unfold f_iand
  have h2 := pk_and (Int32.ofInt a) (m := 1) 1 rfl
  rw [show Int32.ofInt 1 = 1 from rfl, h2, nI_toInt (by omega)]
  have e : (Int32.ofInt a).toBitVec.toNat = (a % 4294967296).toNat := by
    rw [show (Int32.ofInt a).toBitVec = BitVec.ofInt 32 a from rfl, BitVec.toNat_ofInt]
    rfl
  rw [e]
  omega
theorem bt_iff {a i : Int} (h : 0 ≤ a) : bt a i ↔ (a / 2 ^ i.toNat) % 2 = 1 := by
  unfold bt
  rw [Nat.testBit_eq_decide_div_mod_eq, decide_eq_true_eq]
  have e : ((a.toNat / 2 ^ i.toNat % 2 : Nat) : Int) = (a / 2 ^ i.toNat) % 2 := by
    rw [Int.natCast_emod, Int.natCast_ediv, Int.natCast_pow, show ((a.toNat : Nat) : Int) = a by omega]
    rfl
  rw [← e]
  omega
theorem or32 {a b : Int} (ha : 0 ≤ a) (hb : 0 ≤ b) (h1 : a < 2147483648) (h2 : b < 2147483648) : f_ior a b = ((a.toNat ||| b.toNat : Nat) : Int) := by
  unfold f_ior
  have ea : Int32.ofInt a = Int32.ofNat a.toNat := by rw [← Int32.ofInt_eq_ofNat, Int.toNat_of_nonneg ha]
  have eb : Int32.ofInt b = Int32.ofNat b.toNat := by rw [← Int32.ofInt_eq_ofNat, Int.toNat_of_nonneg hb]
  have e : Int32.ofNat a.toNat ||| Int32.ofNat b.toNat = nI (a.toNat ||| b.toNat) := by
    apply Int32.toBitVec_inj.mp
    show BitVec.ofNat 32 a.toNat ||| BitVec.ofNat 32 b.toNat = BitVec.ofNat 32 (a.toNat ||| b.toNat)
    apply BitVec.eq_of_toNat_eq
    rw [BitVec.toNat_or, BitVec.toNat_ofNat, BitVec.toNat_ofNat, BitVec.toNat_ofNat, Nat.or_mod_two_pow]
  have hlt : a.toNat ||| b.toNat < 2 ^ 31 := Nat.or_lt_two_pow (by omega) (by omega)
  rw [ea, eb, e, nI_toInt hlt]
theorem and32 {a b : Int} (ha : 0 ≤ a) (hb : 0 ≤ b) (h1 : a < 2147483648) (h2 : b < 2147483648) : f_iand a b = ((a.toNat &&& b.toNat : Nat) : Int) := by
  unfold f_iand
  have ea : Int32.ofInt a = Int32.ofNat a.toNat := by rw [← Int32.ofInt_eq_ofNat, Int.toNat_of_nonneg ha]
  have eb : Int32.ofInt b = Int32.ofNat b.toNat := by rw [← Int32.ofInt_eq_ofNat, Int.toNat_of_nonneg hb]
  have e : Int32.ofNat a.toNat &&& Int32.ofNat b.toNat = nI (a.toNat &&& b.toNat) := by
    apply Int32.toBitVec_inj.mp
    show BitVec.ofNat 32 a.toNat &&& BitVec.ofNat 32 b.toNat = BitVec.ofNat 32 (a.toNat &&& b.toNat)
    apply BitVec.eq_of_toNat_eq
    rw [BitVec.toNat_and, BitVec.toNat_ofNat, BitVec.toNat_ofNat, BitVec.toNat_ofNat, Nat.and_mod_two_pow]
  have hlt : a.toNat &&& b.toNat < 2 ^ 31 := Nat.lt_of_le_of_lt Nat.and_le_left (by omega)
  rw [ea, eb, e, nI_toInt hlt]
theorem shl32 {i : Int} (h0 : 0 ≤ i) (h1 : i < 31) : f_ishl 1 i = ((2 ^ i.toNat : Nat) : Int) := by
  have h3 : i.toNat < 31 := by omega
  rw [show i = ((i.toNat : Nat) : Int) by omega, Int.toNat_natCast]
  generalize i.toNat = n at h3
  revert n
  decide

section
variable {g : GH} {d nm no : Nat} {sh : SH} {R : RR} {I : II}
theorem x_isWithin {v a b : Int} : SP g d mX11_isWithin 0 0 [vi v, vi a, vi b] sh R I (some (vi (bI (a ≤ v ∧ v ≤ b)))) sh R I := by
  intro Q h
  refine C_of rfl (Nat.le_of_ble_eq_true rfl) rfl ?_
  refine m_iload_n dX11_isWithin_0 rfl ?_
  refine m_iload_n dX11_isWithin_1 rfl ?_
  refine m_icmp_lt (tgt := 14) dX11_isWithin_2 (by decide) (fun c2 => ?_) (fun c2 => ?_)
  · refine m_iconst dX11_isWithin_14 (by decide) ?_
    refine m_zret dX11_isWithin_15 rfl (by omega) ?_
    rw [bI_f (by omega)] at h; exact h
  · refine m_iload_n dX11_isWithin_5 rfl ?_
    refine m_iload_n dX11_isWithin_6 rfl ?_
    refine m_icmp_gt (tgt := 14) dX11_isWithin_7 (by decide) (fun c7 => ?_) (fun c7 => ?_)
    · refine m_iconst dX11_isWithin_14 (by decide) ?_
      refine m_zret dX11_isWithin_15 rfl (by omega) ?_
      rw [bI_f (by omega)] at h; exact h
    · refine m_iconst dX11_isWithin_10 (by decide) ?_
      refine m_goto (tgt := 15) dX11_isWithin_11 (by decide) ?_
      refine m_zret dX11_isWithin_15 rfl (by omega) ?_
      rw [bI_t (by omega)] at h; exact h
theorem x_isOffice {v : Int} (hd : 1 ≤ d) : SP g d mX11_isOffice 0 0 [vi v] sh R I (some (vi (bI (0 ≤ v ∧ v ≤ 7)))) sh R I := by
  intro Q h
  refine C_of rfl (Nat.le_of_ble_eq_true rfl) rfl ?_
  refine m_iload_n dX11_isOffice_0 rfl ?_
  refine m_iconst dX11_isOffice_1 (by decide) ?_
  refine m_bipush dX11_isOffice_2 rfl (by decide) ?_
  refine m_Si [_, _, _] dX11_isOffice_4 lk_X11_71 rfl rfl (Nat.le_of_ble_eq_true rfl) (by omega) x_isWithin ?_
  refine m_zret dX11_isOffice_7 rfl bI_01 ?_
  exact h
theorem x_isIn {a i : Int} (ha : 0 ≤ a) (h0 : 0 ≤ i) (h1 : i < 32) : SP g d mX11_isIn 0 0 [vi a, vi i] sh R I (some (vi (bI (bt a i)))) sh R I := by
  intro Q h
  refine C_of rfl (Nat.le_of_ble_eq_true rfl) rfl ?_
  refine m_rngL 0 rfl (fun ra => ?_)
  refine m_iload_n dX11_isIn_0 rfl ?_
  refine m_iload_n dX11_isIn_1 rfl ?_
  refine m_ishr dX11_isIn_2 ?_
  refine m_iconst dX11_isIn_3 (by decide) ?_
  refine m_iand dX11_isIn_4 ?_
  have e1 := shr32 ra h0 h1
  have e2 : R32 (f_ishr a i) := r32_of _
  rw [and1 e2, e1]
  have e3 := bt_iff (i := i) ha
  refine m_if_eq (tgt := 12) dX11_isIn_5 (by decide) (fun c5 => ?_) (fun c5 => ?_)
  · refine m_iconst dX11_isIn_12 (by decide) ?_
    refine m_zret dX11_isIn_13 rfl (by omega) ?_
    rw [bI_f (fun z => by have := e3.mp z; omega)] at h; exact h
  · refine m_iconst dX11_isIn_8 (by decide) ?_
    refine m_goto (tgt := 13) dX11_isIn_9 (by decide) ?_
    refine m_zret dX11_isIn_13 rfl (by omega) ?_
    rw [bI_t (e3.mpr (by omega))] at h; exact h
theorem x_hourOf {t : Int} (h0 : 0 ≤ t) : SP g d mX11_hourOf 0 0 [vi t] sh R I (some (vi (t % 1440 / 60))) sh R I := by
  intro Q h
  refine C_of rfl (Nat.le_of_ble_eq_true rfl) rfl ?_
  refine m_iload_n dX11_hourOf_0 rfl ?_
  refine m_sipush dX11_hourOf_1 rfl (by decide) ?_
  refine m_irem dX11_hourOf_4 (by omega) (by omega) ?_
  refine m_bipush dX11_hourOf_5 rfl (by decide) ?_
  refine m_idiv dX11_hourOf_7 (by omega) (by omega) ?_
  refine m_iret dX11_hourOf_8 rfl ?_
  exact h
theorem x_mostKindTold {t : Int} : SP g d mX11_mostKindTold 0 0 [vi t] sh R I (some (vi (if t = 5 then 23 else if t ≤ 2 then 4 else 0))) sh R I := by
  intro Q h
  refine C_of rfl (Nat.le_of_ble_eq_true rfl) rfl ?_
  refine m_iload_n dX11_mostKindTold_0 rfl ?_
  refine m_iconst dX11_mostKindTold_1 (by decide) ?_
  refine m_icmp_ne (tgt := 8) dX11_mostKindTold_2 (by decide) (fun c2 => ?_) (fun c2 => ?_)
  · refine m_iload_n dX11_mostKindTold_8 rfl ?_
    refine m_iconst dX11_mostKindTold_9 (by decide) ?_
    refine m_icmp_gt (tgt := 17) dX11_mostKindTold_10 (by decide) (fun c10 => ?_) (fun c10 => ?_)
    · refine m_iconst dX11_mostKindTold_17 (by decide) ?_
      refine m_iret dX11_mostKindTold_18 rfl ?_
      (repeat' split at h) <;> first | exact h | (exfalso; omega)
    · refine m_iconst dX11_mostKindTold_13 (by decide) ?_
      refine m_goto (tgt := 18) dX11_mostKindTold_14 (by decide) ?_
      refine m_iret dX11_mostKindTold_18 rfl ?_
      (repeat' split at h) <;> first | exact h | (exfalso; omega)
  · refine m_bipush dX11_mostKindTold_5 rfl (by decide) ?_
    refine m_iret dX11_mostKindTold_7 rfl ?_
    (repeat' split at h) <;> first | exact h | (exfalso; omega)
/-- the other end of a wire; -1: it doesn't end there -/
theorem x_otherEnd {v o : Int} (h0 : 0 ≤ v) (h1 : v < 12) : SP g d mX4_otherEnd 0 0 [vr 21, vi v, vi o] (shX nm no) (RX nm no) I (some (vi (if I 24 v = o then I 25 v else if I 25 v = o then I 24 v else -1))) (shX nm no) (RX nm no) I := by
  intro Q h
  refine C_of rfl (Nat.le_of_ble_eq_true rfl) rfl ?_
  refine m_aload_n dX4_otherEnd_0 rfl ?_
  refine m_gr (z := 2) dX4_otherEnd_1 fl_X4_18 oX_21 rfl rfl rX_21_2 ?_
  refine m_iload_n dX4_otherEnd_4 rfl ?_
  refine m_iald dX4_otherEnd_5 sX_24 (by omega) (by omega) ?_
  refine m_iload_n dX4_otherEnd_6 rfl ?_
  refine m_icmp_ne (tgt := 17) dX4_otherEnd_7 (by decide) (fun c7 => ?_) (fun c7 => ?_)
  · refine m_aload_n dX4_otherEnd_17 rfl ?_
    refine m_gr (z := 3) dX4_otherEnd_18 fl_X4_21 oX_21 rfl rfl rX_21_3 ?_
    refine m_iload_n dX4_otherEnd_21 rfl ?_
    refine m_iald dX4_otherEnd_22 sX_25 (by omega) (by omega) ?_
    refine m_iload_n dX4_otherEnd_23 rfl ?_
    refine m_icmp_ne (tgt := 36) dX4_otherEnd_24 (by decide) (fun c24 => ?_) (fun c24 => ?_)
    · refine m_iconst dX4_otherEnd_36 (by decide) ?_
      refine m_iret dX4_otherEnd_37 rfl ?_
      (repeat' split at h) <;> first | exact h | (exfalso; omega)
    · refine m_aload_n dX4_otherEnd_27 rfl ?_
      refine m_gr (z := 2) dX4_otherEnd_28 fl_X4_18 oX_21 rfl rfl rX_21_2 ?_
      refine m_iload_n dX4_otherEnd_31 rfl ?_
      refine m_iald dX4_otherEnd_32 sX_24 (by omega) (by omega) ?_
      refine m_goto (tgt := 37) dX4_otherEnd_33 (by decide) ?_
      refine m_iret dX4_otherEnd_37 rfl ?_
      (repeat' split at h) <;> first | exact h | (exfalso; omega)
  · refine m_aload_n dX4_otherEnd_10 rfl ?_
    refine m_gr (z := 3) dX4_otherEnd_11 fl_X4_21 oX_21 rfl rfl rX_21_3 ?_
    refine m_iload_n dX4_otherEnd_14 rfl ?_
    refine m_iald dX4_otherEnd_15 sX_25 (by omega) (by omega) ?_
    refine m_iret dX4_otherEnd_16 rfl ?_
    (repeat' split at h) <;> first | exact h | (exfalso; omega)
theorem x_isOpen {v t : Int} (h0 : 0 ≤ v) (h1 : v < 8) (ht : 0 ≤ t) (hd : 1 ≤ d) : SP g d mX4_isOpen 0 0 [vr 21, vi v, vi t] (shX nm no) (RX nm no) I (some (vi (bI (I 22 v ≤ t % 1440 ∧ t % 1440 ≤ I 23 v)))) (shX nm no) (RX nm no) I := by
  intro Q h
  refine C_of rfl (Nat.le_of_ble_eq_true rfl) rfl ?_
  refine m_iload_n dX4_isOpen_0 rfl ?_
  refine m_sipush dX4_isOpen_1 rfl (by decide) ?_
  refine m_irem dX4_isOpen_4 (by omega) (by omega) ?_
  refine m_aload_n dX4_isOpen_5 rfl ?_
  refine m_gr (z := 0) dX4_isOpen_6 fl_X4_9 oX_21 rfl rfl rX_21_0 ?_
  refine m_iload_n dX4_isOpen_9 rfl ?_
  refine m_iald dX4_isOpen_10 sX_22 (by omega) (by omega) ?_
  refine m_aload_n dX4_isOpen_11 rfl ?_
  refine m_gr (z := 1) dX4_isOpen_12 fl_X4_15 oX_21 rfl rfl rX_21_1 ?_
  refine m_iload_n dX4_isOpen_15 rfl ?_
  refine m_iald dX4_isOpen_16 sX_23 (by omega) (by omega) ?_
  refine m_Ni [_, _, _] dX4_isOpen_17 lk_X4_60 rfl rfl (Nat.le_of_ble_eq_true rfl) (by omega) x_isWithin ?_
  refine m_zret dX4_isOpen_20 rfl bI_01 ?_
  exact h
end
