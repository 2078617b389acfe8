/-! TAPES: Integer.bitCount, fewestBlamed -/
def bc1 (n : Int) : Int := n - f_iand (f_iushr n 1) 1431655765
def bc2 (n : Int) : Int := f_iand (bc1 n) 858993459 + f_iand (f_iushr (bc1 n) 2) 858993459
def bc3 (n : Int) : Int := bc2 n + f_iushr (bc2 n) 4
def bc4 (n : Int) : Int := f_iand (bc3 n) 252645135 + f_iushr (f_iand (bc3 n) 252645135) 8
def bc5 (n : Int) : Int := bc4 n + f_iushr (bc4 n) 16
/-- how many of the eight low bits are set -/
def pcF (n : Nat) : Nat := n % 2 + n / 2 % 2 + n / 4 % 2 + n / 8 % 2 + n / 16 % 2 + n / 32 % 2 + n / 64 % 2 + n / 128 % 2
theorem bc_ok : ∀ n : Fin 256, R32 (bc1 n.val) ∧ R32 (bc2 n.val) ∧ R32 (bc3 n.val) ∧ R32 (bc4 n.val) ∧ R32 (bc5 n.val) ∧ f_iand (bc5 n.val) 63 = pcF n.val := by decide +kernel
theorem x_bitCount {g : GH} {d : Nat} {I : II} {sh : SH} {R : RR} {n : Nat} (hn : n < 256) : SP g d mJ6_bitCount_0f7a4 0 0 [vi n] sh R I (some (vi (pcF n))) sh R I := by
  obtain ⟨b1, b2, b3, b4, b5, b6⟩ := bc_ok ⟨n, hn⟩
  intro Q h
  refine C_of rfl (Nat.le_of_ble_eq_true rfl) rfl ?_
  refine m_iload_n dJ6_bitCount_0f7a4_0 rfl ?_
  refine m_iload_n dJ6_bitCount_0f7a4_1 rfl ?_
  refine m_iconst dJ6_bitCount_0f7a4_2 (by decide) ?_
  refine m_iushr dJ6_bitCount_0f7a4_3 ?_
  refine m_ldcw (a := 1431655765) dJ6_bitCount_0f7a4_4 kc_J6_265 rfl ?_
  refine m_iand dJ6_bitCount_0f7a4_7 ?_
  refine m_isub dJ6_bitCount_0f7a4_8 b1 ?_
  refine m_istore_n dJ6_bitCount_0f7a4_9 (by decide) rfl rfl ?_
  refine m_iload_n dJ6_bitCount_0f7a4_10 rfl ?_
  refine m_ldcw (a := 858993459) dJ6_bitCount_0f7a4_11 kc_J6_266 rfl ?_
  refine m_iand dJ6_bitCount_0f7a4_14 ?_
  refine m_iload_n dJ6_bitCount_0f7a4_15 rfl ?_
  refine m_iconst dJ6_bitCount_0f7a4_16 (by decide) ?_
  refine m_iushr dJ6_bitCount_0f7a4_17 ?_
  refine m_ldcw (a := 858993459) dJ6_bitCount_0f7a4_18 kc_J6_266 rfl ?_
  refine m_iand dJ6_bitCount_0f7a4_21 ?_
  refine m_iadd dJ6_bitCount_0f7a4_22 b2 ?_
  refine m_istore_n dJ6_bitCount_0f7a4_23 (by decide) rfl rfl ?_
  refine m_iload_n dJ6_bitCount_0f7a4_24 rfl ?_
  refine m_iload_n dJ6_bitCount_0f7a4_25 rfl ?_
  refine m_iconst dJ6_bitCount_0f7a4_26 (by decide) ?_
  refine m_iushr dJ6_bitCount_0f7a4_27 ?_
  refine m_iadd dJ6_bitCount_0f7a4_28 b3 ?_
  refine m_ldcw (a := 252645135) dJ6_bitCount_0f7a4_29 kc_J6_267 rfl ?_
  refine m_iand dJ6_bitCount_0f7a4_32 ?_
  refine m_istore_n dJ6_bitCount_0f7a4_33 (by decide) rfl rfl ?_
  refine m_iload_n dJ6_bitCount_0f7a4_34 rfl ?_
  refine m_iload_n dJ6_bitCount_0f7a4_35 rfl ?_
  refine m_bipush dJ6_bitCount_0f7a4_36 rfl (by decide) ?_
  refine m_iushr dJ6_bitCount_0f7a4_38 ?_
  refine m_iadd dJ6_bitCount_0f7a4_39 b4 ?_
  refine m_istore_n dJ6_bitCount_0f7a4_40 (by decide) rfl rfl ?_
  refine m_iload_n dJ6_bitCount_0f7a4_41 rfl ?_
  refine m_iload_n dJ6_bitCount_0f7a4_42 rfl ?_
  refine m_bipush dJ6_bitCount_0f7a4_43 rfl (by decide) ?_
  refine m_iushr dJ6_bitCount_0f7a4_45 ?_
  refine m_iadd dJ6_bitCount_0f7a4_46 b5 ?_
  refine m_istore_n dJ6_bitCount_0f7a4_47 (by decide) rfl rfl ?_
  refine m_iload_n dJ6_bitCount_0f7a4_48 rfl ?_
  refine m_bipush dJ6_bitCount_0f7a4_49 rfl (by decide) ?_
  refine m_iand dJ6_bitCount_0f7a4_51 ?_
  refine m_iret dJ6_bitCount_0f7a4_52 rfl ?_
  rw [← b6] at h
  exact h
