/-! BYTES: byteOf, isWord, append, write, word, and their like in the reference -/
section
variable {g : GH} {d nm no : Nat} {I : II}
theorem land255 (x : Int) : 0 ≤ f_land x 255 ∧ f_land x 255 ≤ 255 := by
  unfold f_land
  have h : (Int64.ofInt x &&& Int64.ofInt 255).toBitVec.toNat ≤ 255 := by
    rw [Int64.toBitVec_and, BitVec.toNat_and]
    exact Nat.le_trans Nat.and_le_right (by decide)
  have e : (Int64.ofInt x &&& Int64.ofInt 255).toInt = ((Int64.ofInt x &&& Int64.ofInt 255).toBitVec.toNat : Int) := BitVec.toInt_eq_toNat_of_lt (by omega)
  rw [e]
  omega
theorem l2i_255 {a : Int} (h : 0 ≤ a ∧ a ≤ 255) : f_l2i a = a := by
  unfold f_l2i
  rw [Int64.toInt_toInt32, r64_toInt ⟨by omega, by omega⟩]
  show Int.bmod a 4294967296 = a
  simp only [Int.bmod]
  split <;> omega
/-- byte i of a -/
def byF (a i : Int) : Int := f_l2i (f_land (f_lshr a (8 * i)) 255)
theorem by_bd (a i : Int) : 0 ≤ byF a i ∧ byF a i ≤ 255 := by
  unfold byF
  have h := land255 (f_lshr a (8 * i))
  rw [l2i_255 h]
  exact h
theorem i2c_ok : ∀ a : Fin 256, f_i2c (a.val : Int) = a.val ∧ vp_nar .char (Int32.ofInt (a.val : Int)) = Int32.ofInt (a.val : Int) := by decide +kernel
theorem i2c_by {v : Int} (h : 0 ≤ v ∧ v ≤ 255) : f_i2c v = v ∧ vp_nar .char (Int32.ofInt v) = Int32.ofInt v := by
  have z := i2c_ok ⟨v.toNat, by omega⟩
  have e : ((v.toNat : Nat) : Int) = v := Int.toNat_of_nonneg h.1
  rw [show (((⟨v.toNat, by omega⟩ : Fin 256).val : Nat) : Int) = v from e] at z
  exact z
/-- n places from b on set -/
def wsI (I : II) (o : Nat) (b n : Int) (f : Int → Int) : II := fun x j => if x = o ∧ b ≤ j ∧ j < b + n then f (j - b) else I x j
theorem wsI_0 {I : II} {o : Nat} {b : Int} {f : Int → Int} : wsI I o b 0 f = I := by
  funext x j; unfold wsI; exact if_neg (fun q => by omega)
theorem wsI_up {I : II} {o : Nat} {b n : Int} {f : Int → Int} (h : 0 ≤ n) : upI (wsI I o b n f) o (b + n) (f n) = wsI I o b (n + 1) f := by
  funext x j
  unfold upI wsI
  by_cases h1 : x = o ∧ j = b + n
  · rw [if_pos h1, if_pos ⟨h1.1, by omega, by omega⟩, show j - b = n by omega]
  · rw [if_neg h1]
    by_cases h2 : x = o ∧ b ≤ j ∧ j < b + n
    · rw [if_pos h2, if_pos ⟨h2.1, by omega, by omega⟩]
    · rw [if_neg h2, if_neg (fun q => h2 ⟨q.1, q.2.1, by
        have := q.2.2
        have : j ≠ b + n := fun z => h1 ⟨q.1, z⟩
        omega⟩)]
theorem wsI_o {I : II} {o x : Nat} {b n : Int} {f : Int → Int} (h : x ≠ o) : wsI I o b n f x = I x := funext fun j => if_neg fun q => h q.1
theorem wsI_in {I : II} {o : Nat} {b n j : Int} {f : Int → Int} (h : b ≤ j ∧ j < b + n) : wsI I o b n f o j = f (j - b) := if_pos ⟨rfl, h⟩
theorem wsI_out {I : II} {o : Nat} {b n j : Int} {f : Int → Int} (h : ¬ (b ≤ j ∧ j < b + n)) : wsI I o b n f o j = I o j := if_neg fun q => h q.2
def isw (a n : Int) : Prop := (1 ≤ n ∧ n ≤ 8) ∧ ∀ k, 0 ≤ k → k < n → 97 ≤ byF a k ∧ byF a k ≤ 122
def aWrite (n len : Int) : Int := if 1 ≤ n ∧ n ≤ 8 then (if len + n ≤ 160 then len + n else -5) else -3
noncomputable def aWord (i : Int) (ok : Prop) : Int := if 0 ≤ i ∧ i ≤ 15 then cif ok 1 (-3) else -2
theorem x_byteOf {a i : Int} (hi : 0 ≤ i ∧ i ≤ 100) : SP g d mX11_byteOf 0 0 [vl a, vi i] (shX nm no) (RX nm no) I (some (vi (byF a i))) (shX nm no) (RX nm no) I := by
  intro Q h
  refine C_of rfl (Nat.le_of_ble_eq_true rfl) rfl ?_
  refine m_lload_n dX11_byteOf_0 rfl ?_
  refine m_bipush dX11_byteOf_1 rfl (by decide) ?_
  refine m_iload_n dX11_byteOf_3 rfl ?_
  refine m_imul dX11_byteOf_4 (by omega) ?_
  refine m_lshr dX11_byteOf_5 ?_
  refine m_ldc2 (a := 255) dX11_byteOf_6 kc_X11_355 rfl ?_
  refine m_land dX11_byteOf_9 ?_
  refine m_l2i dX11_byteOf_10 ?_
  refine m_iret dX11_byteOf_11 rfl ?_
  exact h
theorem x_isWord_loop {a n : Int} {Q : QT} (hd : 1 ≤ d) (hn : 1 ≤ n ∧ n ≤ 8) (h : Q (some (vi (bP (isw a n)))) (shX nm no) (RX nm no) I) : ∀ (m : Nat) (i : Int), (n - i).toNat < m → 0 ≤ i → i ≤ n → (∀ k, 0 ≤ k → k < i → 97 ≤ byF a k ∧ byF a k ≤ 122) → T g d mX11_isWord 0 0 14 [some (vl a), none, some (vi n), some (vi i)] [] (shX nm no) (RX nm no) I Q := by
  intro m
  induction m with
  | zero => intro i hm; omega
  | succ m ih =>
    intro i hm h0 h1 hb
    refine m_iload_n dX11_isWord_14 rfl ?_
    refine m_iload_n dX11_isWord_15 rfl ?_
    refine m_icmp_ge (tgt := 42) dX11_isWord_16 (by decide) (fun c16 => ?_) (fun c16 => ?_)
    · refine m_iconst dX11_isWord_42 (by decide) ?_
      refine m_zret dX11_isWord_43 rfl (by omega) ?_
      have ei : i = n := by omega
      subst ei
      rw [bP_t ⟨hn, hb⟩] at h
      exact h
    · refine m_lload_n dX11_isWord_19 rfl ?_
      refine m_iload_n dX11_isWord_20 rfl ?_
      refine m_Si [_, _] dX11_isWord_21 lk_X11_357 rfl rfl (Nat.le_of_ble_eq_true rfl) (by omega) (x_byteOf ⟨by omega, by omega⟩) ?_
      refine m_bipush dX11_isWord_24 rfl (by decide) ?_
      refine m_bipush dX11_isWord_26 rfl (by decide) ?_
      refine m_Si [_, _, _] dX11_isWord_28 lk_X11_71 rfl rfl (Nat.le_of_ble_eq_true rfl) (by omega) x_isWithin ?_
      refine m_if_ne (tgt := 36) dX11_isWord_31 (by decide) (fun c31 => ?_) (fun c31 => ?_)
      · have z31 := bI_ne0 c31
        refine m_iinc dX11_isWord_36 rfl (by decide) rfl rfl (by omega) ?_
        refine m_goto (tgt := 14) dX11_isWord_39 (by decide) ?_
        refine ih (i + 1) (by omega) (by omega) (by omega) (fun k k0 k1 => ?_)
        rcases (show k < i ∨ k = i by omega) with z | z
        · exact hb k k0 z
        · subst z; exact z31
      · have z31 := bI_eq0 (show _ = (0 : Int) by omega)
        refine m_iconst dX11_isWord_34 (by decide) ?_
        refine m_zret dX11_isWord_35 rfl (by omega) ?_
        rw [bP_f (fun z => z31 (z.2 i h0 (by omega)))] at h
        exact h
theorem x_isWord {a n : Int} (hd : 1 ≤ d) : SP g d mX11_isWord 0 0 [vl a, vi n] (shX nm no) (RX nm no) I (some (vi (bP (isw a n)))) (shX nm no) (RX nm no) I := by
  intro Q h
  refine C_of rfl (Nat.le_of_ble_eq_true rfl) rfl ?_
  refine m_iload_n dX11_isWord_0 rfl ?_
  refine m_iconst dX11_isWord_1 (by decide) ?_
  refine m_bipush dX11_isWord_2 rfl (by decide) ?_
  refine m_Si [_, _, _] dX11_isWord_4 lk_X11_71 rfl rfl (Nat.le_of_ble_eq_true rfl) (by omega) x_isWithin ?_
  refine m_if_ne (tgt := 12) dX11_isWord_7 (by decide) (fun c7 => ?_) (fun c7 => ?_)
  · have z7 := bI_ne0 c7
    refine m_iconst dX11_isWord_12 (by decide) ?_
    refine m_istore_n dX11_isWord_13 (by decide) rfl rfl ?_
    exact x_isWord_loop hd z7 h _ 0 (Nat.lt_succ_self _) (by omega) (by omega) (fun k k0 k1 => by omega)
  · have z7 := bI_eq0 (show _ = (0 : Int) by omega)
    refine m_iconst dX11_isWord_10 (by decide) ?_
    refine m_zret dX11_isWord_11 rfl (by omega) ?_
    rw [bP_f (fun z => z7 z.1)] at h
    exact h
theorem x_append_loop {a n : Int} {Q : QT} (hd : 1 ≤ d) (hl : 0 ≤ I 46 1 ∧ I 46 1 + n ≤ 160) (hn : 1 ≤ n ∧ n ≤ 8) (h : Q (some (vi (I 46 1 + n))) (shX nm no) (RX nm no) (upI (wsI I 47 (I 46 1) n (byF a)) 46 1 (I 46 1 + n))) : ∀ (m : Nat) (i : Int), (n - i).toNat < m → 0 ≤ i → i ≤ n → T g d mX10_append 0 0 3 [some (vr 46), some (vl a), none, some (vi n), some (vi i)] [] (shX nm no) (RX nm no) (wsI I 47 (I 46 1) i (byF a)) Q := by
  intro m
  induction m with
  | zero => intro i hm; omega
  | succ m ih =>
    intro i hm h0 h1
    have e1 : (wsI I 47 (I 46 1) i (byF a)) 46 1 = I 46 1 := by rw [wsI_o (by decide)]
    have hb := i2c_by (by_bd a i)
    refine m_iload dX10_append_3 rfl ?_
    refine m_iload_n dX10_append_5 rfl ?_
    refine m_icmp_ge (tgt := 34) dX10_append_6 (by decide) (fun c6 => ?_) (fun c6 => ?_)
    · have ei : i = n := by omega
      subst ei
      refine m_aload_n dX10_append_34 rfl ?_
      refine m_dup dX10_append_35 (fun _ z => by cases z) ?_
      refine m_gi (z := 1) dX10_append_36 fl_X10_15 oX_46 rfl rfl ?_
      rw [e1]
      refine m_iload_n dX10_append_39 rfl ?_
      refine m_iadd dX10_append_40 (by omega) ?_
      refine m_pi (z := 1) dX10_append_41 fl_X10_15 oX_46 rfl rfl rfl ?_
      refine m_aload_n dX10_append_44 rfl ?_
      refine m_gi (z := 1) dX10_append_45 fl_X10_15 oX_46 rfl rfl ?_
      rw [upI_s]
      refine m_iret dX10_append_48 rfl ?_
      exact h
    · refine m_aload_n dX10_append_9 rfl ?_
      refine m_gr (z := 0) dX10_append_10 fl_X10_9 oX_46 rfl rfl rX_46_0 ?_
      refine m_aload_n dX10_append_13 rfl ?_
      refine m_gi (z := 1) dX10_append_14 fl_X10_15 oX_46 rfl rfl ?_
      rw [e1]
      refine m_iload dX10_append_17 rfl ?_
      refine m_iadd dX10_append_19 (by omega) ?_
      refine m_lload_n dX10_append_20 rfl ?_
      refine m_iload dX10_append_21 rfl ?_
      refine m_Ni [_, _] dX10_append_23 lk_X10_19 rfl rfl (Nat.le_of_ble_eq_true rfl) (by omega) (x_byteOf ⟨by omega, by omega⟩) ?_
      refine m_i2c dX10_append_26 ?_
      rw [hb.1]
      refine m_cast dX10_append_27 sX_47 (by omega) (by omega) hb.2 ?_
      refine m_iinc dX10_append_28 rfl (by decide) rfl rfl (by omega) ?_
      refine m_goto (tgt := 3) dX10_append_31 (by decide) ?_
      rw [wsI_up h0]
      exact ih (i + 1) (by omega) (by omega) (by omega)
theorem x_append {a n : Int} (hd : 1 ≤ d) (hl : 0 ≤ I 46 1 ∧ I 46 1 + n ≤ 160) (hn : 1 ≤ n ∧ n ≤ 8) : SP g d mX10_append 0 0 [vr 46, vl a, vi n] (shX nm no) (RX nm no) I (some (vi (I 46 1 + n))) (shX nm no) (RX nm no) (upI (wsI I 47 (I 46 1) n (byF a)) 46 1 (I 46 1 + n)) := by
  intro Q h
  refine C_of rfl (Nat.le_of_ble_eq_true rfl) rfl ?_
  refine m_iconst dX10_append_0 (by decide) ?_
  refine m_istore dX10_append_1 (by decide) rfl rfl ?_
  have z := x_append_loop (g := g) hd hl hn h _ 0 (Nat.lt_succ_self _) (by omega) (by omega)
  rw [wsI_0] at z
  exact z
theorem px_write {a n : Int} (hd : 2 ≤ d) (hl : 0 ≤ I 46 1 ∧ I 46 1 ≤ 160) : SI g d mX11_write [vr 20, vl a, vi n] (shX nm no) (RX nm no) I (fun r J => r = aWrite n (I 46 1) ∧ ((0 ≤ r ∧ J = upI (wsI I 47 (I 46 1) n (byF a)) 46 1 (I 46 1 + n)) ∨ (r < 0 ∧ J = I))) := by
  intro Q h
  refine C_of rfl (Nat.le_of_ble_eq_true rfl) rfl ?_
  refine m_iload_n dX11_write_0 rfl ?_
  refine m_iconst dX11_write_1 (by decide) ?_
  refine m_bipush dX11_write_2 rfl (by decide) ?_
  refine m_Si [_, _, _] dX11_write_4 lk_X11_71 rfl rfl (Nat.le_of_ble_eq_true rfl) (by omega) x_isWithin ?_
  refine m_if_ne (tgt := 13) dX11_write_7 (by decide) (fun c7 => ?_) (fun c7 => ?_)
  · have z7 := bI_ne0 c7
    refine m_aload_n dX11_write_13 rfl ?_
    refine m_gr (z := 3) dX11_write_14 fl_X11_35 oX_20 rfl rfl rX_20_3 ?_
    refine m_gi (z := 1) dX11_write_17 fl_X11_196 oX_46 rfl rfl ?_
    refine m_iload_n dX11_write_20 rfl ?_
    refine m_iadd dX11_write_21 (by omega) ?_
    refine m_sipush dX11_write_22 rfl (by decide) ?_
    refine m_icmp_le (tgt := 31) dX11_write_25 (by decide) (fun c25 => ?_) (fun c25 => ?_)
    · refine m_aload_n dX11_write_31 rfl ?_
      refine m_gr (z := 3) dX11_write_32 fl_X11_35 oX_20 rfl rfl rX_20_3 ?_
      refine m_lload_n dX11_write_35 rfl ?_
      refine m_iload_n dX11_write_36 rfl ?_
      refine m_Vi [_, _] dX11_write_37 lk_X11_199 rfl oX_46 rfl (Nat.le_of_ble_eq_true rfl) (by omega) (x_append (by omega) ⟨by omega, by omega⟩ z7) ?_
      refine m_iret dX11_write_40 rfl ?_
      exact h _ _ ⟨by unfold aWrite; rw [if_pos z7, if_pos (by omega)], Or.inl ⟨by omega, rfl⟩⟩
    · refine m_bipush dX11_write_28 rfl (by decide) ?_
      refine m_iret dX11_write_30 rfl ?_
      exact h _ _ ⟨(by unfold aWrite; repeat' split; all_goals omega), Or.inr ⟨by omega, rfl⟩⟩
  · have z7 := bI_eq0 (show _ = (0 : Int) by omega)
    refine m_bipush dX11_write_10 rfl (by decide) ?_
    refine m_iret dX11_write_12 rfl ?_
    exact h _ _ ⟨(by unfold aWrite; repeat' split; all_goals omega), Or.inr ⟨by omega, rfl⟩⟩
theorem px_word {i a n : Int} (hd : 2 ≤ d) : SI g d mX11_word [vr 20, vi i, vl a, vi n] (shX nm no) (RX nm no) I (fun r J => r = aWord i (isw a n) ∧ (((0 ≤ i ∧ i ≤ 15) ∧ isw a n ∧ J = upI (upI I 49 i a) 50 i n) ∨ (¬ ((0 ≤ i ∧ i ≤ 15) ∧ isw a n) ∧ J = I))) := by
  intro Q h
  refine C_of rfl (Nat.le_of_ble_eq_true rfl) rfl ?_
  refine m_iload_n dX11_word_0 rfl ?_
  refine m_iconst dX11_word_1 (by decide) ?_
  refine m_bipush dX11_word_2 rfl (by decide) ?_
  refine m_Si [_, _, _] dX11_word_4 lk_X11_71 rfl rfl (Nat.le_of_ble_eq_true rfl) (by omega) x_isWithin ?_
  refine m_if_ne (tgt := 13) dX11_word_7 (by decide) (fun c7 => ?_) (fun c7 => ?_)
  · have z7 := bI_ne0 c7
    refine m_lload_n dX11_word_13 rfl ?_
    refine m_iload dX11_word_14 rfl ?_
    refine m_Si [_, _] dX11_word_16 lk_X11_253 rfl rfl (Nat.le_of_ble_eq_true rfl) (by omega) (x_isWord (by omega)) ?_
    refine m_if_ne (tgt := 25) dX11_word_19 (by decide) (fun c19 => ?_) (fun c19 => ?_)
    · have z19 := bP_ne0 c19
      refine m_aload_n dX11_word_25 rfl ?_
      refine m_gr (z := 4) dX11_word_26 fl_X11_42 oX_20 rfl rfl rX_20_4 ?_
      refine m_gr (z := 0) dX11_word_29 fl_X11_257 oX_48 rfl rfl rX_48_0 ?_
      refine m_iload_n dX11_word_32 rfl ?_
      refine m_lload_n dX11_word_33 rfl ?_
      refine m_last dX11_word_34 sX_49 (by omega) (by omega) ?_
      refine m_aload_n dX11_word_35 rfl ?_
      refine m_gr (z := 4) dX11_word_36 fl_X11_42 oX_20 rfl rfl rX_20_4 ?_
      refine m_gr (z := 1) dX11_word_39 fl_X11_261 oX_48 rfl rfl rX_48_1 ?_
      refine m_iload_n dX11_word_42 rfl ?_
      refine m_iload dX11_word_43 rfl ?_
      refine m_iast dX11_word_45 sX_50 (by omega) (by omega) ?_
      refine m_iconst dX11_word_46 (by decide) ?_
      refine m_iret dX11_word_47 rfl ?_
      exact h _ _ ⟨by unfold aWord; rw [if_pos z7, cif_t z19], Or.inl ⟨z7, z19, rfl⟩⟩
    · have z19 := bP_eq0 (show _ = (0 : Int) by omega)
      refine m_bipush dX11_word_22 rfl (by decide) ?_
      refine m_iret dX11_word_24 rfl ?_
      exact h _ _ ⟨by unfold aWord; rw [if_pos z7, cif_f z19], Or.inr ⟨fun z => z19 z.2, rfl⟩⟩
  · have z7 := bI_eq0 (show _ = (0 : Int) by omega)
    refine m_bipush dX11_word_10 rfl (by decide) ?_
    refine m_iret dX11_word_12 rfl ?_
    exact h _ _ ⟨by unfold aWord; rw [if_neg z7], Or.inr ⟨fun z => z7 z.1, rfl⟩⟩
theorem y_write_loop {a n : Int} {Q : QT} (hl : 0 ≤ I 100 18 ∧ I 100 18 + n ≤ 160) (hn : 1 ≤ n ∧ n ≤ 8) (h : Q (some (vi (I 100 18 + n))) (shX nm no) (RX nm no) (upI (wsI I 113 (I 100 18) n (byF a)) 100 18 (I 100 18 + n))) : ∀ (m : Nat) (i : Int), (n - i).toNat < m → 0 ≤ i → i ≤ n → T g d mX12_write 0 0 31 [some (vr 100), some (vl a), none, some (vi n), some (vi i)] [] (shX nm no) (RX nm no) (wsI I 113 (I 100 18) i (byF a)) Q := by
  intro m
  induction m with
  | zero => intro i hm; omega
  | succ m ih =>
    intro i hm h0 h1
    have e1 : (wsI I 113 (I 100 18) i (byF a)) 100 18 = I 100 18 := by rw [wsI_o (by decide)]
    refine m_iload dX12_write_31 rfl ?_
    refine m_iload_n dX12_write_33 rfl ?_
    refine m_icmp_ge (tgt := 67) dX12_write_34 (by decide) (fun c34 => ?_) (fun c34 => ?_)
    · have ei : i = n := by omega
      subst ei
      refine m_aload_n dX12_write_67 rfl ?_
      refine m_dup dX12_write_68 (fun _ z => by cases z) ?_
      refine m_gi (z := 18) dX12_write_69 fl_X12_224 oX_100 rfl rfl ?_
      rw [e1]
      refine m_iload_n dX12_write_72 rfl ?_
      refine m_iadd dX12_write_73 (by omega) ?_
      refine m_pi (z := 18) dX12_write_74 fl_X12_224 oX_100 rfl rfl rfl ?_
      refine m_aload_n dX12_write_77 rfl ?_
      refine m_gi (z := 18) dX12_write_78 fl_X12_224 oX_100 rfl rfl ?_
      rw [upI_s]
      refine m_iret dX12_write_81 rfl ?_
      exact h
    · refine m_aload_n dX12_write_37 rfl ?_
      refine m_gr (z := 19) dX12_write_38 fl_X12_51 oX_100 rfl rfl rX_100_19 ?_
      refine m_aload_n dX12_write_41 rfl ?_
      refine m_gi (z := 18) dX12_write_42 fl_X12_224 oX_100 rfl rfl ?_
      rw [e1]
      refine m_iload dX12_write_45 rfl ?_
      refine m_iadd dX12_write_47 (by omega) ?_
      refine m_lload_n dX12_write_48 rfl ?_
      refine m_bipush dX12_write_49 rfl (by decide) ?_
      refine m_iload dX12_write_51 rfl ?_
      refine m_imul dX12_write_53 (by omega) ?_
      refine m_lshr dX12_write_54 ?_
      refine m_ldc2 (a := 255) dX12_write_55 kc_X12_227 rfl ?_
      refine m_land dX12_write_58 ?_
      refine m_l2i dX12_write_59 ?_
      refine m_iast dX12_write_60 sX_113 (by omega) (by omega) ?_
      refine m_iinc dX12_write_61 rfl (by decide) rfl rfl (by omega) ?_
      refine m_goto (tgt := 31) dX12_write_64 (by decide) ?_
      rw [show f_l2i (f_land (f_lshr a (8 * i)) 255) = byF a i from rfl, wsI_up h0]
      exact ih (i + 1) (by omega) (by omega) (by omega)
theorem py_write {a n : Int} (hd : 1 ≤ d) (hl : 0 ≤ I 100 18 ∧ I 100 18 ≤ 160) : SI g d mX12_write [vr 100, vl a, vi n] (shX nm no) (RX nm no) I (fun r J => r = aWrite n (I 100 18) ∧ ((0 ≤ r ∧ J = upI (wsI I 113 (I 100 18) n (byF a)) 100 18 (I 100 18 + n)) ∨ (r < 0 ∧ J = I))) := by
  intro Q h
  refine C_of rfl (Nat.le_of_ble_eq_true rfl) rfl ?_
  refine m_iload_n dX12_write_0 rfl ?_
  refine m_iconst dX12_write_1 (by decide) ?_
  refine m_bipush dX12_write_2 rfl (by decide) ?_
  refine m_Si [_, _, _] dX12_write_4 lk_X12_123 rfl rfl (Nat.le_of_ble_eq_true rfl) (by omega) y_in ?_
  refine m_if_ne (tgt := 13) dX12_write_7 (by decide) (fun c7 => ?_) (fun c7 => ?_)
  · have z7 := bI_ne0 c7
    refine m_aload_n dX12_write_13 rfl ?_
    refine m_gi (z := 18) dX12_write_14 fl_X12_224 oX_100 rfl rfl ?_
    refine m_iload_n dX12_write_17 rfl ?_
    refine m_iadd dX12_write_18 (by omega) ?_
    refine m_sipush dX12_write_19 rfl (by decide) ?_
    refine m_icmp_le (tgt := 28) dX12_write_22 (by decide) (fun c22 => ?_) (fun c22 => ?_)
    · refine m_iconst dX12_write_28 (by decide) ?_
      refine m_istore dX12_write_29 (by decide) rfl rfl ?_
      have z := y_write_loop (g := g) (d := d) (nm := nm) (no := no) (I := I) (Q := Q) (a := a) (n := n) ⟨by omega, by omega⟩ z7 (h _ _ ⟨by unfold aWrite; rw [if_pos z7, if_pos (by omega)], Or.inl ⟨by omega, rfl⟩⟩) _ 0 (Nat.lt_succ_self _) (by omega) (by omega)
      rw [wsI_0] at z
      exact z
    · refine m_bipush dX12_write_25 rfl (by decide) ?_
      refine m_iret dX12_write_27 rfl ?_
      exact h _ _ ⟨(by unfold aWrite; repeat' split; all_goals omega), Or.inr ⟨by omega, rfl⟩⟩
  · have z7 := bI_eq0 (show _ = (0 : Int) by omega)
    refine m_bipush dX12_write_10 rfl (by decide) ?_
    refine m_iret dX12_write_12 rfl ?_
    exact h _ _ ⟨(by unfold aWrite; repeat' split; all_goals omega), Or.inr ⟨by omega, rfl⟩⟩
theorem y_isSpelled_loop {a n : Int} {Q : QT} (hd : 1 ≤ d) (hn : 1 ≤ n ∧ n ≤ 8) (h : ∀ r J, isB r (isw a n) ∧ (∀ x, x ≠ 120 → J x = I x) ∧ (isw a n → ∀ k, 0 ≤ k → k < n → J 120 k = byF a k) → Q (some (vi r)) (shX nm no) (RX nm no) J) : ∀ (m : Nat) (i f : Int) (J : II), (n - i).toNat < m → 0 ≤ i → i ≤ n → isB f (∀ k, 0 ≤ k → k < i → 97 ≤ byF a k ∧ byF a k ≤ 122) → (∀ x, x ≠ 120 → J x = I x) → (∀ k, 0 ≤ k → k < i → J 120 k = byF a k) → T g d mX12_isSpelled 0 0 12 [some (vr 100), some (vl a), none, some (vi n), some (vi f), some (vi i)] [] (shX nm no) (RX nm no) J Q := by
  intro m
  induction m with
  | zero => intro i f J hm; omega
  | succ m ih =>
    intro i f J hm h0 h1 hf hF hw
    have hf1 := hf.1
    refine m_iload dX12_isSpelled_12 rfl ?_
    refine m_iload_n dX12_isSpelled_14 rfl ?_
    refine m_icmp_ge (tgt := 64) dX12_isSpelled_15 (by decide) (fun c15 => ?_) (fun c15 => ?_)
    · refine m_iload dX12_isSpelled_64 rfl ?_
      refine m_zret dX12_isSpelled_66 rfl hf.1 ?_
      refine h f J ⟨?_, hF, fun hz => ?_⟩
      · first
        | (have ei : i = n := (by omega); rw [ei] at hf; exact hf.cg ⟨fun z => ⟨hn, z⟩, fun z => z.2⟩)
        | (rw [show f = 0 by omega]; refine isB_0 (fun z => ?_); have := hf.2.mpr (fun k k0 k1 => z.2 k k0 (by omega)); omega)
      · first
        | (have ei : i = n := (by omega); rw [ei] at hw; exact hw)
        | (exfalso; have := hf.2.mpr (fun k k0 k1 => hz.2 k k0 (by omega)); omega)
    · refine m_iload dX12_isSpelled_18 rfl ?_
      refine m_if_eq (tgt := 64) dX12_isSpelled_20 (by decide) (fun c20 => ?_) (fun c20 => ?_)
      · refine m_iload dX12_isSpelled_64 rfl ?_
        refine m_zret dX12_isSpelled_66 rfl hf.1 ?_
        refine h f J ⟨?_, hF, fun hz => ?_⟩
        · first
          | (have ei : i = n := (by omega); rw [ei] at hf; exact hf.cg ⟨fun z => ⟨hn, z⟩, fun z => z.2⟩)
          | (rw [show f = 0 by omega]; refine isB_0 (fun z => ?_); have := hf.2.mpr (fun k k0 k1 => z.2 k k0 (by omega)); omega)
        · first
          | (have ei : i = n := (by omega); rw [ei] at hw; exact hw)
          | (exfalso; have := hf.2.mpr (fun k k0 k1 => hz.2 k k0 (by omega)); omega)
      · refine m_aload_n dX12_isSpelled_23 rfl ?_
        refine m_gr (z := 35) dX12_isSpelled_24 fl_X12_75 oX_100 rfl rfl rX_100_35 ?_
        refine m_iload dX12_isSpelled_27 rfl ?_
        refine m_lload_n dX12_isSpelled_29 rfl ?_
        refine m_bipush dX12_isSpelled_30 rfl (by decide) ?_
        refine m_iload dX12_isSpelled_32 rfl ?_
        refine m_imul dX12_isSpelled_34 (by omega) ?_
        refine m_lshr dX12_isSpelled_35 ?_
        refine m_ldc2 (a := 255) dX12_isSpelled_36 kc_X12_227 rfl ?_
        refine m_land dX12_isSpelled_39 ?_
        refine m_l2i dX12_isSpelled_40 ?_
        rw [show f_l2i (f_land (f_lshr a (8 * i)) 255) = byF a i from rfl]
        refine m_iast dX12_isSpelled_41 sX_120 (by omega) (by omega) ?_
        refine m_aload_n dX12_isSpelled_42 rfl ?_
        refine m_gr (z := 35) dX12_isSpelled_43 fl_X12_75 oX_100 rfl rfl rX_100_35 ?_
        refine m_iload dX12_isSpelled_46 rfl ?_
        refine m_iald dX12_isSpelled_48 sX_120 (by omega) (by omega) ?_
        rw [upI_s]
        refine m_bipush dX12_isSpelled_49 rfl (by decide) ?_
        refine m_bipush dX12_isSpelled_51 rfl (by decide) ?_
        refine m_Si [_, _, _] dX12_isSpelled_53 lk_X12_123 rfl rfl (Nat.le_of_ble_eq_true rfl) (by omega) y_in ?_
        refine m_istore dX12_isSpelled_56 (by decide) rfl rfl ?_
        refine m_iinc dX12_isSpelled_58 rfl (by decide) rfl rfl (by omega) ?_
        refine m_goto (tgt := 12) dX12_isSpelled_61 (by decide) ?_
        refine ih (i + 1) _ _ (by omega) (by omega) (by omega) (isB_bI ?_) (fun x hx => by rw [upI_o hx]; exact hF x hx) (fun k k0 k1 => ?_)
        · constructor
          · intro z k k0 k1
            rcases (show k < i ∨ k = i by omega) with q | q
            · exact hf.2.mp (by omega) k k0 q
            · subst q; exact z
          · intro z; exact z i h0 (by omega)
        · rcases (show k < i ∨ k = i by omega) with q | q
          · rw [upI_j (by omega)]; exact hw k k0 q
          · subst q; rw [upI_s]
theorem y_isSpelled {a n : Int} (hd : 1 ≤ d) : SI g d mX12_isSpelled [vr 100, vl a, vi n] (shX nm no) (RX nm no) I (fun r J => isB r (isw a n) ∧ (∀ x, x ≠ 120 → J x = I x) ∧ (isw a n → ∀ k, 0 ≤ k → k < n → J 120 k = byF a k)) := by
  intro Q h
  refine C_of rfl (Nat.le_of_ble_eq_true rfl) rfl ?_
  refine m_iload_n dX12_isSpelled_0 rfl ?_
  refine m_iconst dX12_isSpelled_1 (by decide) ?_
  refine m_bipush dX12_isSpelled_2 rfl (by decide) ?_
  refine m_Si [_, _, _] dX12_isSpelled_4 lk_X12_123 rfl rfl (Nat.le_of_ble_eq_true rfl) (by omega) y_in ?_
  refine m_istore dX12_isSpelled_7 (by decide) rfl rfl ?_
  refine m_iconst dX12_isSpelled_9 (by decide) ?_
  refine m_istore dX12_isSpelled_10 (by decide) rfl rfl ?_
  by_cases hn : 1 ≤ n ∧ n ≤ 8
  · rw [bI_t hn]
    exact y_isSpelled_loop hd hn h _ 0 1 I (Nat.lt_succ_self _) (by omega) (by omega) (isB_1 (fun k k0 k1 => by omega)) (fun _ _ => rfl) (fun k k0 k1 => by omega)
  · rw [bI_f hn]
    refine m_iload dX12_isSpelled_12 rfl ?_
    refine m_iload_n dX12_isSpelled_14 rfl ?_
    refine m_icmp_ge (tgt := 64) dX12_isSpelled_15 (by decide) (fun c15 => ?_) (fun c15 => ?_)
    · refine m_iload dX12_isSpelled_64 rfl ?_
      refine m_zret dX12_isSpelled_66 rfl (Or.inl rfl) ?_
      exact h _ _ ⟨isB_0 (fun z => hn z.1), fun _ _ => rfl, fun z => absurd z.1 hn⟩
    · refine m_iload dX12_isSpelled_18 rfl ?_
      refine m_if_eq (tgt := 64) dX12_isSpelled_20 (by decide) (fun c20 => ?_) (fun c20 => ?_)
      · refine m_iload dX12_isSpelled_64 rfl ?_
        refine m_zret dX12_isSpelled_66 rfl (Or.inl rfl) ?_
        exact h _ _ ⟨isB_0 (fun z => hn z.1), fun _ _ => rfl, fun z => absurd z.1 hn⟩
      · omega
theorem y_word_loop {i a n : Int} {Q : QT} (hi : 0 ≤ i ∧ i ≤ 15) (hn : 1 ≤ n ∧ n ≤ 8) (h : Q (some (vi 1)) (shX nm no) (RX nm no) (wsI I 119 (8 * i) n (I 120))) : ∀ (m : Nat) (k : Int), (n - k).toNat < m → 0 ≤ k → k ≤ n → T g d mX12_word 0 0 37 [some (vr 100), some (vi i), some (vl a), none, some (vi n), some (vi k)] [] (shX nm no) (RX nm no) (wsI I 119 (8 * i) k (I 120)) Q := by
  intro m
  induction m with
  | zero => intro k hm; omega
  | succ m ih =>
    intro k hm h0 h1
    refine m_iload dX12_word_37 rfl ?_
    refine m_iload dX12_word_39 rfl ?_
    refine m_icmp_ge (tgt := 69) dX12_word_41 (by decide) (fun c41 => ?_) (fun c41 => ?_)
    · have ek : k = n := by omega
      subst ek
      refine m_iconst dX12_word_69 (by decide) ?_
      refine m_iret dX12_word_70 rfl ?_
      exact h
    · refine m_aload_n dX12_word_44 rfl ?_
      refine m_gr (z := 34) dX12_word_45 fl_X12_72 oX_100 rfl rfl rX_100_34 ?_
      refine m_bipush dX12_word_48 rfl (by decide) ?_
      refine m_iload_n dX12_word_50 rfl ?_
      refine m_imul dX12_word_51 (by omega) ?_
      refine m_iload dX12_word_52 rfl ?_
      refine m_iadd dX12_word_54 (by omega) ?_
      refine m_aload_n dX12_word_55 rfl ?_
      refine m_gr (z := 35) dX12_word_56 fl_X12_75 oX_100 rfl rfl rX_100_35 ?_
      refine m_iload dX12_word_59 rfl ?_
      refine m_iald dX12_word_61 sX_120 (by omega) (by omega) ?_
      rw [wsI_o (show (120 : Nat) ≠ 119 by decide)]
      refine m_iast dX12_word_62 sX_119 (by omega) (by omega) ?_
      refine m_iinc dX12_word_63 rfl (by decide) rfl rfl (by omega) ?_
      refine m_goto (tgt := 37) dX12_word_66 (by decide) ?_
      rw [wsI_up h0]
      exact ih (k + 1) (by omega) (by omega) (by omega)
theorem py_word {i a n : Int} (hd : 2 ≤ d) : SI g d mX12_word [vr 100, vi i, vl a, vi n] (shX nm no) (RX nm no) I (fun r J => r = aWord i (isw a n) ∧ (((0 ≤ i ∧ i ≤ 15) ∧ isw a n ∧ ∃ K : II, (∀ x, x ≠ 120 → K x = I x) ∧ (∀ k, 0 ≤ k → k < n → K 120 k = byF a k) ∧ J = wsI (upI K 118 i n) 119 (8 * i) n (K 120)) ∨ (¬ ((0 ≤ i ∧ i ≤ 15) ∧ isw a n) ∧ ∀ x, x ≠ 120 → J x = I x))) := by
  intro Q h
  refine C_of rfl (Nat.le_of_ble_eq_true rfl) rfl ?_
  refine m_iload_n dX12_word_0 rfl ?_
  refine m_iconst dX12_word_1 (by decide) ?_
  refine m_bipush dX12_word_2 rfl (by decide) ?_
  refine m_Si [_, _, _] dX12_word_4 lk_X12_123 rfl rfl (Nat.le_of_ble_eq_true rfl) (by omega) y_in ?_
  refine m_if_ne (tgt := 13) dX12_word_7 (by decide) (fun c7 => ?_) (fun c7 => ?_)
  · have z7 := bI_ne0 c7
    refine m_aload_n dX12_word_13 rfl ?_
    refine m_lload_n dX12_word_14 rfl ?_
    refine m_iload dX12_word_15 rfl ?_
    refine m_VI [_, _] dX12_word_17 lk_X12_316 rfl oX_100 rfl (Nat.le_of_ble_eq_true rfl) (by omega) (y_isSpelled (by omega)) ?_
    intro r17 I17 q17
    refine m_if_ne (tgt := 26) dX12_word_20 (by decide) (fun c20 => ?_) (fun c20 => ?_)
    · have z20 : isw a n := q17.1.2.mp (by have := q17.1.1; omega)
      refine m_aload_n dX12_word_26 rfl ?_
      refine m_gr (z := 33) dX12_word_27 fl_X12_69 oX_100 rfl rfl rX_100_33 ?_
      refine m_iload_n dX12_word_30 rfl ?_
      refine m_iload dX12_word_31 rfl ?_
      refine m_iast dX12_word_33 sX_118 (by omega) (by omega) ?_
      refine m_iconst dX12_word_34 (by decide) ?_
      refine m_istore dX12_word_35 (by decide) rfl rfl ?_
      have z := y_word_loop (g := g) (d := d) (nm := nm) (no := no) (I := upI I17 118 i n) (Q := Q) (a := a) z7 z20.1 (h _ _ ⟨by unfold aWord; rw [if_pos z7, cif_t z20], Or.inl ⟨z7, z20, I17, q17.2.1, q17.2.2 z20, by rw [upI_o (show (120 : Nat) ≠ 118 by decide)]⟩⟩) _ 0 (Nat.lt_succ_self _) (by omega) (by have := z20.1; omega)
      rw [wsI_0] at z
      exact z
    · have z20 : ¬ isw a n := fun z => by have := q17.1.2.mpr z; omega
      refine m_bipush dX12_word_23 rfl (by decide) ?_
      refine m_iret dX12_word_25 rfl ?_
      exact h _ _ ⟨by unfold aWord; rw [if_pos z7, cif_f z20], Or.inr ⟨fun z => z20 z.2, q17.2.1⟩⟩
  · have z7 := bI_eq0 (show _ = (0 : Int) by omega)
    refine m_bipush dX12_word_10 rfl (by decide) ?_
    refine m_iret dX12_word_12 rfl ?_
    exact h _ _ ⟨by unfold aWord; rw [if_neg z7], Or.inr ⟨fun z => z7 z.1, fun _ _ => rfl⟩⟩
end
