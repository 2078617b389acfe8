/-! STRINGS: the literals, their length and letters -/
section
variable {g : GH} {d : Nat} {μ : MT} {bc bs pc : Nat} {L : List (Option AV)} {st : List AV} {sh : SH} {R : RR} {I : II} {Q : QT}
theorem dJ0_length_8abf5_0 : decode cJ0_length_8abf5 0 = .ok (.aload_n 0, 1) := by decide +kernel
theorem dJ0_length_8abf5_1 : decode cJ0_length_8abf5 1 = .ok (.getfield 9, 3) := by decide +kernel
theorem dJ0_length_8abf5_4 : decode cJ0_length_8abf5 4 = .ok (.arraylength, 1) := by decide +kernel
theorem dJ0_length_8abf5_5 : decode cJ0_length_8abf5 5 = .ok (.aload_n 0, 1) := by decide +kernel
theorem dJ0_length_8abf5_6 : decode cJ0_length_8abf5 6 = .ok (.invokevirtual 335, 3) := by decide +kernel
theorem dJ0_length_8abf5_9 : decode cJ0_length_8abf5 9 = .ok (.ishr, 1) := by decide +kernel
theorem dJ0_length_8abf5_10 : decode cJ0_length_8abf5 10 = .ok (.ireturn, 1) := by decide +kernel
theorem dJ0_charAt_5068e_0 : decode cJ0_charAt_5068e 0 = .ok (.aload_n 0, 1) := by decide +kernel
theorem dJ0_charAt_5068e_1 : decode cJ0_charAt_5068e 1 = .ok (.invokevirtual 492, 3) := by decide +kernel
theorem dJ0_charAt_5068e_4 : decode cJ0_charAt_5068e 4 = .ok (.ifCond .eq 12, 3) := by decide +kernel
theorem dJ0_charAt_5068e_7 : decode cJ0_charAt_5068e 7 = .ok (.aload_n 0, 1) := by decide +kernel
theorem dJ0_charAt_5068e_8 : decode cJ0_charAt_5068e 8 = .ok (.getfield 9, 3) := by decide +kernel
theorem dJ0_charAt_5068e_11 : decode cJ0_charAt_5068e 11 = .ok (.iload_n 1, 1) := by decide +kernel
theorem dJ0_charAt_5068e_12 : decode cJ0_charAt_5068e 12 = .ok (.invokestatic 495, 3) := by decide +kernel
theorem dJ0_charAt_5068e_15 : decode cJ0_charAt_5068e 15 = .ok (.ireturn, 1) := by decide +kernel
theorem dJ0_charAt_5068e_16 : decode cJ0_charAt_5068e 16 = .ok (.aload_n 0, 1) := by decide +kernel
theorem dJ0_charAt_5068e_17 : decode cJ0_charAt_5068e 17 = .ok (.getfield 9, 3) := by decide +kernel
theorem dJ0_charAt_5068e_20 : decode cJ0_charAt_5068e 20 = .ok (.iload_n 1, 1) := by decide +kernel
theorem dJ0_charAt_5068e_21 : decode cJ0_charAt_5068e 21 = .ok (.invokestatic 498, 3) := by decide +kernel
theorem dJ0_charAt_5068e_24 : decode cJ0_charAt_5068e 24 = .ok (.ireturn, 1) := by decide +kernel
theorem dJ0_coder_7d493_0 : decode cJ0_coder_7d493 0 = .ok (.getstatic 38, 3) := by decide +kernel
theorem dJ0_coder_7d493_3 : decode cJ0_coder_7d493 3 = .ok (.ifCond .eq 10, 3) := by decide +kernel
theorem dJ0_coder_7d493_6 : decode cJ0_coder_7d493 6 = .ok (.aload_n 0, 1) := by decide +kernel
theorem dJ0_coder_7d493_7 : decode cJ0_coder_7d493 7 = .ok (.getfield 15, 3) := by decide +kernel
theorem dJ0_coder_7d493_10 : decode cJ0_coder_7d493 10 = .ok (.goto 4, 3) := by decide +kernel
theorem dJ0_coder_7d493_13 : decode cJ0_coder_7d493 13 = .ok (.iconst 1, 1) := by decide +kernel
theorem dJ0_coder_7d493_14 : decode cJ0_coder_7d493 14 = .ok (.ireturn, 1) := by decide +kernel
theorem dJ0_isLatin1_aae02_0 : decode cJ0_isLatin1_aae02 0 = .ok (.getstatic 38, 3) := by decide +kernel
theorem dJ0_isLatin1_aae02_3 : decode cJ0_isLatin1_aae02 3 = .ok (.ifCond .eq 14, 3) := by decide +kernel
theorem dJ0_isLatin1_aae02_6 : decode cJ0_isLatin1_aae02 6 = .ok (.aload_n 0, 1) := by decide +kernel
theorem dJ0_isLatin1_aae02_7 : decode cJ0_isLatin1_aae02 7 = .ok (.getfield 15, 3) := by decide +kernel
theorem dJ0_isLatin1_aae02_10 : decode cJ0_isLatin1_aae02 10 = .ok (.ifCond .ne 7, 3) := by decide +kernel
theorem dJ0_isLatin1_aae02_13 : decode cJ0_isLatin1_aae02 13 = .ok (.iconst 1, 1) := by decide +kernel
theorem dJ0_isLatin1_aae02_14 : decode cJ0_isLatin1_aae02 14 = .ok (.goto 4, 3) := by decide +kernel
theorem dJ0_isLatin1_aae02_17 : decode cJ0_isLatin1_aae02 17 = .ok (.iconst 0, 1) := by decide +kernel
theorem dJ0_isLatin1_aae02_18 : decode cJ0_isLatin1_aae02 18 = .ok (.ireturn, 1) := by decide +kernel
theorem dJ0_checkIndex_df160_0 : decode cJ0_checkIndex_df160 0 = .ok (.iload_n 0, 1) := by decide +kernel
theorem dJ0_checkIndex_df160_1 : decode cJ0_checkIndex_df160 1 = .ok (.iload_n 1, 1) := by decide +kernel
theorem dJ0_checkIndex_df160_2 : decode cJ0_checkIndex_df160 2 = .ok (.getstatic 1053, 3) := by decide +kernel
theorem dJ0_checkIndex_df160_5 : decode cJ0_checkIndex_df160 5 = .ok (.invokestatic 1059, 3) := by decide +kernel
theorem dJ0_checkIndex_df160_8 : decode cJ0_checkIndex_df160 8 = .ok (.pop, 1) := by decide +kernel
theorem dJ0_checkIndex_df160_9 : decode cJ0_checkIndex_df160 9 = .ok (.return_, 1) := by decide +kernel
theorem dJ1_charAt_3b067_0 : decode cJ1_charAt_3b067 0 = .ok (.iload_n 1, 1) := by decide +kernel
theorem dJ1_charAt_3b067_1 : decode cJ1_charAt_3b067 1 = .ok (.aload_n 0, 1) := by decide +kernel
theorem dJ1_charAt_3b067_2 : decode cJ1_charAt_3b067 2 = .ok (.arraylength, 1) := by decide +kernel
theorem dJ1_charAt_3b067_3 : decode cJ1_charAt_3b067 3 = .ok (.invokestatic 9, 3) := by decide +kernel
theorem dJ1_charAt_3b067_6 : decode cJ1_charAt_3b067 6 = .ok (.aload_n 0, 1) := by decide +kernel
theorem dJ1_charAt_3b067_7 : decode cJ1_charAt_3b067 7 = .ok (.iload_n 1, 1) := by decide +kernel
theorem dJ1_charAt_3b067_8 : decode cJ1_charAt_3b067 8 = .ok (.baload, 1) := by decide +kernel
theorem dJ1_charAt_3b067_9 : decode cJ1_charAt_3b067 9 = .ok (.sipush 255, 3) := by decide +kernel
theorem dJ1_charAt_3b067_12 : decode cJ1_charAt_3b067 12 = .ok (.iand, 1) := by decide +kernel
theorem dJ1_charAt_3b067_13 : decode cJ1_charAt_3b067 13 = .ok (.i2c, 1) := by decide +kernel
theorem dJ1_charAt_3b067_14 : decode cJ1_charAt_3b067 14 = .ok (.ireturn, 1) := by decide +kernel
theorem dJ3_checkIndex_8e157_0 : decode cJ3_checkIndex_8e157 0 = .ok (.iload_n 0, 1) := by decide +kernel
theorem dJ3_checkIndex_8e157_1 : decode cJ3_checkIndex_8e157 1 = .ok (.ifCond .lt 8, 3) := by decide +kernel
theorem dJ3_checkIndex_8e157_4 : decode cJ3_checkIndex_8e157 4 = .ok (.iload_n 0, 1) := by decide +kernel
theorem dJ3_checkIndex_8e157_5 : decode cJ3_checkIndex_8e157 5 = .ok (.iload_n 1, 1) := by decide +kernel
theorem dJ3_checkIndex_8e157_6 : decode cJ3_checkIndex_8e157 6 = .ok (.if_icmp .lt 10, 3) := by decide +kernel
theorem dJ3_checkIndex_8e157_9 : decode cJ3_checkIndex_8e157 9 = .ok (.aload_n 2, 1) := by decide +kernel
theorem dJ3_checkIndex_8e157_10 : decode cJ3_checkIndex_8e157 10 = .ok (.iload_n 0, 1) := by decide +kernel
theorem dJ3_checkIndex_8e157_11 : decode cJ3_checkIndex_8e157 11 = .ok (.iload_n 1, 1) := by decide +kernel
theorem dJ3_checkIndex_8e157_12 : decode cJ3_checkIndex_8e157 12 = .ok (.invokestatic 95, 3) := by decide +kernel
theorem dJ3_checkIndex_8e157_15 : decode cJ3_checkIndex_8e157 15 = .ok (.athrow, 1) := by decide +kernel
theorem dJ3_checkIndex_8e157_16 : decode cJ3_checkIndex_8e157 16 = .ok (.iload_n 0, 1) := by decide +kernel
theorem dJ3_checkIndex_8e157_17 : decode cJ3_checkIndex_8e157 17 = .ok (.ireturn, 1) := by decide +kernel
def litC (i k : Nat) : Int := ((litB.getD i []).getD k 0).toInt
theorem gid_l {i : Nat} (h : i < 12) : gid (4 + i) := Or.inl (by omega)
theorem gid_b {i : Nat} (h : i < 13) : gid (1000 + i) := Or.inr (by omega)
theorem m_ldcS {i : Nat} (hi : i < 12) (hc : μ.1.cls = RX10) (hd : decode μ.2.1 pc = .ok (.ldc (litK.getD i 0), 2)) (h : T g d μ bc bs (pc + 2) L (vr (4 + i) :: st) sh R I Q) : T g d μ bc bs pc L st sh R I Q := by
  intro p e s m args below meth c0 Rm Z ad0 sh0 mc ms O H locs cells slots ad ls N
  obtain ⟨n1, n2, n3, n4, n5, n6, n7, n8⟩ := N
  have hSt := O.1.2.2.2.2.2.2
  have hz := hSt.2.2.2.2.2.2.2.1 i hi
  have ho := O.1.2.2.2.2.1
  rw [hc] at ho
  obtain ⟨ea, e3⟩ := n3.2.1 (4 + i) (gid_l hi)
  refine va_ldcS O.1.1 O.1.2.1 ho hz hd ?_
  rw [← ea]
  exact h p e s m args below meth c0 Rm Z ad0 sh0 mc ms O H locs cells slots ad ls ⟨n1, n2, n3, okc (show (sh (4 + i)).1 ≠ 0 by omega) n4, n5, n6, n7, n8⟩
theorem m_sval {i k : Nat} (hi : i < 12) (hd : decode μ.2.1 pc = .ok (.getfield k, 3)) (hw : Cond.fieldLink μ.1.cls k "java/lang/String" "value" "[B" ∈ lw_tbl) (h : T g d μ bc bs (pc + 3) L (vr (1000 + i) :: st) sh R I Q) : T g d μ bc bs pc L (vr (4 + i) :: st) sh R I Q := by
  intro p e s m args below meth c0 Rm Z ad0 sh0 mc ms O H locs cells slots ad ls N
  obtain ⟨n1, n2, n3, n4, n5, n6, n7, n8⟩ := N
  have hSt := O.1.2.2.2.2.2.2
  have hts := O.1.2.2.2.2.2.1
  have hz := (hSt.2.2.2.2.2.2.1.1 i hi).2.2.1
  obtain ⟨ea, e3⟩ := n3.2.1 (4 + i) (gid_l hi)
  obtain ⟨eb, e4⟩ := n3.2.1 (1000 + i) (gid_b (by omega))
  show W p (gL g) e Rm s m args below meth c0 H locs cells slots Z (F0 m pc ls (.ref (ad (4 + i)) :: st.map (cv ad)))
  rw [ea]
  refine vk_getf O.1.1 O.1.2.1 hz n8 O.1.2.2.2.2.1 (hts _ (List.mem_cons_of_mem _ (lwG_of hw rfl))) (fun _ h9 => h9) hd ?_
  show W p (gL g) e Rm s m args below meth c0 H locs cells slots Z (F0 m (pc + 3) ls (.ref (gO g (1000 + i)) :: st.map (cv ad)))
  rw [← eb]
  exact h p e s m args below meth c0 Rm Z ad0 sh0 mc ms O H locs cells slots ad ls ⟨n1, n2, n3, okc (show (sh (1000 + i)).1 ≠ 0 by omega) (ok1 n4).2, n5, n6, n7, n8⟩
theorem m_scod {i k : Nat} (hi : i < 12) (hd : decode μ.2.1 pc = .ok (.getfield k, 3)) (hw : Cond.fieldLink μ.1.cls k "java/lang/String" "coder" "B" ∈ lw_tbl) (h : T g d μ bc bs (pc + 3) L (vi 0 :: st) sh R I Q) : T g d μ bc bs pc L (vr (4 + i) :: st) sh R I Q := by
  intro p e s m args below meth c0 Rm Z ad0 sh0 mc ms O H locs cells slots ad ls N
  obtain ⟨n1, n2, n3, n4, n5, n6, n7, n8⟩ := N
  have hSt := O.1.2.2.2.2.2.2
  have hts := O.1.2.2.2.2.2.1
  have hz := (hSt.2.2.2.2.2.2.1.1 i hi).2.1
  obtain ⟨ea, e3⟩ := n3.2.1 (4 + i) (gid_l hi)
  show W p (gL g) e Rm s m args below meth c0 H locs cells slots Z (F0 m pc ls (.ref (ad (4 + i)) :: st.map (cv ad)))
  rw [ea]
  refine vk_getf O.1.1 O.1.2.1 hz n8 O.1.2.2.2.2.1 (hts _ (List.mem_cons_of_mem _ (lwG_of hw rfl))) (fun _ h9 => h9) hd ?_
  exact h p e s m args below meth c0 Rm Z ad0 sh0 mc ms O H locs cells slots ad ls ⟨n1, n2, n3, okc (show R32 0 by decide) (ok1 n4).2, n5, n6, n7, n8⟩
theorem m_getsZ {k : Nat} (hd : decode μ.2.1 pc = .ok (.getstatic k, 3)) (hw : Cond.fieldLink μ.1.cls k "java/lang/String" "COMPACT_STRINGS" "Z" ∈ lw_tbl) (h : T g d μ bc bs (pc + 3) L (vi 1 :: st) sh R I Q) : T g d μ bc bs pc L st sh R I Q := by
  intro p e s m args below meth c0 Rm Z ad0 sh0 mc ms O H locs cells slots ad ls N
  obtain ⟨n1, n2, n3, n4, n5, n6, n7, n8⟩ := N
  have hSt := O.1.2.2.2.2.2.2
  have hts := O.1.2.2.2.2.2.1
  refine va_gets O.1.1 O.1.2.1 hSt.2.2.2.2.2.2.2.2.2.2.2.1 n8 O.1.2.2.2.2.1 (hts _ (List.mem_cons_of_mem _ (lwG_of hw rfl))) (fun _ h9 => h9) hd ?_
  exact h p e s m args below meth c0 Rm Z ad0 sh0 mc ms O H locs cells slots ad ls ⟨n1, n2, n3, okc (show R32 1 by decide) n4, n5, n6, n7, n8⟩
def fmA (g : GH) : Option Nat := if (gX g 0).1 = 0 then none else some 1012
theorem m_getsF {k : Nat} (hd : decode μ.2.1 pc = .ok (.getstatic k, 3)) (hw : Cond.fieldLink μ.1.cls k "jdk/internal/util/Preconditions" "SIOOBE_FORMATTER" "Ljava/util/function/BiFunction;" ∈ lw_tbl) (h : T g d μ bc bs (pc + 3) L (vq (fmA g) :: st) sh R I Q) : T g d μ bc bs pc L st sh R I Q := by
  intro p e s m args below meth c0 Rm Z ad0 sh0 mc ms O H locs cells slots ad ls N
  obtain ⟨n1, n2, n3, n4, n5, n6, n7, n8⟩ := N
  have hSt := O.1.2.2.2.2.2.2
  have hts := O.1.2.2.2.2.2.1
  obtain ⟨eb, e4⟩ := n3.2.1 (1000 + 12) (gid_b (by omega))
  have ev : cv ad (vq (fmA g)) = fmV g := by
    unfold fmA fmV
    by_cases z : (gX g 0).1 = 0
    · rw [if_pos z, if_pos z]; rfl
    · rw [if_neg z, if_neg z, ← eb]; rfl
  refine va_gets O.1.1 O.1.2.1 hSt.2.2.2.2.2.2.2.2.2.2.2.2 n8 O.1.2.2.2.2.1 (hts _ (List.mem_cons_of_mem _ (lwG_of hw rfl))) (fun _ h9 => h9) hd ?_
  rw [← ev]
  refine h p e s m args below meth c0 Rm Z ad0 sh0 mc ms O H locs cells slots ad ls ⟨n1, n2, n3, okc ?_ n4, n5, n6, n7, n8⟩
  unfold fmA
  by_cases z : (gX g 0).1 = 0
  · rw [if_pos z]; exact trivial
  · rw [if_neg z]; show (sh 1012).1 ≠ 0; have e5 : 30 ≤ (sh 1012).1 := e4; omega
theorem m_blen {i : Nat} (hi : i < 12) (hd : decode μ.2.1 pc = .ok (.arraylength, 1)) (h : T g d μ bc bs (pc + 1) L (vi (litL.getD i 0 : Nat) :: st) sh R I Q) : T g d μ bc bs pc L (vr (1000 + i) :: st) sh R I Q := by
  intro p e s m args below meth c0 Rm Z ad0 sh0 mc ms O H locs cells slots ad ls N
  obtain ⟨n1, n2, n3, n4, n5, n6, n7, n8⟩ := N
  have hSt := O.1.2.2.2.2.2.2
  have hz := (hSt.2.2.2.2.2.2.1.1 i hi).2.2.2
  obtain ⟨ea, e3⟩ := n3.2.1 (1000 + i) (gid_b (by omega))
  have hl : litL.getD i 0 ≤ 6 := by
    have : ∀ i : Fin 12, litL.getD i.val 0 ≤ 6 := by decide
    exact this ⟨i, hi⟩
  show W p (gL g) e Rm s m args below meth c0 H locs cells slots Z (F0 m pc ls (.ref (ad (1000 + i)) :: st.map (cv ad)))
  rw [ea]
  refine va_tlen O.1.1 O.1.2.1 hz n8 (v := Int32.ofInt ((litL.getD i 0 : Nat) : Int)) (Int32.ofInt_eq_ofNat).symm hd ?_
  exact h p e s m args below meth c0 Rm Z ad0 sh0 mc ms O H locs cells slots ad ls ⟨n1, n2, n3, okc (show R32 _ by omega) (ok1 n4).2, n5, n6, n7, n8⟩
theorem m_bld {i : Nat} {k : Nat} (hi : i < 12) (hk : k < litL.getD i 0) (hd : decode μ.2.1 pc = .ok (.baload, 1)) (h : T g d μ bc bs (pc + 1) L (vi (litC i k) :: st) sh R I Q) : T g d μ bc bs pc L (vi k :: vr (1000 + i) :: st) sh R I Q := by
  intro p e s m args below meth c0 Rm Z ad0 sh0 mc ms O H locs cells slots ad ls N
  obtain ⟨n1, n2, n3, n4, n5, n6, n7, n8⟩ := N
  have hSt := O.1.2.2.2.2.2.2
  have hz := (hSt.2.2.2.2.2.2.1.1 i hi).2.2.2
  obtain ⟨ea, e3⟩ := n3.2.1 (1000 + i) (gid_b (by omega))
  have hl : litL.getD i 0 ≤ 6 := by
    have : ∀ i : Fin 12, litL.getD i.val 0 ≤ 6 := by decide
    exact this ⟨i, hi⟩
  have rk : R32 (k : Int) := by omega
  show W p (gL g) e Rm s m args below meth c0 H locs cells slots Z (F0 m pc ls (.int (Int32.ofInt k) :: .ref (ad (1000 + i)) :: st.map (cv ad)))
  rw [ea]
  refine va_tb O.1.1 O.1.2.1 hz n8 (r32_in rk (by omega) (by omega)) (v := .int (Int32.ofInt (litC i k))) ?_ hd ?_
  · show Value.int _ = Value.int _
    rw [r32_cl rk, Int.toNat_natCast]
    exact congrArg Value.int (Int32.ofInt_toInt _).symm
  · exact h p e s m args below meth c0 Rm Z ad0 sh0 mc ms O H locs cells slots ad ls ⟨n1, n2, n3, okc (show R32 _ from r32_of _) (ok2 n4).2.2, n5, n6, n7, n8⟩
theorem m_nret {a : Int} {ty : FieldType} (hd : decode μ.2.1 pc = .ok (.ireturn, 1)) (hr : μ.2.2.2 = some ty) (hn : narrow ty (.int (Int32.ofInt a)) = .int (Int32.ofInt a)) (h : Q (some (vi a)) sh R I) : T g d μ bc bs pc L [vi a] sh R I Q := m_ret (rv := some (vi a)) hd (Or.inr (Or.inl ⟨_, _, hr, rfl, rfl, hn⟩)) rfl h
/-- a call on a literal -/
def CLW (own : String) (i : Nat) (ν : MT) (n : Nat) : Prop := CLb ν n ∧ Cond.methodLink own i ν.1 ∈ lw_tbl ∧ Cond.instanceMethod ν.1 ∈ lw_tbl ∧ Cond.selects "java/lang/String" ν.1 ν.1 ∈ lw_tbl
theorem m_callW {i b d' n : Nat} {ν : MT} {stk : List AV} (as : List AV) (hd : decode μ.2.1 pc = .ok (.invokevirtual i, 3)) (hl : CLW μ.1.cls i ν n) (hn : as.length = n) (hb : b < 12) (hs : stk = as.reverse ++ vr (4 + b) :: st) (hg : ctg st ≤ 8) (hdd : d' < d)
    (h : C g d' ν 0 0 (vr (4 + b) :: as) sh R I (fun rv sh' R' I' => T g d μ (bc - 0) (bs - 0) (pc + 3) L (rv.toList ++ st) sh' R' I' Q)) : T g d μ bc bs pc L stk sh R I Q := by
  intro p e s m args below meth c0 Rm Z ad0 sh0 mc ms O H locs cells slots ad ls N
  obtain ⟨n1, n2, n3, n4, n5, n6, n7, n8⟩ := N
  obtain ⟨⟨w1, w2, w3, w4⟩, w5, w6, w7⟩ := hl
  obtain ⟨ha, hst⟩ := rev_ok hs n4
  have hts := O.1.2.2.2.2.2.1
  have ok : ∀ w, w ∈ lw_tbl → goodWord w = true → w.before args s = true := fun w h1 h2 => hts w (List.mem_cons_of_mem _ (lwG_of h1 h2))
  have hSt := O.1.2.2.2.2.2.2
  obtain ⟨ea, e3⟩ := n3.2.1 (4 + b) (gid_l hb)
  have hr := vk_recv hSt.2.2.2.2.2.2.1 hb n8
  rw [← ea] at hr
  refine m_run O (by omega) (by omega) n1 n2 hst n5 n6 n7 n8 (va_runV (C := "java/lang/String") (b := ad (4 + b)) (As := as.map (cv ad)) (bytes := ν.2.1) (maxL := ν.2.2.1) (ret := ν.2.2.2) (n := n) (own := μ.1.cls) (Ts := WT μ) ⟨O.1.1, O.1.2.1, O.1.2.2.1, O.1.2.2.2.2.1, hts⟩ (h ad) ⟨callB_of n hts (WT_good w2) rfl rfl rfl (ok _ w1 rfl) (ok _ w5 rfl) w3 ⟨by show d' + 1 ≤ Rm.frames; have := O.2.1.1; omega, by show 8 + (ν.2.2.1 + 11) + 60 * d' ≤ Rm.locals; have := O.2.1.2.1; omega⟩, ok _ w6 rfl, ok _ w7 rfl⟩ ⟨Pt'.blind, hr, pre_of O n3 n8 ha⟩ rfl (by rw [List.length_map]; exact hn) n6.1 ?_ ?_ hd ⟨by have := O.2.1.2.2.1; omega, by have := O.2.1.2.2.2; omega⟩)
  · show stk.map (cv ad) = _
    rw [hs, List.map_append, List.map_reverse]
    rfl
  · have := ctg_eq (ad := ad) st
    show 2 * _ + _ ≤ 8
    rw [this]
    exact (by simpa [JFrame.monitorRoom] using hg)
theorem m_Wi {i b n : Nat} {ν : MT} {stk : List AV} (as : List AV) (hd : decode μ.2.1 pc = .ok (.invokevirtual i, 3)) (hl : CLW μ.1.cls i ν n) (hn : as.length = n) (hb : b < 12) (hs : stk = as.reverse ++ vr (4 + b) :: st) (hg : ctg st ≤ 8) (hdd : 1 ≤ d) {v : Int} (hC : SP g (d - 1) ν 0 0 (vr (4 + b) :: as) sh R I (some (vi v)) sh R I) (h : T g d μ bc bs (pc + 3) L (vi v :: st) sh R I Q) : T g d μ bc bs pc L stk sh R I Q := m_callW as hd hl hn hb hs hg (show d - 1 < d by omega) (hC _ h)
theorem fw_val : Cond.fieldLink RJ0 9 "java/lang/String" "value" "[B" ∈ lw_tbl := mem_t7 198 (by decide +kernel)
theorem fw_cod : Cond.fieldLink RJ0 15 "java/lang/String" "coder" "B" ∈ lw_tbl := mem_t7 199 (by decide +kernel)
theorem fw_cs : Cond.fieldLink RJ0 38 "java/lang/String" "COMPACT_STRINGS" "Z" ∈ lw_tbl := mem_t4 81 (by decide +kernel)
theorem fw_fm : Cond.fieldLink RJ0 1053 "jdk/internal/util/Preconditions" "SIOOBE_FORMATTER" "Ljava/util/function/BiFunction;" ∈ lw_tbl := mem_t4 97 (by decide +kernel)
theorem lw_len : CLW RX10 125 mJ0_length_8abf5 0 := ⟨cb_J0_length_8abf5, mem_t4 73 (by decide +kernel), mem_t4 74 (by decide +kernel), mem_t4 75 (by decide +kernel)⟩
theorem lw_cod : CLW RJ0 335 mJ0_coder_7d493 0 := ⟨cb_J0_coder_7d493, mem_t4 77 (by decide +kernel), mem_t4 78 (by decide +kernel), mem_t4 79 (by decide +kernel)⟩
theorem lw_chr : CLW RX10 130 mJ0_charAt_5068e 1 := ⟨cb_J0_charAt_5068e, mem_t4 83 (by decide +kernel), mem_t4 84 (by decide +kernel), mem_t4 85 (by decide +kernel)⟩
theorem lw_lat : CLW RJ0 492 mJ0_isLatin1_aae02 0 := ⟨cb_J0_isLatin1_aae02, mem_t4 87 (by decide +kernel), mem_t4 88 (by decide +kernel), mem_t4 89 (by decide +kernel)⟩
theorem lw_l1 : CLS RJ0 495 mJ1_charAt_3b067 2 := ⟨cb_J1_charAt_3b067, mem_t4 91 (by decide +kernel), mem_t4 92 (by decide +kernel)⟩
theorem lw_ci : CLS RJ1 9 mJ0_checkIndex_df160 2 := ⟨cb_J0_checkIndex_df160, mem_t4 94 (by decide +kernel), mem_t4 95 (by decide +kernel)⟩
theorem lw_pc : CLS RJ0 1059 mJ3_checkIndex_8e157 3 := ⟨cb_J3_checkIndex_8e157, mem_t4 99 (by decide +kernel), mem_t4 100 (by decide +kernel)⟩
theorem lit_ok : ∀ i : Fin 12, (1 ≤ litL.getD i.val 0 ∧ litL.getD i.val 0 ≤ 6) ∧ f_ishr ((litL.getD i.val 0 : Nat) : Int) 0 = ((litL.getD i.val 0 : Nat) : Int) ∧ ∀ k : Fin 6, k.val < litL.getD i.val 0 → f_i2c (f_iand (litC i.val k.val) 255) = litC i.val k.val ∧ narrow .char (.int (Int32.ofInt (litC i.val k.val))) = .int (Int32.ofInt (litC i.val k.val)) ∧ 97 ≤ litC i.val k.val ∧ litC i.val k.val ≤ 122 := by decide +kernel
theorem x_coder {i : Nat} (hi : i < 12) : SP g d mJ0_coder_7d493 0 0 [vr (4 + i)] sh R I (some (vi 0)) sh R I := by
  intro Q h
  refine C_of rfl (Nat.le_of_ble_eq_true rfl) rfl ?_
  refine m_getsZ dJ0_coder_7d493_0 fw_cs ?_
  refine m_if_eq (tgt := 13) dJ0_coder_7d493_3 (by decide) (fun c => absurd c (by decide)) (fun _ => ?_)
  refine m_aload_n dJ0_coder_7d493_6 rfl ?_
  refine m_scod hi dJ0_coder_7d493_7 fw_cod ?_
  refine m_goto (tgt := 14) dJ0_coder_7d493_10 (by decide) ?_
  exact m_nret dJ0_coder_7d493_14 rfl (by decide) h
theorem x_isLatin1 {i : Nat} (hi : i < 12) : SP g d mJ0_isLatin1_aae02 0 0 [vr (4 + i)] sh R I (some (vi 1)) sh R I := by
  intro Q h
  refine C_of rfl (Nat.le_of_ble_eq_true rfl) rfl ?_
  refine m_getsZ dJ0_isLatin1_aae02_0 fw_cs ?_
  refine m_if_eq (tgt := 17) dJ0_isLatin1_aae02_3 (by decide) (fun c => absurd c (by decide)) (fun _ => ?_)
  refine m_aload_n dJ0_isLatin1_aae02_6 rfl ?_
  refine m_scod hi dJ0_isLatin1_aae02_7 fw_cod ?_
  refine m_if_ne (tgt := 17) dJ0_isLatin1_aae02_10 (by decide) (fun c => absurd rfl c) (fun _ => ?_)
  refine m_iconst dJ0_isLatin1_aae02_13 (by decide) ?_
  refine m_goto (tgt := 18) dJ0_isLatin1_aae02_14 (by decide) ?_
  exact m_zret dJ0_isLatin1_aae02_18 rfl (Or.inr rfl) h
theorem x_slen {i : Nat} (hd : 1 ≤ d) (hi : i < 12) : SP g d mJ0_length_8abf5 0 0 [vr (4 + i)] sh R I (some (vi (litL.getD i 0 : Nat))) sh R I := by
  intro Q h
  refine C_of rfl (Nat.le_of_ble_eq_true rfl) rfl ?_
  refine m_aload_n dJ0_length_8abf5_0 rfl ?_
  refine m_sval hi dJ0_length_8abf5_1 fw_val ?_
  refine m_blen hi dJ0_length_8abf5_4 ?_
  refine m_aload_n dJ0_length_8abf5_5 rfl ?_
  refine m_Wi [] dJ0_length_8abf5_6 lw_cod rfl hi rfl (Nat.le_of_ble_eq_true rfl) hd (x_coder hi) ?_
  refine m_ishr dJ0_length_8abf5_9 ?_
  rw [(lit_ok ⟨i, hi⟩).2.1]
  exact m_iret dJ0_length_8abf5_10 rfl h
theorem x_pcheck {a n : Int} {o : Option Nat} (ha : 0 ≤ a ∧ a < n) : SP g d mJ3_checkIndex_8e157 0 0 [vi a, vi n, vq o] sh R I (some (vi a)) sh R I := by
  intro Q h
  refine C_of rfl (Nat.le_of_ble_eq_true rfl) rfl ?_
  refine m_iload_n dJ3_checkIndex_8e157_0 rfl ?_
  refine m_if_lt (tgt := 9) dJ3_checkIndex_8e157_1 (by decide) (fun c => absurd c (by omega)) (fun _ => ?_)
  refine m_iload_n dJ3_checkIndex_8e157_4 rfl ?_
  refine m_iload_n dJ3_checkIndex_8e157_5 rfl ?_
  refine m_icmp_lt (tgt := 16) dJ3_checkIndex_8e157_6 (by decide) (fun _ => ?_) (fun c => absurd ha.2 c)
  refine m_iload_n dJ3_checkIndex_8e157_16 rfl ?_
  exact m_iret dJ3_checkIndex_8e157_17 rfl h
theorem x_scheck {a n : Int} (hd : 1 ≤ d) (ha : 0 ≤ a ∧ a < n) : SP g d mJ0_checkIndex_df160 0 0 [vi a, vi n] sh R I none sh R I := by
  intro Q h
  refine C_of rfl (Nat.le_of_ble_eq_true rfl) rfl ?_
  refine m_iload_n dJ0_checkIndex_df160_0 rfl ?_
  refine m_iload_n dJ0_checkIndex_df160_1 rfl ?_
  refine m_getsF dJ0_checkIndex_df160_2 fw_fm ?_
  refine m_Si [_, _, _] dJ0_checkIndex_df160_5 lw_pc rfl rfl (Nat.le_of_ble_eq_true rfl) hd (x_pcheck ha) ?_
  refine m_pop dJ0_checkIndex_df160_8 (fun _ z => by cases z) ?_
  exact m_vret dJ0_checkIndex_df160_9 rfl h
theorem x_l1char {i k : Nat} (hd : 2 ≤ d) (hi : i < 12) (hk : k < litL.getD i 0) : SP g d mJ1_charAt_3b067 0 0 [vr (1000 + i), vi k] sh R I (some (vi (litC i k))) sh R I := by
  have hl := (lit_ok ⟨i, hi⟩).1
  have hl2 : litL.getD i 0 ≤ 6 := hl.2
  have ho := (lit_ok ⟨i, hi⟩).2.2 ⟨k, by omega⟩ hk
  intro Q h
  refine C_of rfl (Nat.le_of_ble_eq_true rfl) rfl ?_
  refine m_iload_n dJ1_charAt_3b067_0 rfl ?_
  refine m_aload_n dJ1_charAt_3b067_1 rfl ?_
  refine m_blen hi dJ1_charAt_3b067_2 ?_
  refine m_Sv [_, _] dJ1_charAt_3b067_3 lw_ci rfl rfl (Nat.le_of_ble_eq_true rfl) (by omega) (x_scheck (by omega) (by omega)) ?_
  refine m_aload_n dJ1_charAt_3b067_6 rfl ?_
  refine m_iload_n dJ1_charAt_3b067_7 rfl ?_
  refine m_bld hi hk dJ1_charAt_3b067_8 ?_
  refine m_sipush dJ1_charAt_3b067_9 rfl (by decide) ?_
  refine m_iand dJ1_charAt_3b067_12 ?_
  refine m_i2c dJ1_charAt_3b067_13 ?_
  rw [ho.1]
  exact m_nret dJ1_charAt_3b067_14 rfl ho.2.1 h
theorem x_charAt {i k : Nat} (hd : 3 ≤ d) (hi : i < 12) (hk : k < litL.getD i 0) : SP g d mJ0_charAt_5068e 0 0 [vr (4 + i), vi k] sh R I (some (vi (litC i k))) sh R I := by
  have hl := (lit_ok ⟨i, hi⟩).1
  have hl2 : litL.getD i 0 ≤ 6 := hl.2
  have ho := (lit_ok ⟨i, hi⟩).2.2 ⟨k, by omega⟩ hk
  intro Q h
  refine C_of rfl (Nat.le_of_ble_eq_true rfl) rfl ?_
  refine m_aload_n dJ0_charAt_5068e_0 rfl ?_
  refine m_Wi [] dJ0_charAt_5068e_1 lw_lat rfl hi rfl (Nat.le_of_ble_eq_true rfl) (by omega) (x_isLatin1 hi) ?_
  refine m_if_eq (tgt := 16) dJ0_charAt_5068e_4 (by decide) (fun c => absurd c (by decide)) (fun _ => ?_)
  refine m_aload_n dJ0_charAt_5068e_7 rfl ?_
  refine m_sval hi dJ0_charAt_5068e_8 fw_val ?_
  refine m_iload_n dJ0_charAt_5068e_11 rfl ?_
  refine m_Si [_, _] dJ0_charAt_5068e_12 lw_l1 rfl rfl (Nat.le_of_ble_eq_true rfl) (by omega) (x_l1char (by omega) hi hk) ?_
  exact m_nret dJ0_charAt_5068e_15 rfl ho.2.1 h
end
