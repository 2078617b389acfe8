/-! THE START: the given cells -/
section
variable {s : State} {AA : Array Value}
theorem lay_r : Cond.laysStatic RX11 "RANKS" "[I" ∈ lw_tbl := mem_t1 120 (by decide +kernel)
theorem lay_s : Cond.laysStatic RX11 "SIGNS" "[I" ∈ lw_tbl := mem_t4 222 (by decide +kernel)
theorem lay_c : Cond.laysStatic "java/lang/String" "COMPACT_STRINGS" "Z" ∈ lw_tbl := mem_t4 82 (by decide +kernel)
theorem lay_f : Cond.laysStatic "jdk/internal/util/Preconditions" "SIOOBE_FORMATTER" "Ljava/util/function/BiFunction;" ∈ lw_tbl := mem_t4 98 (by decide +kernel)
theorem ao_5 : Cond.arrayOver (.object RX5) ∈ lw_tbl := mem_t1 164 (by decide +kernel)
theorem ao_3 : Cond.arrayOver (.object RX3) ∈ lw_tbl := mem_t1 191 (by decide +kernel)
theorem ao_i : Cond.arrayOver (.array .int) ∈ lw_tbl := mem_t2 40 (by decide +kernel)
theorem sr_l : ∀ i, i < 12 → Cond.stringRef RX10 (litK.getD i 0) (litT.getD i "") ∈ lw_tbl := by
  intro i hi
  match i, hi with
  | 0, _ => exact mem_t4 68 (by decide +kernel)
  | 1, _ => exact mem_t4 129 (by decide +kernel)
  | 2, _ => exact mem_t4 130 (by decide +kernel)
  | 3, _ => exact mem_t4 131 (by decide +kernel)
  | 4, _ => exact mem_t4 132 (by decide +kernel)
  | 5, _ => exact mem_t4 133 (by decide +kernel)
  | 6, _ => exact mem_t4 138 (by decide +kernel)
  | 7, _ => exact mem_t4 143 (by decide +kernel)
  | 8, _ => exact mem_t4 148 (by decide +kernel)
  | 9, _ => exact mem_t4 149 (by decide +kernel)
  | 10, _ => exact mem_t4 154 (by decide +kernel)
  | 11, _ => exact mem_t4 159 (by decide +kernel)
  | n + 12, h => exact absurd h (by omega)
abbrev tmL (i : Nat) : Term := .string RX10 (litK.getD i 0)
abbrev tmV (i : Nat) : Term := .field (.string RX10 (litK.getD i 0)) "java/lang/String" "value" "[B"
abbrev gnF : List Cond := flatC (Jvm.Cond.and given_1 narrow_1)
theorem gn_ex : ∀ i : Fin 12, Cond.exactly (tmL i.val) "java/lang/String" ∈ gnF := by decide +kernel
theorem gn_co : ∀ i : Fin 12, Cond.eq (.field (tmL i.val) "java/lang/String" "coder" "B") (.int 0) ∈ gnF := by decide +kernel
theorem gn_ar : ∀ i : Fin 12, Cond.arrayOf (tmV i.val) .byte ∈ gnF := by decide +kernel
theorem gn_le : ∀ i : Fin 12, Cond.eq (.length (tmV i.val)) (.int (Int32.ofNat (litL.getD i.val 0))) ∈ gnF := by decide +kernel
theorem gn_el : ∀ i : Fin 12, ∀ j : Fin 6, j.val < litL.getD i.val 0 → Cond.eq (.elem (tmV i.val) (.int (Int32.ofNat j.val))) (.int ((litB.getD i.val []).getD j.val 0)) ∈ gnF := by decide +kernel
theorem gn_ne : ∀ i j : Fin 12, i ≠ j → Cond.not (Cond.eq (tmL i.val) (tmL j.val)) ∈ gnF ∨ Cond.not (Cond.eq (tmL j.val) (tmL i.val)) ∈ gnF := by decide +kernel
theorem gn_l6 : ∀ i : Fin 12, litL.getD i.val 0 ≤ 6 := by decide +kernel
theorem gn_r : ∀ j : Fin 5, Cond.eq (.elem (.static RX11 "RANKS" "[I") (.int (Int32.ofNat j.val))) (.int (Int32.ofInt (rnkL.getD j.val 0))) ∈ gnF := by decide +kernel
theorem gn_s : ∀ j : Fin 26, Cond.eq (.elem (.static RX11 "SIGNS" "[I") (.int (Int32.ofNat j.val))) (.int (Int32.ofInt (sgnT j.val))) ∈ gnF := by decide +kernel
theorem gn_ra : Cond.arrayOf (.static RX11 "RANKS" "[I") .int ∈ gnF ∧ Cond.eq (.length (.static RX11 "RANKS" "[I")) (.int (Int32.ofNat 5)) ∈ gnF := ⟨by decide +kernel, by decide +kernel⟩
theorem gn_sa : Cond.arrayOf (.static RX11 "SIGNS" "[I") .int ∈ gnF ∧ Cond.eq (.length (.static RX11 "SIGNS" "[I")) (.int (Int32.ofNat 26)) ∈ gnF := ⟨by decide +kernel, by decide +kernel⟩
theorem gn_cs : Cond.eq (.static "java/lang/String" "COMPACT_STRINGS" "Z") (.int 1) ∈ gnF := by decide +kernel
theorem gn_fm : Cond.isRef (.static "jdk/internal/util/Preconditions" "SIOOBE_FORMATTER" "Ljava/util/function/BiFunction;") ∈ gnF := by decide +kernel
theorem rk_32 : ∀ j : Fin 5, R32 (rnkL.getD j.val 0) := by decide +kernel
theorem sg_32 : ∀ j : Fin 26, R32 (sgnT j.val) := by decide +kernel
theorem gv_start (l : Launch) {b L : Nat} {xs : Nat → Int32} (hts : ∀ w ∈ lw_tbl, w.before AA s = true) (hX : va_X b L xs s s.heap) (hb : b < s.heap.size) (hgv : (Jvm.Cond.and given_1 narrow_1).before AA s = true) (hF : heapFits s = true) : ∃ g : GH, gL g = l ∧ gB g = s.heap.size ∧ gO g 1 = b ∧ (gX g 1).1 = L ∧ St g s ∧ GvI g := by
  have hs : ∀ c ∈ gnF, c.before AA s = true := flat_of_before _ hgv
  have hA : ∀ a : Nat, a < s.heap.size → ¬ (fun q : Nat => s.heap.size ≤ q) a := fun a h => Nat.not_le.mpr h
  obtain ⟨D, hD⟩ := gv_cls hts
  have h3 : va_AO RX3 s := va_AO.of (hts _ ao_3)
  have h5 : va_AO RX5 s := va_AO.of (hts _ ao_5)
  have hi : aoI s := aoI.of (hts _ ao_i)
  obtain ⟨cs, hcs⟩ := gv_tys hts h3 h5 hi
  obtain ⟨t2, e2, hT2⟩ := va_Tof (A := fun q : Nat => s.heap.size ≤ q) (tm := .static RX11 "RANKS" "[I") (ty := .int) (N := 5) (f := fun j => .int (Int32.ofInt (rnkL.getD j 0))) (by decide) (hs _ gn_ra.1) (va_eqt (hs _ gn_ra.2)) (fun j hj => va_eqt (hs _ (gn_r ⟨j, hj⟩))) hA
  obtain ⟨t3, e3, hT3⟩ := va_Tof (A := fun q : Nat => s.heap.size ≤ q) (tm := .static RX11 "SIGNS" "[I") (ty := .int) (N := 26) (f := fun j => .int (Int32.ofInt (sgnT j))) (by decide) (hs _ gn_sa.1) (va_eqt (hs _ gn_sa.2)) (fun j hj => va_eqt (hs _ (gn_s ⟨j, hj⟩))) hA
  obtain ⟨n2, x2, c2, X2, r2, l2, f2⟩ := gv_row hF hT2
  obtain ⟨n3, x3, c3, X3, r3, l3, f3⟩ := gv_row hF hT3
  obtain ⟨adK, adV, hK, hE⟩ := vk_Sof (args := AA) (s := s) (N := 12) (tm := tmL) (len := litL) (byt := litB) (A := fun q : Nat => s.heap.size ≤ q) (fun i hi => Nat.lt_of_le_of_lt (gn_l6 ⟨i, hi⟩) (by decide)) (fun i hi => hs _ (gn_ex ⟨i, hi⟩)) (fun i hi => hs _ (gn_co ⟨i, hi⟩)) (fun i hi => hs _ (gn_ar ⟨i, hi⟩)) (fun i hi => hs _ (gn_le ⟨i, hi⟩)) (fun i hi j hj => hs _ (gn_el ⟨i, hi⟩ ⟨j, Nat.lt_of_lt_of_le hj (gn_l6 ⟨i, hi⟩)⟩ hj)) (fun i j hi hj hne => (gn_ne ⟨i, hi⟩ ⟨j, hj⟩ (fun e => hne (Fin.mk.inj e))).imp (hs _) (hs _)) hA
  have hz2 := va_Zref (hts _ lay_r) (hts _ iw_X11) e2 hA
  have hz3 := va_Zref (hts _ lay_s) (hts _ iw_X11) e3 hA
  have hzc := va_Zof (hts _ lay_c) (hts _ iw_J0) (va_eqi (hs _ gn_cs)) hA
  obtain ⟨nf, tf, hzf⟩ : ∃ nf tf : Nat, va_Z "jdk/internal/util/Preconditions" "SIOOBE_FORMATTER" "Ljava/util/function/BiFunction;" (if nf = 0 then .null else .ref tf) (fun q : Nat => s.heap.size ≤ q) s s.heap := by
    rcases va_Zqof (hts _ lay_f) (hts _ iw_J3) (hs _ gn_fm) hA with h | ⟨t, h⟩
    · exact ⟨0, 0, h⟩
    · exact ⟨1, t, h⟩
  have ex : (fun j => Int32.ofInt ((fun j => (xs j).toInt) j)) = xs := funext fun j => r32_eq rfl
  obtain ⟨gOO, o1, o2, o3, o4, o5, o6⟩ : ∃ f : Nat → Nat, f 1 = b ∧ f 2 = t2 ∧ f 3 = t3 ∧ (∀ i, i < 12 → f (4 + i) = adK i) ∧ (∀ i, i < 12 → f (1000 + i) = adV i) ∧ f 1012 = tf := by
    refine ⟨fun k => if k = 1 then b else if k = 2 then t2 else if k = 3 then t3 else if k < 16 then adK (k - 4) else if k < 1012 then adV (k - 1000) else tf, rfl, rfl, rfl, fun i hi => ?_, fun i hi => ?_, rfl⟩
    · show (if 4 + i = 1 then b else if 4 + i = 2 then t2 else if 4 + i = 3 then t3 else if 4 + i < 16 then adK (4 + i - 4) else if 4 + i < 1012 then adV (4 + i - 1000) else tf) = adK i
      rw [if_neg (by omega), if_neg (by omega), if_neg (by omega), if_pos (by omega), show 4 + i - 4 = i by omega]
    · show (if 1000 + i = 1 then b else if 1000 + i = 2 then t2 else if 1000 + i = 3 then t3 else if 1000 + i < 16 then adK (1000 + i - 4) else if 1000 + i < 1012 then adV (1000 + i - 1000) else tf) = adV i
      rw [if_neg (by omega), if_neg (by omega), if_neg (by omega), if_neg (by omega), if_pos (by omega), show 1000 + i - 1000 = i by omega]
  obtain ⟨gXX, y0, y1, y2, y3⟩ : ∃ f : Nat → Nat × (Nat → Int), (f 0).1 = nf ∧ f 1 = (L, fun j => (xs j).toInt) ∧ f 2 = (n2, x2) ∧ f 3 = (n3, x3) :=
    ⟨fun k => if k = 0 then (nf, fun _ => 0) else if k = 1 then (L, fun j => (xs j).toInt) else if k = 2 then (n2, x2) else (n3, x3), rfl, rfl, rfl, rfl⟩
  refine ⟨(l, s.heap.size, D, cs, gOO, gXX, fun _ => 0), rfl, rfl, o1, ?_, ⟨⟨hD, hcs⟩, Nat.le_refl _, fun w hw => ?_, fun k k1 k4 => ?_, ?_, ?_, ⟨fun i hi => ?_, fun i j hi hj e => ?_⟩, fun i hi => ?_, h3, h5, hi, hzc, ?_⟩, ?_⟩
  · show (gXX 1).1 = L
    rw [y1]
  · have hn := (List.mem_filter.mp hw).2
    have hm := hts _ (List.mem_filter.mp hw).1
    cases w <;> first | (simp [isNest] at hn; done) | exact va_Nw.of rfl hm
  · rcases (show k = 1 ∨ k = 2 ∨ k = 3 by omega) with e | e | e
    · subst e
      show va_X (gOO 1) (gXX 1).1 (fun j => Int32.ofInt ((gXX 1).2 j)) s s.heap ∧ gOO 1 < s.heap.size ∧ ∀ j, R32 ((gXX 1).2 j)
      rw [o1, y1]
      exact ⟨by rw [ex]; exact hX, hb, fun j => r32_of _⟩
    · subst e
      show va_X (gOO 2) (gXX 2).1 (fun j => Int32.ofInt ((gXX 2).2 j)) s s.heap ∧ gOO 2 < s.heap.size ∧ ∀ j, R32 ((gXX 2).2 j)
      rw [o2, y2]
      exact ⟨X2, l2, r2⟩
    · subst e
      show va_X (gOO 3) (gXX 3).1 (fun j => Int32.ofInt ((gXX 3).2 j)) s s.heap ∧ gOO 3 < s.heap.size ∧ ∀ j, R32 ((gXX 3).2 j)
      rw [o3, y3]
      exact ⟨X3, l3, r3⟩
  · show va_Z RX11 "RANKS" "[I" (.ref (gOO 2)) (fun q : Nat => s.heap.size ≤ q) s s.heap
    rw [o2]; exact hz2
  · show va_Z RX11 "SIGNS" "[I" (.ref (gOO 3)) (fun q : Nat => s.heap.size ≤ q) s s.heap
    rw [o3]; exact hz3
  · show va_O "java/lang/String" (gOO (4 + i)) (fun q : Nat => s.heap.size ≤ q) s s.heap ∧ va_OF "java/lang/String" "coder" "B" (.int 0) (gOO (4 + i)) (fun q : Nat => s.heap.size ≤ q) s s.heap ∧ va_OF "java/lang/String" "value" "[B" (.ref (gOO (1000 + i))) (gOO (4 + i)) (fun q : Nat => s.heap.size ≤ q) s s.heap ∧ va_T .byte (gOO (1000 + i)) (litL.getD i 0) (fun j => .int ((litB.getD i []).getD j 0)) (fun q : Nat => s.heap.size ≤ q) s s.heap
    rw [o4 i hi, o5 i hi]
    exact hK.1 i hi
  · have e' : gOO (4 + i) = gOO (4 + j) := e
    rw [o4 i hi, o4 j hj] at e'
    exact hK.2 i j hi hj e'
  · show vk_R RX10 (litK.getD i 0) (litT.getD i "") (gOO (4 + i)) s
    rw [o4 i hi]
    exact vk_R.of (hts _ (sr_l i hi)) (hE i hi)
  · show va_Z "jdk/internal/util/Preconditions" "SIOOBE_FORMATTER" "Ljava/util/function/BiFunction;" (if (gXX 0).1 = 0 then .null else .ref (gOO 1012)) (fun q : Nat => s.heap.size ≤ q) s s.heap
    rw [y0, o6]; exact hzf
  · show 5 ≤ (gXX 2).1 ∧ (∀ j : Nat, j < 5 → (gXX 2).2 j = rnkL.getD j 0) ∧ 26 ≤ (gXX 3).1 ∧ ∀ j : Nat, j < 26 → (gXX 3).2 j = sgnT j
    rw [y2, y3]
    refine ⟨c2, fun j hj => ?_, c3, fun j hj => ?_⟩
    · have z := f2 j hj
      have z2 : Int32.ofInt (rnkL.getD j 0) = Int32.ofInt (x2 j) := Value.int.inj z
      exact ((r32_inj (rk_32 ⟨j, hj⟩) (r2 j)).mp z2).symm
    · have z := f3 j hj
      have z2 : Int32.ofInt (sgnT j) = Int32.ofInt (x3 j) := Value.int.inj z
      exact ((r32_inj (sg_32 ⟨j, hj⟩) (r3 j)).mp z2).symm
end
