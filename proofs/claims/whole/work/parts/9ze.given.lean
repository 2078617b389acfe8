/-! THE START: what the Statement gives of the state: classes, array classes, RANKS and SIGNS, the literals -/
section
variable {s : State} {AA : Array Value}
theorem cl_ia : ∀ c, c < 13 → Cond.instantiable (clR c) (clN c) ∈ lw_tbl := by
  intro c hc
  match c, hc with
  | 0, _ => exact ia_X0 | 1, _ => exact ia_X1 | 2, _ => exact ia_X2 | 3, _ => exact ia_X3 | 4, _ => exact ia_X4 | 5, _ => exact ia_X5 | 6, _ => exact ia_X6 | 7, _ => exact ia_X7 | 8, _ => exact ia_X8 | 9, _ => exact ia_X9 | 10, _ => exact ia_X10 | 11, _ => exact ia_X11 | 12, _ => exact ia_X12
  | n + 13, h => exact absurd h (by omega)
theorem gv_cls (hts : ∀ w ∈ lw_tbl, w.before AA s = true) : ∃ D : va_G, ∀ (c : Nat) (q : vw_C), vwCl[c]? = some q → u_Kn s q.1 q.2.1 q.2.2 (D.1 c) (D.2 c) := by
  have h : ∀ c : Nat, ∃ q : ClassId × (Nat → Nat), c < 13 → u_Kn s (clR c) (clF c) (clN c) q.1 q.2 := fun c => by
    by_cases hc : c < 13
    · obtain ⟨cC, iS, k⟩ := u_known (n := clN c) (fun w (hw : w ∈ lwG) => hts w (List.mem_filter.mp hw).1) (cl_in c hc) (hts _ (cl_ia c hc))
      exact ⟨(cC, iS), fun _ => k⟩
    · exact ⟨(0, fun _ => 0), fun z => absurd z hc⟩
  obtain ⟨f, hf⟩ := Classical.axiomOfChoice h
  refine ⟨(fun c => (f c).1, fun c => (f c).2), fun c q hq => ?_⟩
  have hc : c < 13 := (List.getElem?_eq_some_iff.mp hq).1
  rw [cl_at c hc] at hq
  cases hq
  exact hf c hc
theorem gv_arr {ty : FieldType} (h : (Cond.arrayClass ty).before AA s = true) : ∃ c : ClassId, ArrOfT s c ty ∧ s.vm.findClass ("[" ++ ty.toString) = some c := by
  obtain ⟨c, k, comp, h1, h2, h3⟩ := Cond.arrayClass_spec h
  exact ⟨c, fun n z => ⟨fun k h => (by cases h), k, h2, comp, h3⟩, h1⟩
theorem gv_over {C : String} (h : va_AO C s) : ∃ c : ClassId, ArrOfT s c (.object C) ∧ va_RA s c (.object C) := by
  obtain ⟨comp, c, k, h1, h2, h3, h4, h5⟩ := Cond.arrayOver_spec h
  exact ⟨c, fun n z => ⟨fun k h => (by cases h), k, h3, comp, h4⟩, k, comp, h3, h4, h1, h5⟩
theorem gv_tys (hts : ∀ w ∈ lw_tbl, w.before AA s = true) (h3 : va_AO RX3 s) (h5 : va_AO RX5 s) (hi : aoI s) : ∃ cs : Nat → ClassId, ∀ (k : Nat) (q : ClassId × FieldType), (tysG cs)[k]? = some q → ArrOfT s q.1 q.2 ∧ va_RA s q.1 q.2 := by
  obtain ⟨c0, a0, b0⟩ := gv_arr (hts _ aw_int)
  obtain ⟨c1, a1, b1⟩ := gv_arr (hts _ aw_boolean)
  obtain ⟨c2, a2, b2⟩ := gv_arr (hts _ aw_byte)
  obtain ⟨c3, a3, b3⟩ := gv_arr (hts _ aw_char)
  obtain ⟨c4, a4, b4⟩ := gv_arr (hts _ aw_long)
  obtain ⟨c5, a5, b5⟩ := gv_over h3
  obtain ⟨c6, a6, b6⟩ := gv_over h5
  obtain ⟨comp, c7, k, f1, f2, f3, f4, f5⟩ := hi
  refine ⟨fun j => if j = 0 then c0 else if j = 1 then c1 else if j = 2 then c2 else if j = 3 then c3 else if j = 4 then c4 else if j = 5 then c5 else if j = 6 then c6 else c7, fun j q hq => ?_⟩
  match j, hq with
  | 0, hq => cases hq; exact ⟨a0, b0⟩
  | 1, hq => cases hq; exact ⟨a1, b1⟩
  | 2, hq => cases hq; exact ⟨a2, b2⟩
  | 3, hq => cases hq; exact ⟨a3, b3⟩
  | 4, hq => cases hq; exact ⟨a4, b4⟩
  | 5, hq => cases hq; exact ⟨a5, b5⟩
  | 6, hq => cases hq; exact ⟨a6, b6⟩
  | 7, hq => cases hq; exact ⟨fun n z => ⟨fun k h => (by cases h), k, f3, comp, f4⟩, f5⟩
  | j + 8, hq => simp [tysG] at hq
/-- a static row of ints, as long as it is -/
theorem gv_row {t N : Nat} {f : Nat → Value} {A : Nat → Prop} (hF : heapFits s = true) (hT : va_T .int t N f A s s.heap) : ∃ (n : Nat) (xs : Nat → Int), N ≤ n ∧ va_X t n (fun j => Int32.ofInt (xs j)) s s.heap ∧ (∀ j, R32 (xs j)) ∧ t < s.heap.size ∧ ∀ j : Nat, j < N → f j = .int (Int32.ofInt (xs j)) := by
  obtain ⟨cell, h1, h2, h3, h4, h5, h6, h7⟩ := hT
  have hlt : t < s.heap.size := (Array.getElem?_eq_some_iff.mp h1).1
  have hall : ∀ j : Nat, j < cell.slots.size → ∃ x : Int32, cell.slots[j]? = some (.int x) := fun j hj => by
    have hm : cell ∈ s.heap := Array.mem_of_getElem? h1
    have hc := (Array.all_eq_true_iff_forall_mem.mp hF) cell hm
    have hr := (List.all_eq_true.mp hc) j (List.mem_range.mpr hj)
    have e : cell.slots[j]? = some cell.slots[j] := Array.getElem?_eq_getElem hj
    rw [e] at hr
    obtain ⟨hns, k, hk, comp, hkind⟩ := h2
    have hty : s.slotType? cell.cls cell.vm j = some .int := by
      unfold State.slotType?
      rw [hk]
      cases hv : cell.vm with
      | statics q => exact absurd hv (hns q)
      | _ => simp [hkind]
    simp only [State.fitsSlot, hty] at hr
    cases hv : cell.slots[j] with
    | int x => exact ⟨x, by rw [e, hv]⟩
    | _ => rw [hv] at hr; simp [fits] at hr
  have hch : ∀ j : Nat, ∃ x : Int32, j < cell.slots.size → cell.slots[j]? = some (.int x) := fun j => by
    by_cases hj : j < cell.slots.size
    · obtain ⟨x, hx⟩ := hall j hj
      exact ⟨x, fun _ => hx⟩
    · exact ⟨0, fun z => absurd z hj⟩
  obtain ⟨g, hg⟩ := Classical.axiomOfChoice hch
  refine ⟨cell.slots.size, fun j => (g j).toInt, h4, ⟨cell, h1, h2, h3, rfl, fun j hj => ?_⟩, fun j => r32_of (g j), hlt, fun j hj => ?_⟩
  · rw [hg j hj]
    show _ = some (Value.int (Int32.ofInt (g j).toInt))
    rw [Int32.ofInt_toInt]
  · have a := h6 j hj
    rw [hg j (by omega)] at a
    show f j = Value.int (Int32.ofInt (g j).toInt)
    rw [Int32.ofInt_toInt]
    exact (Option.some.inj a).symm
end
