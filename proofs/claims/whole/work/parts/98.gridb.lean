/-! multianewarray: rows of rows made at once -/
theorem outerC_form (cA : ClassId) (N h : Nat) : ∀ i, ∃ S : Array Value, Jvm.Free.Multi.outerC cA N h i = { cls := cA, slots := S, vm := .none }
  | 0 => ⟨_, rfl⟩
  | i + 1 => by
    obtain ⟨S, e⟩ := outerC_form cA N h i
    refine ⟨(({ cls := cA, slots := S, vm := .none } : Cell).setSlot i (.ref (h + 1 + i))).slots, ?_⟩
    show (Jvm.Free.Multi.outerC cA N h i).setSlot i (.ref (h + 1 + i)) = _
    rw [e]
    rfl
theorem outerC_arr (cA : ClassId) (N h : Nat) : Jvm.Free.Multi.outerC cA N h N = arrV cA N (fun j => va_rf (some (h + 1 + j))) := by
  obtain ⟨o1, o2, o3⟩ := Jvm.Free.Multi.outerC_facts cA N h N
  have os := fun (j : Nat) (hj : j < N) => Jvm.Free.Multi.outerC_slot cA N h N j hj
  obtain ⟨S, e⟩ := outerC_form cA N h N
  rw [e] at o3 os ⊢
  have o4 : S.size = N := o3
  have os2 : ∀ j, j < N → S[j]? = some (if j < N then Value.ref (h + 1 + j) else .null) := os
  unfold arrV
  congr 1
  apply Array.ext_getElem?
  intro j
  by_cases hj : j < N
  · rw [os2 j hj, if_pos hj, Array.getElem?_ofFn, dif_pos hj]
    rfl
  · rw [Array.getElem?_eq_none (by omega), Array.getElem?_eq_none (by rw [Array.size_ofFn]; omega)]
theorem W_multi {p : Program} {l : Launch} {e : Env} {R : Room} {s : State} {m : MethodId} {args : Array Value} {below : List Frame} {meth : Method} {c : Code} {H : Heap} {locs : List Loc} {cells slots : Nat} {Q : State → Prop} {cc : ByteArray} (hexec : p.tables.exec = Jvm.exec) (hb : c.code = cc) {own : String} {index : Nat}
    (hown : s.vm.findClass own = some m.cls) (hclink : (Cond.classLink own index "[[I").before args s = true) (hover : (Cond.arrayOver (.array .int)).before args s = true) (harr : (Cond.arrayClass .int).before args s = true)
    {pc : Nat} {ls : Array Slot} {rest : List Value} (hdg : decode cc pc = .ok (.multianewarray index 2, 4)) (hcells : cells + 9 ≤ R.cells) (hslots : slots + 64 ≤ R.slots)
    (kk : ∀ (H' : Heap) (cA comp : ClassId), s.vm.findClass "[[I" = some cA → s.vm.findClass "[I" = some comp → H'.size = H.size + 9 → (∀ q, q < H.size → H'[q]? = H[q]?) → H'[H.size]? = some (arrV cA 8 (fun j => va_rf (some (H.size + 1 + j)))) → (∀ j, j < 8 → H'[H.size + 1 + j]? = some (arrV comp 7 (fun _ => .int 0))) →
      W p l e R s m args below meth c H' locs (cells + 9) (slots + 64) Q (F0 m (pc + 4) ls (.ref H.size :: rest))) : W p l e R s m args below meth c H locs cells slots Q (F0 m pc ls (.int 7 :: .int 8 :: rest)) := by
  intro T hT X
  obtain ⟨vm₁, cA, comp, hW, hfA, hfC, hO, hI, X1, st⟩ := X.multianewarray2F hexec (ty := .int) hown hclink hover harr (g := F0 m pc ls (.int 7 :: .int 8 :: rest)) rfl (by rw [hb]; exact hdg) (n := 8) (k := 7) (rest := rest) rfl (by decide) (by decide) (by decide) (by decide) (by decide) rfl rfl (by show cells + (1 + 8) ≤ _; omega) (by show slots + (8 + 8 * 7) ≤ _; omega)
  obtain ⟨f1, f2, f3, f4⟩ := Jvm.Free.Multi.fill_facts (T.setVm vm₁) cA comp 8 7 (defaultValue .int) 8
  have fo := fun (a : Addr) (ha : a < T.heap.size) => Jvm.Free.Multi.fill_old (T.setVm vm₁) cA comp 8 7 (defaultValue .int) (a := a) ha 8
  have fi := fun (j : Nat) (hj : j < 8) => Jvm.Free.Multi.fill_inner (T.setVm vm₁) cA comp 8 7 (defaultValue .int) 8 j hj
  have hz : (T.setVm vm₁).heap = H := hT
  have hz2 : (T.setVm vm₁).heap.size = H.size := by rw [hz]
  obtain ⟨t, a, b⟩ := kk (Jvm.Free.Multi.fill (T.setVm vm₁) cA comp 8 7 (defaultValue .int) 8).heap cA comp hfA hfC (by rw [f1, hz2]) (fun q hq => by rw [fo q (by rw [hT]; exact hq)]; show T.heap[q]? = _; rw [hT]) (by rw [← hz2, f2, outerC_arr]) (fun j hj => by rw [← hz2, fi j hj]; exact congrArg some (arrV_new comp 7 (.int 0))) (Jvm.Free.Multi.fill (T.setVm vm₁) cA comp 8 7 (defaultValue .int) 8) rfl X1
  refine ⟨t, st t ?_, b⟩
  rw [hT]
  exact a

section
variable {g : GH} {d : Nat} {μ : MT} {bc bs pc : Nat} {L : List (Option AV)} {st : List AV} {sh : SH} {R : RR} {I : II} {Q : QT}
/-- new int[8][7] -/
theorem m_grid {i : Nat} (o : Nat) (hd : decode μ.2.1 pc = .ok (.multianewarray i 2, 4)) (hw : Cond.classLink μ.1.cls i "[[I" ∈ lw_tbl) (fr : ∀ j, j ≤ 8 → (sh (o + j)).1 = 0) (h16 : 16 ≤ o ∧ o + 8 < 1000) (hb1 : 9 ≤ bc) (hb2 : 64 ≤ bs)
    (h : T g d μ (bc - 9) (bs - 64) (pc + 4) L (vr o :: st) (grS sh o) (grR R o) (grI I o) Q) : T g d μ bc bs pc L (vi 7 :: vi 8 :: st) sh R I Q := by
  intro p e s m args below meth c0 Rm Z ad0 sh0 mc ms O H locs cells slots ad ls N
  obtain ⟨n1, n2, n3, n4, n5, n6, n7, n8⟩ := N
  have hts := O.1.2.2.2.2.2.1
  have hSt := O.1.2.2.2.2.2.2
  have ok : ∀ w, w ∈ lw_tbl → goodWord w = true → w.before args s = true := fun w h1 h2 => hts w (List.mem_cons_of_mem _ (lwG_of h1 h2))
  have hx : Ext ad sh (grA ad o H.size) (grS sh o) := ext_grid fr
  have hst := (ok2 n4).2.2
  refine W_multi O.1.1 O.1.2.1 O.1.2.2.2.2.1 (ok _ hw rfl) (hSt.2.2.2.2.2.2.2.2.2.2.1.use) (ok _ aw_int rfl) hd (by have := O.2.1.2.2.1; omega) (by have := O.2.1.2.2.2; omega) (fun H1 cA comp hA hC hsz hold hout hinn => ?_)
  have eA : cA = gC g 7 := Option.some.inj (hA.symm.trans (hSt.1.2 7 _ rfl).2)
  have eC : comp = gC g 0 := Option.some.inj (hC.symm.trans (hSt.1.2 0 _ rfl).2)
  subst eA; subst eC
  have hB : gB g ≤ H.size := Nat.le_trans hSt.2.1 n8.1
  have rep := n3.grid fr h16 hB hold hout hinn (fun f f' hff => by
    show arrV (gC g 7) 8 (fun j => va_rf (f j)) = arrV (gC g 7) 8 (fun j => va_rf (f' j))
    unfold arrV
    congr 1
    apply Array.ext_getElem?
    intro j
    by_cases hj : j < 8
    · rw [Array.getElem?_ofFn, Array.getElem?_ofFn, dif_pos hj, dif_pos hj]; exact congrArg (fun x => some (va_rf x)) (hff j hj)
    · rw [Array.getElem?_eq_none (by rw [Array.size_ofFn]; omega), Array.getElem?_eq_none (by rw [Array.size_ofFn]; omega)])
  have hS : va_S (gA g) s.heap H1 locs := ⟨Nat.le_trans n8.1 (by omega), fun q h1 h2 => (hold q (Nat.lt_of_lt_of_le h1 n8.1)).trans (n8.2.1 q h1 h2), n8.2.2⟩
  have K := h p e s m args below meth c0 Rm Z ad0 sh0 mc ms O H1 locs (cells + 9) (slots + 64) (grA ad o H.size) ls ⟨by omega, by omega, rep, okc (show (grS sh o o).1 ≠ 0 by unfold grS; rw [if_pos (by omega), if_pos rfl]; decide) (fun v hv => (cv_ext hx (hst v hv)).2), fun v hv => (cv_ext hx (n5 v hv)).2, n6.ext hx n5, n7.tr hx, hS⟩
  have em : (vr o :: st).map (cv (grA ad o H.size)) = .ref H.size :: st.map (cv ad) := by
    rw [List.map_cons, map_ext hx hst]
    show Value.ref (grA ad o H.size o) :: _ = _
    rw [show grA ad o H.size o = H.size + (o - o) from if_pos (by omega), Nat.sub_self, Nat.add_zero]
  rw [em] at K
  exact K
end
