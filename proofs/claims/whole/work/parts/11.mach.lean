/-! THE ABSTRACT MACHINE, 2: what a frame stands on; T: from here the method comes to its end with Q -/
abbrev MT : Type := MethodName × ByteArray × Nat × Option FieldType
abbrev QT : Type := Option AV → SH → RR → II → Prop
def lwG : List Cond := lw_tbl.filter goodWord
def isNest : Cond → Bool
  | .methodLinkNest _ _ _ _ => true
  | .fieldLinkNest _ _ _ _ _ _ => true
  | _ => false
def nestW : List Cond := lw_tbl.filter isNest
abbrev WT (μ : MT) : List Cond := .code μ.1 μ.2.1 μ.2.2.1 μ.2.2.2 :: lwG
theorem lwG_of {w : Cond} (h : w ∈ lw_tbl) (hg : goodWord w = true) : w ∈ lwG := List.mem_filter.mpr ⟨h, hg⟩
theorem nest_of {w : Cond} (h : w ∈ lw_tbl) (hg : isNest w = true) : w ∈ nestW := List.mem_filter.mpr ⟨h, hg⟩
theorem WT_good {μ ν : MT} (h : Cond.code ν.1 ν.2.1 ν.2.2.1 ν.2.2.2 ∈ lw_tbl) : GoodIn (WT μ) (WT ν) := by
  intro w hw
  rcases List.mem_cons.mp hw with e | hw
  · subst e
    exact ⟨List.mem_cons_of_mem _ (lwG_of h rfl), Or.inl rfl⟩
  · exact ⟨List.mem_cons_of_mem _ hw, good_of_word (List.mem_filter.mp hw).2⟩
theorem nest_warm {w : Cond} (hw : w ∈ nestW) {s U : State} (hW : s.WarmedH U.vm) (h : va_Nw w s) : va_Nw w U := by
  have hn := (List.mem_filter.mp hw).2
  cases w <;> first | (simp [isNest] at hn; done) | exact va_Nw.warmM hW h | exact va_Nw.warmF hW h
theorem nest_same {w : Cond} (hw : w ∈ nestW) {s U : State} (hv : s.vm = U.vm) (h : va_Nw w s) : va_Nw w U := by
  have hn := (List.mem_filter.mp hw).2
  cases w <;> first | (simp [isNest] at hn; done) | exact va_Nw.same rfl hv h
/-- the literals of Text: place in the pool, text, bytes -/
def litK : List Nat := [41, 111, 113, 115, 117, 119, 50, 55, 96, 60, 65, 70]
def litT : List String := ["rank", "plain", "urgent", "press", "state", "money", "pay", "night", "to", "repeat", "least", "back"]
def litB : List (List Int32) := [[114, 97, 110, 107], [112, 108, 97, 105, 110], [117, 114, 103, 101, 110, 116], [112, 114, 101, 115, 115], [115, 116, 97, 116, 101], [109, 111, 110, 101, 121], [112, 97, 121], [110, 105, 103, 104, 116], [116, 111], [114, 101, 112, 101, 97, 116], [108, 101, 97, 115, 116], [98, 97, 99, 107]]
def litL : List Nat := [4, 5, 6, 5, 5, 5, 3, 5, 2, 6, 5, 4]
def aoI (U : State) : Prop := ∃ (comp c : ClassId) (k : Class), U.vm.findClass (FieldType.array .int).toString = some comp ∧ (U.vm.classes.findIdx? fun (x : Class) => match x.kind with | .array component _ => component == comp | _ => false) = some c ∧ U.vm.classes[c]? = some k ∧ k.kind = .array comp (.array .int) ∧ U.vm.findClass ("[" ++ (FieldType.array .int).toString) = some c
theorem aoI.of {A : Array Value} {s : State} (h : (Cond.arrayOver (.array .int)).before A s = true) : aoI s := by
  simp only [Cond.before, Cond.holds, Cond.value, beq_iff_eq] at h
  cases hc : s.vm.findClass (FieldType.array .int).toString with
  | none => simp [hc] at h
  | some comp =>
    simp only [hc, Option.bind_some, Option.bind_eq_some_iff, Option.map_eq_some_iff] at h
    obtain ⟨c, hi, k, hk, hb⟩ := h
    obtain ⟨hlt, hp, -⟩ := Array.findIdx?_eq_some_iff_getElem.mp hi
    have hkk : s.vm.classes[c] = k := (Array.getElem?_eq_some_iff.mp hk).2
    rw [hkk] at hp
    cases hkind : k.kind with
    | array component ty =>
      rw [hkind] at hb hp
      simp at hb hp
      exact ⟨comp, c, k, hc, hi, hk, by rw [hkind, hp, hb.1], hb.2⟩
    | _ => rw [hkind] at hb; simp at hb
theorem aoI.moved {u U : State} (hvm : u.vm.Alike U.vm) (h : aoI u) : aoI U := by
  obtain ⟨comp, c, k, h1, h2, h3, h4, h5⟩ := h
  obtain ⟨k', hk', he⟩ := hvm.2.2 _ _ h3
  refine ⟨comp, c, k', by rw [hvm.findClass]; exact h1, ?_, hk', by rw [he]; exact h4, by rw [hvm.findClass]; exact h5⟩
  have a := va_idx_bare U.vm comp
  have b := va_idx_bare u.vm comp
  have e : U.vm.bare = u.vm.bare := by first | exact hvm.bare_eq | exact hvm.bare_eq.symm
  rw [e] at a
  exact a.symm.trans (b.trans h2)
theorem aoI.use {A : Array Value} {U : State} (h : aoI U) : (Cond.arrayOver (.array .int)).before A U = true := by
  obtain ⟨comp, c, k, f1, hi, hk', hkind, f2⟩ := h
  unfold Cond.before Cond.holds
  simp only [Cond.value]
  rw [f1, Option.bind_some]
  refine (congrArg (fun o : Option Nat => (o.bind (fun c => (U.vm.classes[c]?).map fun (k : Class) => match k.kind with | .array _ ty => decide (ty = FieldType.array .int) && decide (U.vm.findClass ("[" ++ (FieldType.array .int).toString) = some c) | _ => false) == some true)) hi).trans ?_
  simp [hk', hkind, f2]
/-- the formatter: null, or given cell 1012 -/
def fmV (g : GH) : Value := if (gX g 0).1 = 0 then .null else .ref (gO g 1012)
/-- what holds of every state that a method begins in: the tables, the given cells -/
def St (g : GH) (U : State) : Prop :=
  va_K (gD g) vwCl (tysG (gC g)) U ∧ gB g ≤ U.heap.size ∧ (∀ w ∈ nestW, va_Nw w U) ∧
  (∀ k, 1 ≤ k → k < 4 → va_X (gO g k) (gX g k).1 (fun j => Int32.ofInt ((gX g k).2 j)) U U.heap ∧ gO g k < gB g ∧ ∀ j, R32 ((gX g k).2 j)) ∧
  va_Z RX11 "RANKS" "[I" (.ref (gO g 2)) (gA g) U U.heap ∧ va_Z RX11 "SIGNS" "[I" (.ref (gO g 3)) (gA g) U U.heap ∧
  vk_S 12 litL litB (fun i => gO g (4 + i)) (fun i => gO g (1000 + i)) (gA g) U U.heap ∧ (∀ i, i < 12 → vk_R RX10 (litK.getD i 0) (litT.getD i "") (gO g (4 + i)) U) ∧ va_AO RX3 U ∧ va_AO RX5 U ∧ aoI U ∧ va_Z "java/lang/String" "COMPACT_STRINGS" "Z" (.int 1) (gA g) U U.heap ∧ va_Z "jdk/internal/util/Preconditions" "SIOOBE_FORMATTER" "Ljava/util/function/BiFunction;" (fmV g) (gA g) U U.heap
theorem St.same {g : GH} {u U : State} (h : St g u) (hh : U.heap = u.heap) (hv : U.vm = u.vm) : St g U := by
  obtain ⟨h1, h2, h3, h4, h5, h6, h7, h8, h9, h10, h11, h12, h13⟩ := h
  have ha : u.vm.Alike U.vm := by rw [hv]; exact Vm.Alike.refl _
  refine ⟨va_K.moved ha h1, by rw [hh]; exact h2, fun w hw => nest_same hw hv.symm (h3 w hw), fun k a b => ?_, ?_, ?_, ?_, fun i hi => vk_R.same hv (h8 i hi), va_AO.moved ha h9, va_AO.moved ha h10, aoI.moved ha h11, ?_, ?_⟩
  · obtain ⟨q1, q2, q3⟩ := h4 k a b
    exact ⟨by rw [hh]; exact va_X.moved ha q1, q2, q3⟩
  · rw [hh]; exact va_Z.moved ha h5
  · rw [hh]; exact va_Z.moved ha h6
  · rw [hh]; exact vk_S.moved ha h7
  · rw [hh]; exact va_Z.moved ha h12
  · rw [hh]; exact va_Z.moved ha h13
theorem St.warm {g : GH} {s U : State} {H : Heap} {locs : List Loc} (h : St g s) (hS : va_S (gA g) s.heap H locs) (hW : s.WarmedH U.vm) (hU : U.heap = H) : St g U := by
  obtain ⟨h1, h2, h3, h4, h5, h6, h7, h8, h9, h10, h11, h12, h13⟩ := h
  have ha : s.vm.Alike U.vm := hW.alike
  have hq : ∀ a : Nat, a < s.heap.size → ¬ gA g a → H[a]? = s.heap[a]? := fun a ha hn => hS.2.1 a ha hn
  refine ⟨va_K.moved ha h1, by rw [hU]; exact Nat.le_trans h2 hS.1, fun w hw => nest_warm hw hW (h3 w hw), fun k a b => ?_, ?_, ?_, ?_, fun i hi => vk_R.warm hW (h8 i hi), va_AO.moved ha h9, va_AO.moved ha h10, aoI.moved ha h11, ?_, ?_⟩
  · obtain ⟨q1, q2, q3⟩ := h4 k a b
    exact ⟨by rw [hU]; exact va_X.moved ha (va_X.kept q1 (hq _ (Nat.lt_of_lt_of_le q2 h2) (Nat.not_le.mpr q2))), q2, q3⟩
  · rw [hU]; exact va_Z.moved ha (va_Z.kept h5 hq)
  · rw [hU]; exact va_Z.moved ha (va_Z.kept h6 hq)
  · rw [hU]; exact vk_S.moved ha (vk_S.kept h7 hq)
  · rw [hU]; exact va_Z.moved ha (va_Z.kept h12 hq)
  · rw [hU]; exact va_Z.moved ha (va_Z.kept h13 hq)
def Ext (ad0 : Nat → Nat) (sh0 : SH) (ad : Nat → Nat) (sh : SH) : Prop := ∀ k, (sh0 k).1 ≠ 0 → ad k = ad0 k ∧ (sh k).1 ≠ 0
theorem Ext.rf (ad : Nat → Nat) (sh : SH) : Ext ad sh ad sh := fun _ h => ⟨rfl, h⟩
theorem Ext.tr {a b c : Nat → Nat} {x y z : SH} (h : Ext a x b y) (h2 : Ext b y c z) : Ext a x c z := fun k hk => ⟨(h2 k (h k hk).2).1.trans (h k hk).1, (h2 k (h k hk).2).2⟩
theorem cv_ext {ad ad' : Nat → Nat} {sh sh' : SH} (h : Ext ad sh ad' sh') {v : AV} (hv : okA sh v) : cv ad' v = cv ad v ∧ okA sh' v := by
  match v, hv with
  | .inl a, hv => exact ⟨rfl, hv⟩
  | .inr (.inl a), hv => exact ⟨rfl, hv⟩
  | .inr (.inr none), hv => exact ⟨rfl, hv⟩
  | .inr (.inr (some k)), hv => exact ⟨by show Value.ref (ad' k) = Value.ref (ad k); rw [(h k hv).1], (h k hv).2⟩
theorem map_ext {ad ad' : Nat → Nat} {sh sh' : SH} (h : Ext ad sh ad' sh') {st : List AV} (hs : ∀ v ∈ st, okA sh v) : st.map (cv ad') = st.map (cv ad) := List.map_congr_left fun v hv => (cv_ext h (hs v hv)).1
/-- the locals -/
def lof (ad : Nat → Nat) (L : List (Option AV)) : List (Nat × Value) := (List.range L.length).filterMap fun k => (L.getD k none).map fun v => (k, cv ad v)
theorem lof_mem {ad : Nat → Nat} {L : List (Option AV)} {k : Nat} {w : Value} : (k, w) ∈ lof ad L ↔ ∃ v, L[k]? = some (some v) ∧ w = cv ad v := by
  unfold lof
  rw [List.mem_filterMap]
  constructor
  · rintro ⟨j, hj, he⟩
    rw [List.mem_range] at hj
    cases hL : L.getD j none with
    | none => rw [hL] at he; cases he
    | some v =>
      rw [hL] at he
      cases he
      refine ⟨v, ?_, rfl⟩
      rw [List.getD_eq_getElem?_getD] at hL
      cases hq : L[k]? with
      | none => rw [hq] at hL; cases hL
      | some o => rw [hq] at hL; rw [show o = some v from hL]
  · rintro ⟨v, hv, rfl⟩
    refine ⟨k, List.mem_range.mpr (List.getElem?_eq_some_iff.mp hv).1, ?_⟩
    rw [List.getD_eq_getElem?_getD, hv]
    rfl
def LR (ad : Nat → Nat) (ls : Array Slot) (n : Nat) (L : List (Option AV)) : Prop := lv_has ls n (lof ad L)
theorem LR.at {ad : Nat → Nat} {ls : Array Slot} {n : Nat} {L : List (Option AV)} (h : LR ad ls n L) {k : Nat} {v : AV} (hk : L[k]? = some (some v)) : ls[k]? = some (.val (cv ad v)) := h.2.2 (k, cv ad v) (lof_mem.mpr ⟨v, hk, rfl⟩)
theorem LR.ext {ad ad' : Nat → Nat} {sh sh' : SH} {ls : Array Slot} {n : Nat} {L : List (Option AV)} (h : LR ad ls n L) (he : Ext ad sh ad' sh') (hL : ∀ v, some v ∈ L → okA sh v) : LR ad' ls n L := by
  refine ⟨h.1, h.2.1, fun q hq => ?_⟩
  obtain ⟨k, w⟩ := q
  obtain ⟨v, hv, rfl⟩ := lof_mem.mp hq
  rw [(cv_ext he (hL v (List.mem_of_getElem? hv))).1]
  exact h.at hv
/-- place i may be stored: ahead of it stands no number of 64 bits -/
def nlg (L : List (Option AV)) : Nat → Bool
  | 0 => true
  | j + 1 => match L[j]? with
    | some (some (.inr (.inl _))) => false
    | _ => true
theorem cv_cat {ad : Nat → Nat} {v : AV} (h : (cv ad v).category = 2) : ∃ a, v = .inr (.inl a) := by
  match v, h with
  | .inl a, h => cases h
  | .inr (.inl a), _ => exact ⟨a, rfl⟩
  | .inr (.inr none), h => cases h
  | .inr (.inr (some k)), h => cases h
theorem LR.set {ad : Nat → Nat} {ls' : Array Slot} {n i : Nat} {L : List (Option AV)} {v : AV} (hn : nlg L i = true) (h : lv_has ls' n ((i, cv ad v) :: (lof ad L).filter (fun q => !(q.1 == i) && !(q.1 + 1 == i && q.2.category == 2)))) : LR ad ls' n (L.set i (some v)) := by
  refine ⟨h.1, h.2.1, fun q hq => h.2.2 q ?_⟩
  obtain ⟨k, w⟩ := q
  obtain ⟨x, hx, rfl⟩ := lof_mem.mp hq
  rw [List.getElem?_set] at hx
  by_cases hik : i = k
  · subst hik
    rw [if_pos rfl] at hx
    split at hx
    · cases hx; exact List.mem_cons_self
    · cases hx
  · rw [if_neg hik] at hx
    refine List.mem_cons_of_mem _ (List.mem_filter.mpr ⟨lof_mem.mpr ⟨x, hx, rfl⟩, ?_⟩)
    have h1 : (k == i) = false := by simp; exact fun e => hik e.symm
    simp only [h1, Bool.not_false, Bool.true_and, Bool.not_eq_true', Bool.and_eq_false_iff]
    by_cases h2 : k + 1 = i
    · right
      subst h2
      by_cases h3 : (cv ad x).category = 2
      · obtain ⟨a, rfl⟩ := cv_cat h3
        simp [nlg, hx] at hn
      · simpa using h3
    · left; simpa using h2
/-- which return gives which answer -/
def retI (r : Option FieldType) (rv : Option AV) (ins : Instr) : Prop :=
  (r = none ∧ rv = none ∧ ins = .return_) ∨ (∃ ty a, r = some ty ∧ rv = some (vi a) ∧ ins = .ireturn ∧ narrow ty (.int (Int32.ofInt a)) = .int (Int32.ofInt a)) ∨ ∃ n o, r = some (.object n) ∧ rv = some (vq o) ∧ ins = .areturn
/-- what a frame stands on from its beginning to its end -/
def Ok (g : GH) (d : Nat) (μ : MT) (Q : QT) (p : Program) (e : Env) (s : State) (m : MethodId) (args : Array Value) (below : List Frame) (meth : Method) (c : Code) (Rm : Room) (Z : State → Prop) (ad0 : Nat → Nat) (sh0 : SH) (mc ms : Nat) : Prop :=
  (p.tables.exec = Jvm.exec ∧ c.code = μ.2.1 ∧ c.maxLocals = μ.2.2.1 ∧ meth.name = μ.1.name ∧ s.vm.findClass μ.1.cls = some m.cls ∧ (∀ w ∈ WT μ, w.before args s = true) ∧ St g s) ∧
  (d ≤ Rm.frames ∧ 60 * d ≤ Rm.locals ∧ mc ≤ Rm.cells ∧ ms ≤ Rm.slots) ∧
  ∀ (rv : Option AV) (sh : SH) (R : RR) (I : II) (ad : Nat → Nat) (H : Heap) (locs : List Loc) (cells slots : Nat) (ls : Array Slot) (pc : Nat) (ins : Instr), decode μ.2.1 pc = .ok (ins, 1) → retI μ.2.2.2 rv ins → Q rv sh R I → Rep g ad sh R I H → (∀ v, rv = some v → okA sh v) → Ext ad0 sh0 ad sh → va_S (gA g) s.heap H locs → cells ≤ mc → slots ≤ ms →
    W p (gL g) e Rm s m args below meth c H locs cells slots Z (F0 m pc ls (rv.map (cv ad)).toList)
/-- what moves from step to step -/
def Nw (g : GH) (μ : MT) (bc bs : Nat) (L : List (Option AV)) (st : List AV) (sh : SH) (R : RR) (I : II) (s : State) (ad0 : Nat → Nat) (sh0 : SH) (mc ms : Nat) (H : Heap) (locs : List Loc) (cells slots : Nat) (ad : Nat → Nat) (ls : Array Slot) : Prop :=
  cells + bc ≤ mc ∧ slots + bs ≤ ms ∧ Rep g ad sh R I H ∧ (∀ v ∈ st, okA sh v) ∧ (∀ v, some v ∈ L → okA sh v) ∧ LR ad ls μ.2.2.1 L ∧ Ext ad0 sh0 ad sh ∧ va_S (gA g) s.heap H locs
def T (g : GH) (d : Nat) (μ : MT) (bc bs pc : Nat) (L : List (Option AV)) (st : List AV) (sh : SH) (R : RR) (I : II) (Q : QT) : Prop :=
  ∀ p e s m args below meth c Rm Z ad0 sh0 mc ms, Ok g d μ Q p e s m args below meth c Rm Z ad0 sh0 mc ms → ∀ H locs cells slots ad ls, Nw g μ bc bs L st sh R I s ad0 sh0 mc ms H locs cells slots ad ls →
    W p (gL g) e Rm s m args below meth c H locs cells slots Z (F0 m pc ls (st.map (cv ad)))
