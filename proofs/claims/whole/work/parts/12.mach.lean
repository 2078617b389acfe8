/-! THE ABSTRACT MACHINE, 3: steps that touch no heap -/
section
variable {g : GH} {d : Nat} {μ : MT} {bc bs pc : Nat} {L : List (Option AV)} {st : List AV} {sh : SH} {R : RR} {I : II} {Q : QT}
theorem m_st {pc' : Nat} {st st' : List AV} (h : T g d μ bc bs pc' L st' sh R I Q) (ho : (∀ v ∈ st, okA sh v) → (∀ v, some v ∈ L → okA sh v) → ∀ v ∈ st', okA sh v)
    (hw : ∀ (p : Program) (e : Env) (s : State) (m : MethodId) (args : Array Value) (below : List Frame) (meth : Method) (c : Code) (Rm : Room) (Z : State → Prop) (H : Heap) (locs : List Loc) (cells slots : Nat) (ad : Nat → Nat) (ls : Array Slot), p.tables.exec = Jvm.exec → c.code = μ.2.1 → s.vm.findClass μ.1.cls = some m.cls → (∀ w ∈ WT μ, w.before args s = true) → LR ad ls μ.2.2.1 L → (∀ v ∈ st, okA sh v) → (∀ v, some v ∈ L → okA sh v) →
      W p (gL g) e Rm s m args below meth c H locs cells slots Z (F0 m pc' ls (st'.map (cv ad))) → W p (gL g) e Rm s m args below meth c H locs cells slots Z (F0 m pc ls (st.map (cv ad)))) : T g d μ bc bs pc L st sh R I Q := by
  intro p e s m args below meth c Rm Z ad0 sh0 mc ms O H locs cells slots ad ls N
  obtain ⟨n1, n2, n3, n4, n5, n6, n7, n8⟩ := id N
  exact hw p e s m args below meth c Rm Z H locs cells slots ad ls O.1.1 O.1.2.1 O.1.2.2.2.2.1 O.1.2.2.2.2.2.1 n6 n4 n5 (h p e s m args below meth c Rm Z ad0 sh0 mc ms O H locs cells slots ad ls ⟨n1, n2, n3, ho n4 n5, n5, n6, n7, n8⟩)
theorem ok2 {a : AV} {b : AV} {s : List AV} (h : ∀ v ∈ a :: b :: s, okA sh v) : okA sh a ∧ okA sh b ∧ ∀ v ∈ s, okA sh v := ⟨h a List.mem_cons_self, h b (List.mem_cons_of_mem _ List.mem_cons_self), fun v hv => h v (List.mem_cons_of_mem _ (List.mem_cons_of_mem _ hv))⟩
theorem ok1 {a : AV} {s : List AV} (h : ∀ v ∈ a :: s, okA sh v) : okA sh a ∧ ∀ v ∈ s, okA sh v := ⟨h a List.mem_cons_self, fun v hv => h v (List.mem_cons_of_mem _ hv)⟩
theorem okc {a : AV} {s : List AV} (ha : okA sh a) (h : ∀ v ∈ s, okA sh v) : ∀ v ∈ a :: s, okA sh v := fun v hv => (List.mem_cons.mp hv).elim (fun e => e ▸ ha) (h v)
/-- what is on the stack is in its range -/
theorem m_rng {a : Int} {st : List AV} (h : R32 a → T g d μ bc bs pc L (vi a :: st) sh R I Q) : T g d μ bc bs pc L (vi a :: st) sh R I Q := by
  intro p e s m args below meth c Rm Z ad0 sh0 mc ms O H locs cells slots ad ls N
  exact h (N.2.2.2.1 _ List.mem_cons_self) p e s m args below meth c Rm Z ad0 sh0 mc ms O H locs cells slots ad ls N
/-- what the memory holds is in its range -/
theorem m_rngI {o : Nat} {i : Int} (hk : kd (sh o).1 i = 0) (h : R32 (I o i) → T g d μ bc bs pc L st sh R I Q) : T g d μ bc bs pc L st sh R I Q := by
  intro p e s m args below meth c Rm Z ad0 sh0 mc ms O H locs cells slots ad ls N
  exact h ((N.2.2.1.2.2.1 o i).1 hk) p e s m args below meth c Rm Z ad0 sh0 mc ms O H locs cells slots ad ls N
theorem m_rngL {a : Int} (k : Nat) (hk : L[k]? = some (some (vi a))) (h : R32 a → T g d μ bc bs pc L st sh R I Q) : T g d μ bc bs pc L st sh R I Q := by
  intro p e s m args below meth c Rm Z ad0 sh0 mc ms O H locs cells slots ad ls N
  exact h (N.2.2.2.2.1 _ (List.mem_of_getElem? hk)) p e s m args below meth c Rm Z ad0 sh0 mc ms O H locs cells slots ad ls N
theorem m_iconst {n : Int} (hd : decode μ.2.1 pc = .ok (.iconst n, 1)) (hr : R32 n) (h : T g d μ bc bs (pc + 1) L (vi n :: st) sh R I Q) : T g d μ bc bs pc L st sh R I Q :=
  m_st h (fun hs _ => okc hr hs) (by
    intro p e s m args below meth c Rm Z H locs cells slots ad ls hx hb hown hts hl hs hL k
    exact lv_iconst hx hb hd rfl k)
theorem m_bipush {n : Int} (hd : decode μ.2.1 pc = .ok (.bipush n, 2)) (hv : (Int8.ofInt n).toInt32 = Int32.ofInt n) (hr : R32 n) (h : T g d μ bc bs (pc + 2) L (vi n :: st) sh R I Q) : T g d μ bc bs pc L st sh R I Q :=
  m_st h (fun hs _ => okc hr hs) (by
    intro p e s m args below meth c Rm Z H locs cells slots ad ls hx hb hown hts hl hs hL k
    exact lv_bipush hx hb hd hv k)
theorem m_sipush {n : Int} (hd : decode μ.2.1 pc = .ok (.sipush n, 3)) (hv : (Int16.ofInt n).toInt32 = Int32.ofInt n) (hr : R32 n) (h : T g d μ bc bs (pc + 3) L (vi n :: st) sh R I Q) : T g d μ bc bs pc L st sh R I Q :=
  m_st h (fun hs _ => okc hr hs) (by
    intro p e s m args below meth c Rm Z H locs cells slots ad ls hx hb hown hts hl hs hL k
    exact lv_sipush hx hb hd hv k)
theorem m_lconst {n : Fin 2} {a : Int} (hd : decode μ.2.1 pc = .ok (.lconst n, 1)) (ha : (n.val : Int) = a) (h : T g d μ bc bs (pc + 1) L (vl a :: st) sh R I Q) : T g d μ bc bs pc L st sh R I Q :=
  m_st h (fun hs _ => okc (show R64 a by have := n.isLt; omega) hs) (by
    intro p e s m args below meth c Rm Z H locs cells slots ad ls hx hb hown hts hl hs hL k
    exact lv_lconst hx hb hd (by rw [← ha, Int64.ofInt_eq_ofNat]) k)
theorem m_ldc {i : Nat} {v : Int32} {a : Int} (hd : decode μ.2.1 pc = .ok (.ldc i, 2)) (hw : Cond.constant μ.1.cls i v ∈ lw_tbl) (ha : v.toInt = a) (h : T g d μ bc bs (pc + 2) L (vi a :: st) sh R I Q) : T g d μ bc bs pc L st sh R I Q :=
  m_st h (fun hs _ => okc (show R32 a by rw [← ha]; exact r32_of v) hs) (by
    intro p e s m args below meth c Rm Z H locs cells slots ad ls hx hb hown hts hl hs hL k
    have k2 : W p (gL g) e Rm s m args below meth c H locs cells slots Z (F0 m (pc + 2) ls (.int v :: st.map (cv ad))) := by rw [← r32_eq ha]; exact k
    exact lv_ldc hx hb hown (hts _ (List.mem_cons_of_mem _ (lwG_of hw rfl))) hd k2)
theorem m_ldcw {i : Nat} {v : Int32} {a : Int} (hd : decode μ.2.1 pc = .ok (.ldc_w i, 3)) (hw : Cond.constant μ.1.cls i v ∈ lw_tbl) (ha : v.toInt = a) (h : T g d μ bc bs (pc + 3) L (vi a :: st) sh R I Q) : T g d μ bc bs pc L st sh R I Q :=
  m_st h (fun hs _ => okc (show R32 a by rw [← ha]; exact r32_of v) hs) (by
    intro p e s m args below meth c Rm Z H locs cells slots ad ls hx hb hown hts hl hs hL k
    have k2 : W p (gL g) e Rm s m args below meth c H locs cells slots Z (F0 m (pc + 3) ls (.int v :: st.map (cv ad))) := by rw [← r32_eq ha]; exact k
    exact lv_ldcw hx hb hown (hts _ (List.mem_cons_of_mem _ (lwG_of hw rfl))) hd k2)
theorem m_ldc2 {i : Nat} {v : Int64} {a : Int} (hd : decode μ.2.1 pc = .ok (.ldc2_w i, 3)) (hw : Cond.constantLong μ.1.cls i v ∈ lw_tbl) (ha : v.toInt = a) (h : T g d μ bc bs (pc + 3) L (vl a :: st) sh R I Q) : T g d μ bc bs pc L st sh R I Q :=
  m_st h (fun hs _ => okc (show R64 a by rw [← ha]; exact r64_of v) hs) (by
    intro p e s m args below meth c Rm Z H locs cells slots ad ls hx hb hown hts hl hs hL k
    have k2 : W p (gL g) e Rm s m args below meth c H locs cells slots Z (F0 m (pc + 3) ls (.long v :: st.map (cv ad))) := by rw [← r64_eq ha]; exact k
    exact lv_ldc2 hx hb hown (hts _ (List.mem_cons_of_mem _ (lwG_of hw rfl))) hd k2)
theorem m_null (hd : decode μ.2.1 pc = .ok (.aconst_null, 1)) (h : T g d μ bc bs (pc + 1) L (vn :: st) sh R I Q) : T g d μ bc bs pc L st sh R I Q :=
  m_st h (fun hs _ => okc trivial hs) (by
    intro p e s m args below meth c Rm Z H locs cells slots ad ls hx hb hown hts hl hs hL k
    exact lv_null hx hb hd k)
theorem m_iload {k0 : Nat} {a : Int} (hd : decode μ.2.1 pc = .ok (.iload k0, 2)) (hk : L[k0]? = some (some (vi a))) (h : T g d μ bc bs (pc + 2) L (vi a :: st) sh R I Q) : T g d μ bc bs pc L st sh R I Q :=
  m_st h (fun hs hL => okc (hL _ (List.mem_of_getElem? hk)) hs) (by
    intro p e s m args below meth c Rm Z H locs cells slots ad ls hx hb hown hts hl hs hL k
    exact lv_iload hx hb hd (hl.at hk) k)
theorem m_iload_n {k0 : Fin 4} {a : Int} (hd : decode μ.2.1 pc = .ok (.iload_n k0, 1)) (hk : L[k0.val]? = some (some (vi a))) (h : T g d μ bc bs (pc + 1) L (vi a :: st) sh R I Q) : T g d μ bc bs pc L st sh R I Q :=
  m_st h (fun hs hL => okc (hL _ (List.mem_of_getElem? hk)) hs) (by
    intro p e s m args below meth c Rm Z H locs cells slots ad ls hx hb hown hts hl hs hL k
    exact lv_iload_n hx hb hd rfl (hl.at hk) k)
theorem m_lload {k0 : Nat} {a : Int} (hd : decode μ.2.1 pc = .ok (.lload k0, 2)) (hk : L[k0]? = some (some (vl a))) (h : T g d μ bc bs (pc + 2) L (vl a :: st) sh R I Q) : T g d μ bc bs pc L st sh R I Q :=
  m_st h (fun hs hL => okc (hL _ (List.mem_of_getElem? hk)) hs) (by
    intro p e s m args below meth c Rm Z H locs cells slots ad ls hx hb hown hts hl hs hL k
    exact lv_lload hx hb hd (hl.at hk) k)
theorem m_lload_n {k0 : Fin 4} {a : Int} (hd : decode μ.2.1 pc = .ok (.lload_n k0, 1)) (hk : L[k0.val]? = some (some (vl a))) (h : T g d μ bc bs (pc + 1) L (vl a :: st) sh R I Q) : T g d μ bc bs pc L st sh R I Q :=
  m_st h (fun hs hL => okc (hL _ (List.mem_of_getElem? hk)) hs) (by
    intro p e s m args below meth c Rm Z H locs cells slots ad ls hx hb hown hts hl hs hL k
    exact lv_lload_n hx hb hd rfl (hl.at hk) k)
theorem m_aload {k0 : Nat} {a : Nat} (hd : decode μ.2.1 pc = .ok (.aload k0, 2)) (hk : L[k0]? = some (some (vr a))) (h : T g d μ bc bs (pc + 2) L (vr a :: st) sh R I Q) : T g d μ bc bs pc L st sh R I Q :=
  m_st h (fun hs hL => okc (hL _ (List.mem_of_getElem? hk)) hs) (by
    intro p e s m args below meth c Rm Z H locs cells slots ad ls hx hb hown hts hl hs hL k
    exact lv_aload hx hb hd (hl.at hk) k)
theorem m_aload_n {k0 : Fin 4} {a : Nat} (hd : decode μ.2.1 pc = .ok (.aload_n k0, 1)) (hk : L[k0.val]? = some (some (vr a))) (h : T g d μ bc bs (pc + 1) L (vr a :: st) sh R I Q) : T g d μ bc bs pc L st sh R I Q :=
  m_st h (fun hs hL => okc (hL _ (List.mem_of_getElem? hk)) hs) (by
    intro p e s m args below meth c Rm Z H locs cells slots ad ls hx hb hown hts hl hs hL k
    exact lv_aload_n hx hb hd rfl (hl.at hk) k)
theorem m_aloadN {k0 : Nat} (hd : decode μ.2.1 pc = .ok (.aload k0, 2)) (hk : L[k0]? = some (some vn)) (h : T g d μ bc bs (pc + 2) L (vn :: st) sh R I Q) : T g d μ bc bs pc L st sh R I Q :=
  m_st h (fun hs hL => okc trivial hs) (by
    intro p e s m args below meth c Rm Z H locs cells slots ad ls hx hb hown hts hl hs hL k
    exact lv_aloadN hx hb hd (hl.at hk) k)
theorem m_aload_nN {k0 : Fin 4} (hd : decode μ.2.1 pc = .ok (.aload_n k0, 1)) (hk : L[k0.val]? = some (some vn)) (h : T g d μ bc bs (pc + 1) L (vn :: st) sh R I Q) : T g d μ bc bs pc L st sh R I Q :=
  m_st h (fun hs hL => okc trivial hs) (by
    intro p e s m args below meth c Rm Z H locs cells slots ad ls hx hb hown hts hl hs hL k
    exact lv_aload_nN hx hb hd rfl (hl.at hk) k)
theorem m_istore {k0 : Nat} {a : Int} {L' : List (Option AV)} (hd : decode μ.2.1 pc = .ok (.istore k0, 2)) (hn : k0 < μ.2.2.1) (hg : nlg L k0 = true) (hL : L.set k0 (some (vi a)) = L') (h : T g d μ bc bs (pc + 2) L' st sh R I Q) : T g d μ bc bs pc L (vi a :: st) sh R I Q := by
  subst hL
  intro p e s m args below meth c Rm Z ad0 sh0 mc ms O H locs cells slots ad ls N
  obtain ⟨n1, n2, n3, n4, n5, n6, n7, n8⟩ := N
  refine lv_istore O.1.1 O.1.2.1 hd n6 hn rfl (fun ls' hl' => ?_)
  exact h p e s m args below meth c Rm Z ad0 sh0 mc ms O H locs cells slots ad ls' ⟨n1, n2, n3, (ok1 n4).2, fun v hv => by
    rcases List.mem_or_eq_of_mem_set hv with h1 | h1
    · exact n5 v h1
    · cases h1; exact (ok1 n4).1, LR.set hg hl', n7, n8⟩
theorem m_istore_n {k0 : Fin 4} {a : Int} {L' : List (Option AV)} (hd : decode μ.2.1 pc = .ok (.istore_n k0, 1)) (hn : k0.val < μ.2.2.1) (hg : nlg L k0.val = true) (hL : L.set k0.val (some (vi a)) = L') (h : T g d μ bc bs (pc + 1) L' st sh R I Q) : T g d μ bc bs pc L (vi a :: st) sh R I Q := by
  subst hL
  intro p e s m args below meth c Rm Z ad0 sh0 mc ms O H locs cells slots ad ls N
  obtain ⟨n1, n2, n3, n4, n5, n6, n7, n8⟩ := N
  refine lv_istore_n O.1.1 O.1.2.1 hd rfl n6 hn rfl (fun ls' hl' => ?_)
  exact h p e s m args below meth c Rm Z ad0 sh0 mc ms O H locs cells slots ad ls' ⟨n1, n2, n3, (ok1 n4).2, fun v hv => by
    rcases List.mem_or_eq_of_mem_set hv with h1 | h1
    · exact n5 v h1
    · cases h1; exact (ok1 n4).1, LR.set hg hl', n7, n8⟩
theorem m_astore {k0 : Nat} {a : Nat} {L' : List (Option AV)} (hd : decode μ.2.1 pc = .ok (.astore k0, 2)) (hn : k0 < μ.2.2.1) (hg : nlg L k0 = true) (hL : L.set k0 (some (vr a)) = L') (h : T g d μ bc bs (pc + 2) L' st sh R I Q) : T g d μ bc bs pc L (vr a :: st) sh R I Q := by
  subst hL
  intro p e s m args below meth c Rm Z ad0 sh0 mc ms O H locs cells slots ad ls N
  obtain ⟨n1, n2, n3, n4, n5, n6, n7, n8⟩ := N
  refine lv_astore O.1.1 O.1.2.1 hd n6 hn rfl (fun ls' hl' => ?_)
  exact h p e s m args below meth c Rm Z ad0 sh0 mc ms O H locs cells slots ad ls' ⟨n1, n2, n3, (ok1 n4).2, fun v hv => by
    rcases List.mem_or_eq_of_mem_set hv with h1 | h1
    · exact n5 v h1
    · cases h1; exact (ok1 n4).1, LR.set hg hl', n7, n8⟩
theorem m_astore_n {k0 : Fin 4} {a : Nat} {L' : List (Option AV)} (hd : decode μ.2.1 pc = .ok (.astore_n k0, 1)) (hn : k0.val < μ.2.2.1) (hg : nlg L k0.val = true) (hL : L.set k0.val (some (vr a)) = L') (h : T g d μ bc bs (pc + 1) L' st sh R I Q) : T g d μ bc bs pc L (vr a :: st) sh R I Q := by
  subst hL
  intro p e s m args below meth c Rm Z ad0 sh0 mc ms O H locs cells slots ad ls N
  obtain ⟨n1, n2, n3, n4, n5, n6, n7, n8⟩ := N
  refine lv_astore_n O.1.1 O.1.2.1 hd rfl n6 hn rfl (fun ls' hl' => ?_)
  exact h p e s m args below meth c Rm Z ad0 sh0 mc ms O H locs cells slots ad ls' ⟨n1, n2, n3, (ok1 n4).2, fun v hv => by
    rcases List.mem_or_eq_of_mem_set hv with h1 | h1
    · exact n5 v h1
    · cases h1; exact (ok1 n4).1, LR.set hg hl', n7, n8⟩
theorem m_iinc {k0 : Nat} {n a : Int} {L' : List (Option AV)} (hd : decode μ.2.1 pc = .ok (.iinc k0 n, 3)) (hk : L[k0]? = some (some (vi a))) (hn : k0 < μ.2.2.1) (hg : nlg L k0 = true) (hL : L.set k0 (some (vi (a + n))) = L') (hr : R32 (a + n)) (h : T g d μ bc bs (pc + 3) L' st sh R I Q) : T g d μ bc bs pc L st sh R I Q := by
  subst hL
  intro p e s m args below meth c Rm Z ad0 sh0 mc ms O H locs cells slots ad ls N
  obtain ⟨n1, n2, n3, n4, n5, n6, n7, n8⟩ := N
  obtain ⟨q, hq⟩ := List.getElem?_of_mem (lof_mem.mpr ⟨vi a, hk, rfl⟩ : (k0, cv ad (vi a)) ∈ lof ad L)
  refine lv_iinc (v := Int32.ofInt (a + n)) O.1.1 O.1.2.1 hd n6 (k := q) hq (Int32.ofInt_add a n).symm hn rfl (fun ls' hl' => ?_)
  exact h p e s m args below meth c Rm Z ad0 sh0 mc ms O H locs cells slots ad ls' ⟨n1, n2, n3, n4, fun v hv => by
    rcases List.mem_or_eq_of_mem_set hv with h1 | h1
    · exact n5 v h1
    · cases h1; exact hr, LR.set (v := vi (a + n)) hg hl', n7, n8⟩
theorem m_iadd {a b : Int} (hd : decode μ.2.1 pc = .ok (.iadd, 1)) (hr : R32 (a + b)) (h : T g d μ bc bs (pc + 1) L (vi (a + b) :: st) sh R I Q) : T g d μ bc bs pc L (vi b :: vi a :: st) sh R I Q :=
  m_st h (fun hs _ => okc hr (ok2 hs).2.2) (by
    intro p e s m args below meth c Rm Z H locs cells slots ad ls hx hb hown hts hl hs hL k
    refine lv_iadd hx hb hd ?_
    rw [← Int32.ofInt_add]
    exact k)
theorem m_isub {a b : Int} (hd : decode μ.2.1 pc = .ok (.isub, 1)) (hr : R32 (a - b)) (h : T g d μ bc bs (pc + 1) L (vi (a - b) :: st) sh R I Q) : T g d μ bc bs pc L (vi b :: vi a :: st) sh R I Q :=
  m_st h (fun hs _ => okc hr (ok2 hs).2.2) (by
    intro p e s m args below meth c Rm Z H locs cells slots ad ls hx hb hown hts hl hs hL k
    refine lv_isub hx hb hd ?_
    rw [← Int32.ofInt_sub]
    exact k)
theorem m_imul {a b : Int} (hd : decode μ.2.1 pc = .ok (.imul, 1)) (hr : R32 (a * b)) (h : T g d μ bc bs (pc + 1) L (vi (a * b) :: st) sh R I Q) : T g d μ bc bs pc L (vi b :: vi a :: st) sh R I Q :=
  m_st h (fun hs _ => okc hr (ok2 hs).2.2) (by
    intro p e s m args below meth c Rm Z H locs cells slots ad ls hx hb hown hts hl hs hL k
    refine lv_imul hx hb hd ?_
    rw [← Int32.ofInt_mul]
    exact k)
theorem m_ladd {a b : Int} (hd : decode μ.2.1 pc = .ok (.ladd, 1)) (hr : R64 (a + b)) (h : T g d μ bc bs (pc + 1) L (vl (a + b) :: st) sh R I Q) : T g d μ bc bs pc L (vl b :: vl a :: st) sh R I Q :=
  m_st h (fun hs _ => okc hr (ok2 hs).2.2) (by
    intro p e s m args below meth c Rm Z H locs cells slots ad ls hx hb hown hts hl hs hL k
    refine lv_ladd hx hb hd ?_
    rw [← Int64.ofInt_add]
    exact k)
theorem m_lsub {a b : Int} (hd : decode μ.2.1 pc = .ok (.lsub, 1)) (hr : R64 (a - b)) (h : T g d μ bc bs (pc + 1) L (vl (a - b) :: st) sh R I Q) : T g d μ bc bs pc L (vl b :: vl a :: st) sh R I Q :=
  m_st h (fun hs _ => okc hr (ok2 hs).2.2) (by
    intro p e s m args below meth c Rm Z H locs cells slots ad ls hx hb hown hts hl hs hL k
    refine lv_lsub hx hb hd ?_
    rw [← Int64.ofInt_sub]
    exact k)
theorem m_lmul {a b : Int} (hd : decode μ.2.1 pc = .ok (.lmul, 1)) (hr : R64 (a * b)) (h : T g d μ bc bs (pc + 1) L (vl (a * b) :: st) sh R I Q) : T g d μ bc bs pc L (vl b :: vl a :: st) sh R I Q :=
  m_st h (fun hs _ => okc hr (ok2 hs).2.2) (by
    intro p e s m args below meth c Rm Z H locs cells slots ad ls hx hb hown hts hl hs hL k
    refine lv_lmul hx hb hd ?_
    rw [← Int64.ofInt_mul]
    exact k)
theorem div32 {a b : Int} (ha : R32 a) (hb : R32 b) (h0 : 0 ≤ a) (h1 : 0 < b) : Int32.ofInt a / Int32.ofInt b = Int32.ofInt (a / b) := by
  have e := pk_div (a := a.toNat) (d := b.toNat) (by omega) (by omega) (by omega)
  rw [show a = ((a.toNat : Nat) : Int) by omega, show b = ((b.toNat : Nat) : Int) by omega, ← Int.natCast_ediv, Int32.ofInt_eq_ofNat, Int32.ofInt_eq_ofNat, Int32.ofInt_eq_ofNat]
  exact e
theorem rem32 {a b : Int} (ha : R32 a) (hb : R32 b) (h0 : 0 ≤ a) (h1 : 0 < b) : Int32.ofInt a - Int32.ofInt a / Int32.ofInt b * Int32.ofInt b = Int32.ofInt (a % b) := by
  have e := pk_rem (a := a.toNat) (d := b.toNat) (by omega) (by omega) (by omega)
  rw [show a = ((a.toNat : Nat) : Int) by omega, show b = ((b.toNat : Nat) : Int) by omega, ← Int.natCast_emod, Int32.ofInt_eq_ofNat, Int32.ofInt_eq_ofNat, Int32.ofInt_eq_ofNat]
  exact e
theorem dr32 {a b : Int} (ha : R32 a) (h0 : 0 ≤ a) (h1 : 0 < b) : R32 (a / b) := ⟨by have := Int.ediv_nonneg h0 (Int.le_of_lt h1); omega, by have := Int.ediv_le_self b h0; omega⟩
theorem mr32 {a b : Int} (hb : R32 b) (h1 : 0 < b) : R32 (a % b) := ⟨by have := Int.emod_nonneg a (show b ≠ 0 by omega); omega, by have := Int.emod_lt_of_pos a h1; omega⟩
theorem m_idiv {a b : Int} (hd : decode μ.2.1 pc = .ok (.idiv, 1)) (h0 : 0 ≤ a) (h1 : 0 < b) (h : T g d μ bc bs (pc + 1) L (vi (a / b) :: st) sh R I Q) : T g d μ bc bs pc L (vi b :: vi a :: st) sh R I Q :=
  m_st h (fun hs _ => okc (dr32 (ok2 hs).2.1 h0 h1) (ok2 hs).2.2) (by
    intro p e s m args below meth c Rm Z H locs cells slots ad ls hx hb hown hts hl hs hL k
    have ra : R32 a := (ok2 hs).2.1
    have rb : R32 b := (ok2 hs).1
    refine lv_idiv hx hb hd (fun z => ?_) ?_
    · have := (r32_inj rb (show R32 0 by decide)).mp z
      omega
    · rw [div32 ra rb h0 h1]
      exact k)
theorem m_irem {a b : Int} (hd : decode μ.2.1 pc = .ok (.irem, 1)) (h0 : 0 ≤ a) (h1 : 0 < b) (h : T g d μ bc bs (pc + 1) L (vi (a % b) :: st) sh R I Q) : T g d μ bc bs pc L (vi b :: vi a :: st) sh R I Q :=
  m_st h (fun hs _ => okc (mr32 (ok2 hs).1 h1) (ok2 hs).2.2) (by
    intro p e s m args below meth c Rm Z H locs cells slots ad ls hx hb hown hts hl hs hL k
    have ra : R32 a := (ok2 hs).2.1
    have rb : R32 b := (ok2 hs).1
    refine lv_irem hx hb hd (fun z => ?_) ?_
    · have := (r32_inj rb (show R32 0 by decide)).mp z
      omega
    · rw [rem32 ra rb h0 h1]
      exact k)
def f_iand (a b : Int) : Int := (Int32.ofInt a &&& Int32.ofInt b).toInt
theorem m_iand {a b : Int} (hd : decode μ.2.1 pc = .ok (.iand, 1)) (h : T g d μ bc bs (pc + 1) L (vi (f_iand a b) :: st) sh R I Q) : T g d μ bc bs pc L (vi b :: vi a :: st) sh R I Q :=
  m_st h (fun hs _ => okc (r32_of _) (ok2 hs).2.2) (by
    intro p e s m args below meth c Rm Z H locs cells slots ad ls hx hb hown hts hl hs hL k
    refine lv_iand hx hb hd ?_
    rw [← r32_eq (a := f_iand a b) rfl]
    exact k)
def f_ior (a b : Int) : Int := (Int32.ofInt a ||| Int32.ofInt b).toInt
theorem m_ior {a b : Int} (hd : decode μ.2.1 pc = .ok (.ior, 1)) (h : T g d μ bc bs (pc + 1) L (vi (f_ior a b) :: st) sh R I Q) : T g d μ bc bs pc L (vi b :: vi a :: st) sh R I Q :=
  m_st h (fun hs _ => okc (r32_of _) (ok2 hs).2.2) (by
    intro p e s m args below meth c Rm Z H locs cells slots ad ls hx hb hown hts hl hs hL k
    refine lv_ior hx hb hd ?_
    rw [← r32_eq (a := f_ior a b) rfl]
    exact k)
def f_ixor (a b : Int) : Int := (Int32.ofInt a ^^^ Int32.ofInt b).toInt
theorem m_ixor {a b : Int} (hd : decode μ.2.1 pc = .ok (.ixor, 1)) (h : T g d μ bc bs (pc + 1) L (vi (f_ixor a b) :: st) sh R I Q) : T g d μ bc bs pc L (vi b :: vi a :: st) sh R I Q :=
  m_st h (fun hs _ => okc (r32_of _) (ok2 hs).2.2) (by
    intro p e s m args below meth c Rm Z H locs cells slots ad ls hx hb hown hts hl hs hL k
    refine lv_ixor hx hb hd ?_
    rw [← r32_eq (a := f_ixor a b) rfl]
    exact k)
def f_land (a b : Int) : Int := (Int64.ofInt a &&& Int64.ofInt b).toInt
theorem m_land {a b : Int} (hd : decode μ.2.1 pc = .ok (.land, 1)) (h : T g d μ bc bs (pc + 1) L (vl (f_land a b) :: st) sh R I Q) : T g d μ bc bs pc L (vl b :: vl a :: st) sh R I Q :=
  m_st h (fun hs _ => okc (r64_of _) (ok2 hs).2.2) (by
    intro p e s m args below meth c Rm Z H locs cells slots ad ls hx hb hown hts hl hs hL k
    refine lv_land hx hb hd ?_
    rw [← r64_eq (a := f_land a b) rfl]
    exact k)
def f_lor (a b : Int) : Int := (Int64.ofInt a ||| Int64.ofInt b).toInt
theorem m_lor {a b : Int} (hd : decode μ.2.1 pc = .ok (.lor, 1)) (h : T g d μ bc bs (pc + 1) L (vl (f_lor a b) :: st) sh R I Q) : T g d μ bc bs pc L (vl b :: vl a :: st) sh R I Q :=
  m_st h (fun hs _ => okc (r64_of _) (ok2 hs).2.2) (by
    intro p e s m args below meth c Rm Z H locs cells slots ad ls hx hb hown hts hl hs hL k
    refine lv_lor hx hb hd ?_
    rw [← r64_eq (a := f_lor a b) rfl]
    exact k)
def f_ishl (a b : Int) : Int := (Int32.ofInt a <<< (Int32.ofInt b &&& 31)).toInt
theorem m_ishl {a b : Int} (hd : decode μ.2.1 pc = .ok (.ishl, 1)) (h : T g d μ bc bs (pc + 1) L (vi (f_ishl a b) :: st) sh R I Q) : T g d μ bc bs pc L (vi b :: vi a :: st) sh R I Q :=
  m_st h (fun hs _ => okc (r32_of _) (ok2 hs).2.2) (by
    intro p e s m args below meth c Rm Z H locs cells slots ad ls hx hb hown hts hl hs hL k
    refine lv_ishl hx hb hd ?_
    rw [← r32_eq (a := f_ishl a b) rfl]
    exact k)
def f_ishr (a b : Int) : Int := (Int32.ofInt a >>> (Int32.ofInt b &&& 31)).toInt
theorem m_ishr {a b : Int} (hd : decode μ.2.1 pc = .ok (.ishr, 1)) (h : T g d μ bc bs (pc + 1) L (vi (f_ishr a b) :: st) sh R I Q) : T g d μ bc bs pc L (vi b :: vi a :: st) sh R I Q :=
  m_st h (fun hs _ => okc (r32_of _) (ok2 hs).2.2) (by
    intro p e s m args below meth c Rm Z H locs cells slots ad ls hx hb hown hts hl hs hL k
    refine lv_ishr hx hb hd ?_
    rw [← r32_eq (a := f_ishr a b) rfl]
    exact k)
def f_iushr (a b : Int) : Int := ((Int32.ofInt a).toUInt32 >>> ((Int32.ofInt b).toUInt32 &&& Int32.toUInt32 31)).toInt32.toInt
theorem m_iushr {a b : Int} (hd : decode μ.2.1 pc = .ok (.iushr, 1)) (h : T g d μ bc bs (pc + 1) L (vi (f_iushr a b) :: st) sh R I Q) : T g d μ bc bs pc L (vi b :: vi a :: st) sh R I Q :=
  m_st h (fun hs _ => okc (r32_of _) (ok2 hs).2.2) (by
    intro p e s m args below meth c Rm Z H locs cells slots ad ls hx hb hown hts hl hs hL k
    exact lv_iushr hx hb hd (r32_eq (a := f_iushr a b) rfl).symm k)
def f_lshl (a b : Int) : Int := (Int64.ofInt a <<< ((Int32.ofInt b).toInt64 &&& 63)).toInt
theorem m_lshl {a b : Int} (hd : decode μ.2.1 pc = .ok (.lshl, 1)) (h : T g d μ bc bs (pc + 1) L (vl (f_lshl a b) :: st) sh R I Q) : T g d μ bc bs pc L (vi b :: vl a :: st) sh R I Q :=
  m_st h (fun hs _ => okc (r64_of _) (ok2 hs).2.2) (by
    intro p e s m args below meth c Rm Z H locs cells slots ad ls hx hb hown hts hl hs hL k
    exact lv_lshl hx hb hd (r64_eq (a := f_lshl a b) rfl).symm k)
def f_lshr (a b : Int) : Int := (Int64.ofInt a >>> ((Int32.ofInt b).toInt64 &&& 63)).toInt
theorem m_lshr {a b : Int} (hd : decode μ.2.1 pc = .ok (.lshr, 1)) (h : T g d μ bc bs (pc + 1) L (vl (f_lshr a b) :: st) sh R I Q) : T g d μ bc bs pc L (vi b :: vl a :: st) sh R I Q :=
  m_st h (fun hs _ => okc (r64_of _) (ok2 hs).2.2) (by
    intro p e s m args below meth c Rm Z H locs cells slots ad ls hx hb hown hts hl hs hL k
    exact lv_lshr hx hb hd (r64_eq (a := f_lshr a b) rfl).symm k)
theorem m_i2l {a : Int} (hd : decode μ.2.1 pc = .ok (.i2l, 1)) (h : T g d μ bc bs (pc + 1) L (vl a :: st) sh R I Q) : T g d μ bc bs pc L (vi a :: st) sh R I Q :=
  m_st h (fun hs _ => okc (show R64 a by have : R32 a := (ok1 hs).1; omega) (ok1 hs).2) (by
    intro p e s m args below meth c Rm Z H locs cells slots ad ls hx hb hown hts hl hs hL k
    exact lv_i2l hx hb hd ((r64_eq (by rw [Int32.toInt_toInt64, r32_toInt (ok1 hs).1])).symm) k)
def f_l2i (a : Int) : Int := (Int64.ofInt a).toInt32.toInt
theorem m_l2i {a : Int} (hd : decode μ.2.1 pc = .ok (.l2i, 1)) (h : T g d μ bc bs (pc + 1) L (vi (f_l2i a) :: st) sh R I Q) : T g d μ bc bs pc L (vl a :: st) sh R I Q :=
  m_st h (fun hs _ => okc (r32_of _) (ok1 hs).2) (by
    intro p e s m args below meth c Rm Z H locs cells slots ad ls hx hb hown hts hl hs hL k
    exact lv_l2i hx hb hd ((r32_eq (a := f_l2i a) rfl).symm) k)
def f_i2b (a : Int) : Int := (Int32.ofInt a).toInt8.toInt32.toInt
theorem m_i2b {a : Int} (hd : decode μ.2.1 pc = .ok (.i2b, 1)) (h : T g d μ bc bs (pc + 1) L (vi (f_i2b a) :: st) sh R I Q) : T g d μ bc bs pc L (vi a :: st) sh R I Q :=
  m_st h (fun hs _ => okc (r32_of _) (ok1 hs).2) (by
    intro p e s m args below meth c Rm Z H locs cells slots ad ls hx hb hown hts hl hs hL k
    exact lv_i2b hx hb hd ((r32_eq (a := f_i2b a) rfl).symm) k)
def f_i2c (a : Int) : Int := ((Int32.ofInt a).toUInt32 % 65536).toInt32.toInt
theorem m_i2c {a : Int} (hd : decode μ.2.1 pc = .ok (.i2c, 1)) (h : T g d μ bc bs (pc + 1) L (vi (f_i2c a) :: st) sh R I Q) : T g d μ bc bs pc L (vi a :: st) sh R I Q :=
  m_st h (fun hs _ => okc (r32_of _) (ok1 hs).2) (by
    intro p e s m args below meth c Rm Z H locs cells slots ad ls hx hb hown hts hl hs hL k
    exact lv_i2c hx hb hd ((r32_eq (a := f_i2c a) rfl).symm) k)
def f_lcmp (a b : Int) : Int := if b < a then 1 else if a = b then 0 else -1
theorem lcmp64 {a b : Int} (ha : R64 a) (hb : R64 b) : lg_cmp (Int64.ofInt a) (Int64.ofInt b) = Int32.ofInt (f_lcmp a b) := by
  unfold lg_cmp f_lcmp
  have e1 : (Int64.ofInt a > Int64.ofInt b) ↔ b < a := by rw [gt_iff_lt, Int64.lt_iff_toInt_lt, r64_toInt ha, r64_toInt hb]
  have e2 : (Int64.ofInt a = Int64.ofInt b) ↔ a = b := ⟨fun h => by rw [← r64_toInt ha, ← r64_toInt hb, h], fun h => by rw [h]⟩
  simp only [e1, e2]
  split
  · rfl
  · split <;> rfl
theorem m_lcmp {a b : Int} (hd : decode μ.2.1 pc = .ok (.lcmp, 1)) (h : T g d μ bc bs (pc + 1) L (vi (f_lcmp a b) :: st) sh R I Q) : T g d μ bc bs pc L (vl b :: vl a :: st) sh R I Q :=
  m_st h (fun hs _ => okc (show R32 (f_lcmp a b) by unfold f_lcmp; split; decide; split <;> decide) (ok2 hs).2.2) (by
    intro p e s m args below meth c Rm Z H locs cells slots ad ls hx hb hown hts hl hs hL k
    refine W.lcmp hx hb hd ?_
    rw [lcmp64 (ok2 hs).2.1 (ok2 hs).1]
    exact k)
theorem cv_1 {ad : Nat → Nat} {v : AV} (h : ∀ a, v ≠ vl a) : (cv ad v).category = 1 := by
  match v, h with
  | .inl a, _ => rfl
  | .inr (.inl a), h => exact absurd rfl (h a)
  | .inr (.inr none), _ => rfl
  | .inr (.inr (some k)), _ => rfl
theorem m_dup {v : AV} (hd : decode μ.2.1 pc = .ok (.dup, 1)) (hv : ∀ a, v ≠ vl a) (h : T g d μ bc bs (pc + 1) L (v :: v :: st) sh R I Q) : T g d μ bc bs pc L (v :: st) sh R I Q :=
  m_st h (fun hs _ => okc (ok1 hs).1 hs) (by
    intro p e s m args below meth c Rm Z H locs cells slots ad ls hx hb hown hts hl hs hL k
    exact lv_dup hx hb hd (cv_1 hv) k)
theorem m_pop {v : AV} (hd : decode μ.2.1 pc = .ok (.pop, 1)) (hv : ∀ a, v ≠ vl a) (h : T g d μ bc bs (pc + 1) L st sh R I Q) : T g d μ bc bs pc L (v :: st) sh R I Q :=
  m_st h (fun hs _ => (ok1 hs).2) (by
    intro p e s m args below meth c Rm Z H locs cells slots ad ls hx hb hown hts hl hs hL k
    exact lv_pop hx hb hd (cv_1 hv) k)
theorem m_dup2 {v u : AV} (hd : decode μ.2.1 pc = .ok (.dup2, 1)) (hv : ∀ a, v ≠ vl a) (hu : ∀ a, u ≠ vl a) (h : T g d μ bc bs (pc + 1) L (v :: u :: v :: u :: st) sh R I Q) : T g d μ bc bs pc L (v :: u :: st) sh R I Q :=
  m_st h (fun hs _ => okc (ok2 hs).1 (okc (ok2 hs).2.1 hs)) (by
    intro p e s m args below meth c Rm Z H locs cells slots ad ls hx hb hown hts hl hs hL k
    exact lv_dup2_11 hx hb hd (cv_1 hv) (cv_1 hu) k)
theorem m_if_eq {a : Int} {off : Int} {tgt : Nat} (hd : decode μ.2.1 pc = .ok (.ifCond .eq off, 3)) (ht : (pc : Int) + off = (tgt : Int)) (kt : a = 0 → T g d μ bc bs tgt L st sh R I Q) (kf : ¬ (a = 0) → T g d μ bc bs (pc + 3) L st sh R I Q) : T g d μ bc bs pc L (vi a :: st) sh R I Q := by
  intro p e s m args below meth c Rm Z ad0 sh0 mc ms O H locs cells slots ad ls N
  obtain ⟨n1, n2, n3, n4, n5, n6, n7, n8⟩ := N
  have ra : R32 a := (ok1 n4).1
  have e0 := r32_inj ra (show R32 0 by decide)
  refine lv_if_eq O.1.1 O.1.2.1 hd ht (fun q => ?_) (fun q => ?_)
  · exact kt (e0.mp q) p e s m args below meth c Rm Z ad0 sh0 mc ms O H locs cells slots ad ls ⟨n1, n2, n3, (ok1 n4).2, n5, n6, n7, n8⟩
  · exact kf (fun z => q (e0.mpr z)) p e s m args below meth c Rm Z ad0 sh0 mc ms O H locs cells slots ad ls ⟨n1, n2, n3, (ok1 n4).2, n5, n6, n7, n8⟩
theorem m_icmp_eq {a b : Int} {off : Int} {tgt : Nat} (hd : decode μ.2.1 pc = .ok (.if_icmp .eq off, 3)) (ht : (pc : Int) + off = (tgt : Int)) (kt : a = b → T g d μ bc bs tgt L st sh R I Q) (kf : ¬ (a = b) → T g d μ bc bs (pc + 3) L st sh R I Q) : T g d μ bc bs pc L (vi b :: vi a :: st) sh R I Q := by
  intro p e s m args below meth c Rm Z ad0 sh0 mc ms O H locs cells slots ad ls N
  obtain ⟨n1, n2, n3, n4, n5, n6, n7, n8⟩ := N
  have ra : R32 a := (ok2 n4).2.1
  have rb : R32 b := (ok2 n4).1
  have e0 := r32_inj ra rb
  refine lv_icmp_eq O.1.1 O.1.2.1 hd ht (fun q => ?_) (fun q => ?_)
  · exact kt (e0.mp q) p e s m args below meth c Rm Z ad0 sh0 mc ms O H locs cells slots ad ls ⟨n1, n2, n3, (ok2 n4).2.2, n5, n6, n7, n8⟩
  · exact kf (fun z => q (e0.mpr z)) p e s m args below meth c Rm Z ad0 sh0 mc ms O H locs cells slots ad ls ⟨n1, n2, n3, (ok2 n4).2.2, n5, n6, n7, n8⟩
theorem m_if_ne {a : Int} {off : Int} {tgt : Nat} (hd : decode μ.2.1 pc = .ok (.ifCond .ne off, 3)) (ht : (pc : Int) + off = (tgt : Int)) (kt : a ≠ 0 → T g d μ bc bs tgt L st sh R I Q) (kf : a = 0 → T g d μ bc bs (pc + 3) L st sh R I Q) : T g d μ bc bs pc L (vi a :: st) sh R I Q := by
  intro p e s m args below meth c Rm Z ad0 sh0 mc ms O H locs cells slots ad ls N
  obtain ⟨n1, n2, n3, n4, n5, n6, n7, n8⟩ := N
  have ra : R32 a := (ok1 n4).1
  have e0 := r32_inj ra (show R32 0 by decide)
  refine lv_if_ne O.1.1 O.1.2.1 hd ht (fun q => ?_) (fun q => ?_)
  · exact kt (fun z => q (e0.mpr z)) p e s m args below meth c Rm Z ad0 sh0 mc ms O H locs cells slots ad ls ⟨n1, n2, n3, (ok1 n4).2, n5, n6, n7, n8⟩
  · exact kf (e0.mp q) p e s m args below meth c Rm Z ad0 sh0 mc ms O H locs cells slots ad ls ⟨n1, n2, n3, (ok1 n4).2, n5, n6, n7, n8⟩
theorem m_icmp_ne {a b : Int} {off : Int} {tgt : Nat} (hd : decode μ.2.1 pc = .ok (.if_icmp .ne off, 3)) (ht : (pc : Int) + off = (tgt : Int)) (kt : a ≠ b → T g d μ bc bs tgt L st sh R I Q) (kf : a = b → T g d μ bc bs (pc + 3) L st sh R I Q) : T g d μ bc bs pc L (vi b :: vi a :: st) sh R I Q := by
  intro p e s m args below meth c Rm Z ad0 sh0 mc ms O H locs cells slots ad ls N
  obtain ⟨n1, n2, n3, n4, n5, n6, n7, n8⟩ := N
  have ra : R32 a := (ok2 n4).2.1
  have rb : R32 b := (ok2 n4).1
  have e0 := r32_inj ra rb
  refine lv_icmp_ne O.1.1 O.1.2.1 hd ht (fun q => ?_) (fun q => ?_)
  · exact kt (fun z => q (e0.mpr z)) p e s m args below meth c Rm Z ad0 sh0 mc ms O H locs cells slots ad ls ⟨n1, n2, n3, (ok2 n4).2.2, n5, n6, n7, n8⟩
  · exact kf (e0.mp q) p e s m args below meth c Rm Z ad0 sh0 mc ms O H locs cells slots ad ls ⟨n1, n2, n3, (ok2 n4).2.2, n5, n6, n7, n8⟩
theorem m_if_lt {a : Int} {off : Int} {tgt : Nat} (hd : decode μ.2.1 pc = .ok (.ifCond .lt off, 3)) (ht : (pc : Int) + off = (tgt : Int)) (kt : a < 0 → T g d μ bc bs tgt L st sh R I Q) (kf : ¬ (a < 0) → T g d μ bc bs (pc + 3) L st sh R I Q) : T g d μ bc bs pc L (vi a :: st) sh R I Q := by
  intro p e s m args below meth c Rm Z ad0 sh0 mc ms O H locs cells slots ad ls N
  obtain ⟨n1, n2, n3, n4, n5, n6, n7, n8⟩ := N
  have ra : R32 a := (ok1 n4).1
  have e0 := r32_lt ra (show R32 0 by decide)
  refine lv_if_lt O.1.1 O.1.2.1 hd ht (fun q => ?_) (fun q => ?_)
  · exact kt (e0.mp q) p e s m args below meth c Rm Z ad0 sh0 mc ms O H locs cells slots ad ls ⟨n1, n2, n3, (ok1 n4).2, n5, n6, n7, n8⟩
  · exact kf (fun z => q (e0.mpr z)) p e s m args below meth c Rm Z ad0 sh0 mc ms O H locs cells slots ad ls ⟨n1, n2, n3, (ok1 n4).2, n5, n6, n7, n8⟩
theorem m_icmp_lt {a b : Int} {off : Int} {tgt : Nat} (hd : decode μ.2.1 pc = .ok (.if_icmp .lt off, 3)) (ht : (pc : Int) + off = (tgt : Int)) (kt : a < b → T g d μ bc bs tgt L st sh R I Q) (kf : ¬ (a < b) → T g d μ bc bs (pc + 3) L st sh R I Q) : T g d μ bc bs pc L (vi b :: vi a :: st) sh R I Q := by
  intro p e s m args below meth c Rm Z ad0 sh0 mc ms O H locs cells slots ad ls N
  obtain ⟨n1, n2, n3, n4, n5, n6, n7, n8⟩ := N
  have ra : R32 a := (ok2 n4).2.1
  have rb : R32 b := (ok2 n4).1
  have e0 := r32_lt ra rb
  refine lv_icmp_lt O.1.1 O.1.2.1 hd ht (fun q => ?_) (fun q => ?_)
  · exact kt (e0.mp q) p e s m args below meth c Rm Z ad0 sh0 mc ms O H locs cells slots ad ls ⟨n1, n2, n3, (ok2 n4).2.2, n5, n6, n7, n8⟩
  · exact kf (fun z => q (e0.mpr z)) p e s m args below meth c Rm Z ad0 sh0 mc ms O H locs cells slots ad ls ⟨n1, n2, n3, (ok2 n4).2.2, n5, n6, n7, n8⟩
theorem m_if_ge {a : Int} {off : Int} {tgt : Nat} (hd : decode μ.2.1 pc = .ok (.ifCond .ge off, 3)) (ht : (pc : Int) + off = (tgt : Int)) (kt : 0 ≤ a → T g d μ bc bs tgt L st sh R I Q) (kf : ¬ (0 ≤ a) → T g d μ bc bs (pc + 3) L st sh R I Q) : T g d μ bc bs pc L (vi a :: st) sh R I Q := by
  intro p e s m args below meth c Rm Z ad0 sh0 mc ms O H locs cells slots ad ls N
  obtain ⟨n1, n2, n3, n4, n5, n6, n7, n8⟩ := N
  have ra : R32 a := (ok1 n4).1
  have e0 := r32_le (show R32 0 by decide) ra
  refine lv_if_ge O.1.1 O.1.2.1 hd ht (fun q => ?_) (fun q => ?_)
  · exact kt (e0.mp q) p e s m args below meth c Rm Z ad0 sh0 mc ms O H locs cells slots ad ls ⟨n1, n2, n3, (ok1 n4).2, n5, n6, n7, n8⟩
  · exact kf (fun z => q (e0.mpr z)) p e s m args below meth c Rm Z ad0 sh0 mc ms O H locs cells slots ad ls ⟨n1, n2, n3, (ok1 n4).2, n5, n6, n7, n8⟩
theorem m_icmp_ge {a b : Int} {off : Int} {tgt : Nat} (hd : decode μ.2.1 pc = .ok (.if_icmp .ge off, 3)) (ht : (pc : Int) + off = (tgt : Int)) (kt : b ≤ a → T g d μ bc bs tgt L st sh R I Q) (kf : ¬ (b ≤ a) → T g d μ bc bs (pc + 3) L st sh R I Q) : T g d μ bc bs pc L (vi b :: vi a :: st) sh R I Q := by
  intro p e s m args below meth c Rm Z ad0 sh0 mc ms O H locs cells slots ad ls N
  obtain ⟨n1, n2, n3, n4, n5, n6, n7, n8⟩ := N
  have ra : R32 a := (ok2 n4).2.1
  have rb : R32 b := (ok2 n4).1
  have e0 := r32_le rb ra
  refine lv_icmp_ge O.1.1 O.1.2.1 hd ht (fun q => ?_) (fun q => ?_)
  · exact kt (e0.mp q) p e s m args below meth c Rm Z ad0 sh0 mc ms O H locs cells slots ad ls ⟨n1, n2, n3, (ok2 n4).2.2, n5, n6, n7, n8⟩
  · exact kf (fun z => q (e0.mpr z)) p e s m args below meth c Rm Z ad0 sh0 mc ms O H locs cells slots ad ls ⟨n1, n2, n3, (ok2 n4).2.2, n5, n6, n7, n8⟩
theorem m_if_gt {a : Int} {off : Int} {tgt : Nat} (hd : decode μ.2.1 pc = .ok (.ifCond .gt off, 3)) (ht : (pc : Int) + off = (tgt : Int)) (kt : 0 < a → T g d μ bc bs tgt L st sh R I Q) (kf : ¬ (0 < a) → T g d μ bc bs (pc + 3) L st sh R I Q) : T g d μ bc bs pc L (vi a :: st) sh R I Q := by
  intro p e s m args below meth c Rm Z ad0 sh0 mc ms O H locs cells slots ad ls N
  obtain ⟨n1, n2, n3, n4, n5, n6, n7, n8⟩ := N
  have ra : R32 a := (ok1 n4).1
  have e0 := r32_lt (show R32 0 by decide) ra
  refine lv_if_gt O.1.1 O.1.2.1 hd ht (fun q => ?_) (fun q => ?_)
  · exact kt (e0.mp q) p e s m args below meth c Rm Z ad0 sh0 mc ms O H locs cells slots ad ls ⟨n1, n2, n3, (ok1 n4).2, n5, n6, n7, n8⟩
  · exact kf (fun z => q (e0.mpr z)) p e s m args below meth c Rm Z ad0 sh0 mc ms O H locs cells slots ad ls ⟨n1, n2, n3, (ok1 n4).2, n5, n6, n7, n8⟩
theorem m_icmp_gt {a b : Int} {off : Int} {tgt : Nat} (hd : decode μ.2.1 pc = .ok (.if_icmp .gt off, 3)) (ht : (pc : Int) + off = (tgt : Int)) (kt : b < a → T g d μ bc bs tgt L st sh R I Q) (kf : ¬ (b < a) → T g d μ bc bs (pc + 3) L st sh R I Q) : T g d μ bc bs pc L (vi b :: vi a :: st) sh R I Q := by
  intro p e s m args below meth c Rm Z ad0 sh0 mc ms O H locs cells slots ad ls N
  obtain ⟨n1, n2, n3, n4, n5, n6, n7, n8⟩ := N
  have ra : R32 a := (ok2 n4).2.1
  have rb : R32 b := (ok2 n4).1
  have e0 := r32_lt rb ra
  refine lv_icmp_gt O.1.1 O.1.2.1 hd ht (fun q => ?_) (fun q => ?_)
  · exact kt (e0.mp q) p e s m args below meth c Rm Z ad0 sh0 mc ms O H locs cells slots ad ls ⟨n1, n2, n3, (ok2 n4).2.2, n5, n6, n7, n8⟩
  · exact kf (fun z => q (e0.mpr z)) p e s m args below meth c Rm Z ad0 sh0 mc ms O H locs cells slots ad ls ⟨n1, n2, n3, (ok2 n4).2.2, n5, n6, n7, n8⟩
theorem m_if_le {a : Int} {off : Int} {tgt : Nat} (hd : decode μ.2.1 pc = .ok (.ifCond .le off, 3)) (ht : (pc : Int) + off = (tgt : Int)) (kt : a ≤ 0 → T g d μ bc bs tgt L st sh R I Q) (kf : ¬ (a ≤ 0) → T g d μ bc bs (pc + 3) L st sh R I Q) : T g d μ bc bs pc L (vi a :: st) sh R I Q := by
  intro p e s m args below meth c Rm Z ad0 sh0 mc ms O H locs cells slots ad ls N
  obtain ⟨n1, n2, n3, n4, n5, n6, n7, n8⟩ := N
  have ra : R32 a := (ok1 n4).1
  have e0 := r32_le ra (show R32 0 by decide)
  refine lv_if_le O.1.1 O.1.2.1 hd ht (fun q => ?_) (fun q => ?_)
  · exact kt (e0.mp q) p e s m args below meth c Rm Z ad0 sh0 mc ms O H locs cells slots ad ls ⟨n1, n2, n3, (ok1 n4).2, n5, n6, n7, n8⟩
  · exact kf (fun z => q (e0.mpr z)) p e s m args below meth c Rm Z ad0 sh0 mc ms O H locs cells slots ad ls ⟨n1, n2, n3, (ok1 n4).2, n5, n6, n7, n8⟩
theorem m_icmp_le {a b : Int} {off : Int} {tgt : Nat} (hd : decode μ.2.1 pc = .ok (.if_icmp .le off, 3)) (ht : (pc : Int) + off = (tgt : Int)) (kt : a ≤ b → T g d μ bc bs tgt L st sh R I Q) (kf : ¬ (a ≤ b) → T g d μ bc bs (pc + 3) L st sh R I Q) : T g d μ bc bs pc L (vi b :: vi a :: st) sh R I Q := by
  intro p e s m args below meth c Rm Z ad0 sh0 mc ms O H locs cells slots ad ls N
  obtain ⟨n1, n2, n3, n4, n5, n6, n7, n8⟩ := N
  have ra : R32 a := (ok2 n4).2.1
  have rb : R32 b := (ok2 n4).1
  have e0 := r32_le ra rb
  refine lv_icmp_le O.1.1 O.1.2.1 hd ht (fun q => ?_) (fun q => ?_)
  · exact kt (e0.mp q) p e s m args below meth c Rm Z ad0 sh0 mc ms O H locs cells slots ad ls ⟨n1, n2, n3, (ok2 n4).2.2, n5, n6, n7, n8⟩
  · exact kf (fun z => q (e0.mpr z)) p e s m args below meth c Rm Z ad0 sh0 mc ms O H locs cells slots ad ls ⟨n1, n2, n3, (ok2 n4).2.2, n5, n6, n7, n8⟩
theorem m_goto {off : Int} {tgt : Nat} (hd : decode μ.2.1 pc = .ok (.goto off, 3)) (ht : (pc : Int) + off = (tgt : Int)) (h : T g d μ bc bs tgt L st sh R I Q) : T g d μ bc bs pc L st sh R I Q :=
  m_st h (fun hs _ => hs) (by
    intro p e s m args below meth c Rm Z H locs cells slots ad ls hx hb hown hts hl hs hL k
    exact lv_goto hx hb hd ht k)
theorem m_ifnull {k0 : Nat} {off : Int} (hd : decode μ.2.1 pc = .ok (.ifnull off, 3)) (h : T g d μ bc bs (pc + 3) L st sh R I Q) : T g d μ bc bs pc L (vr k0 :: st) sh R I Q :=
  m_st h (fun hs _ => (ok1 hs).2) (by
    intro p e s m args below meth c Rm Z H locs cells slots ad ls hx hb hown hts hl hs hL k
    exact lv_ifnull hx hb hd k)
theorem m_ifnullN {off : Int} {tgt : Nat} (hd : decode μ.2.1 pc = .ok (.ifnull off, 3)) (ht : (pc : Int) + off = (tgt : Int)) (h : T g d μ bc bs tgt L st sh R I Q) : T g d μ bc bs pc L (vn :: st) sh R I Q :=
  m_st h (fun hs _ => (ok1 hs).2) (by
    intro p e s m args below meth c Rm Z H locs cells slots ad ls hx hb hown hts hl hs hL k
    exact lv_ifnullN hx hb hd ht k)
theorem m_tableOut {dflt lo hi : Int} {offs : Array Int} {len tgt : Nat} {a : Int} (hd : decode μ.2.1 pc = .ok (.tableswitch dflt lo hi offs, len)) (hq : a < lo ∨ hi < a) (ht : (pc : Int) + dflt = (tgt : Int)) (h : T g d μ bc bs tgt L st sh R I Q) : T g d μ bc bs pc L (vi a :: st) sh R I Q :=
  m_st h (fun hs _ => (ok1 hs).2) (by
    intro p e s m args below meth c Rm Z H locs cells slots ad ls hx hb hown hts hl hs hL k
    exact lv_tableOut hx hb hd (by rw [r32_toInt (ok1 hs).1]; exact hq) ht k)
theorem m_tableIn {dflt lo hi off : Int} {offs : Array Int} {len tgt : Nat} {a : Int} (j : Int) (hd : decode μ.2.1 pc = .ok (.tableswitch dflt lo hi offs, len)) (hj : a = j) (h1 : lo ≤ j) (h2 : j ≤ hi) (ho : offs[(j - lo).toNat]? = some off) (ht : (pc : Int) + off = (tgt : Int)) (h : T g d μ bc bs tgt L st sh R I Q) : T g d μ bc bs pc L (vi a :: st) sh R I Q := by
  subst hj
  exact m_st h (fun hs _ => (ok1 hs).2) (by
    intro p e s m args below meth c Rm Z H locs cells slots ad ls hx hb hown hts hl hs hL k
    have e := r32_toInt (ok1 hs).1
    exact lv_tableIn hx hb hd (by rw [e]; omega) (by rw [e]; omega) (by rw [e]; exact ho) ht k)
theorem m_ret {rv : Option AV} {ins : Instr} (hd : decode μ.2.1 pc = .ok (ins, 1)) (hi : retI μ.2.2.2 rv ins) (hs : rv.toList = st) (h : Q rv sh R I) : T g d μ bc bs pc L st sh R I Q := by
  intro p e s m args below meth c Rm Z ad0 sh0 mc ms O H locs cells slots ad ls N
  obtain ⟨n1, n2, n3, n4, n5, n6, n7, n8⟩ := N
  have h9 := O.2.2 rv sh R I ad H locs cells slots ls pc ins hd hi h n3 (fun v hv => n4 v (by rw [← hs, hv]; exact List.mem_cons_self)) n7 n8 (by omega) (by omega)
  rw [← hs]
  cases rv <;> exact h9
theorem m_iret {a : Int} (hd : decode μ.2.1 pc = .ok (.ireturn, 1)) (hr : μ.2.2.2 = some .int) (h : Q (some (vi a)) sh R I) : T g d μ bc bs pc L [vi a] sh R I Q := m_ret (rv := some (vi a)) hd (Or.inr (Or.inl ⟨_, _, hr, rfl, rfl, vp_nar_int _⟩)) rfl h
theorem m_zret {a : Int} (hd : decode μ.2.1 pc = .ok (.ireturn, 1)) (hr : μ.2.2.2 = some .boolean) (ha : a = 0 ∨ a = 1) (h : Q (some (vi a)) sh R I) : T g d μ bc bs pc L [vi a] sh R I Q := m_ret (rv := some (vi a)) hd (Or.inr (Or.inl ⟨_, _, hr, rfl, rfl, by rcases ha with rfl | rfl <;> decide⟩)) rfl h
theorem m_vret (hd : decode μ.2.1 pc = .ok (.return_, 1)) (hr : μ.2.2.2 = none) (h : Q none sh R I) : T g d μ bc bs pc L [] sh R I Q := m_ret (rv := none) hd (Or.inl ⟨hr, rfl, rfl⟩) rfl h
theorem m_aret {o : Option Nat} {n : String} (hd : decode μ.2.1 pc = .ok (.areturn, 1)) (hr : μ.2.2.2 = some (.object n)) (h : Q (some (vq o)) sh R I) : T g d μ bc bs pc L [vq o] sh R I Q := m_ret (rv := some (vq o)) hd (Or.inr (Or.inr ⟨_, _, hr, rfl, rfl⟩)) rfl h
end
