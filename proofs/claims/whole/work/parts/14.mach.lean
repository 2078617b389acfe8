/-! THE ABSTRACT MACHINE, 5: a method's contract, calls -/
def rmT (d bc bs : Nat) : Room := { frames := d, cells := bc, slots := bs, locals := 60 * d }
def Qt (g : GH) (ad0 : Nat → Nat) (sh0 : SH) (Q : QT) : Array Value → State → Outcome → State → Prop := fun _ st o t =>
  (∃ (rv : Option AV) (sh : SH) (R : RR) (I : II) (ad : Nat → Nat), o = .returned (rv.map (cv ad)) ∧ Q rv sh R I ∧ Rep g ad sh R I t.heap ∧ (∀ v, rv = some v → okA sh v) ∧ Ext ad0 sh0 ad sh) ∧ va_F (gA g) st t
def Pt' (g : GH) (ad : Nat → Nat) (as : List AV) (sh : SH) (R : RR) (I : II) : Array Value → State → Prop := fun a U => a = (as.map (cv ad)).toArray ∧ Rep g ad sh R I U.heap ∧ St g U ∧ ∀ v ∈ as, okA sh v
/-- the contract: method μ, with d frames left and bc cells of bs slots to make, on these arguments and this memory, comes to its end with Q -/
def C (g : GH) (d : Nat) (μ : MT) (bc bs : Nat) (as : List AV) (sh : SH) (R : RR) (I : II) (Q : QT) : Prop :=
  ∀ ad, Met (gL g) μ.1 (WT μ) (rmT d bc bs) (Pt' g ad as sh R I) (Qt g ad sh Q) bc bs (gA g)
theorem Pt'.blind {g : GH} {ad : Nat → Nat} {as : List AV} {sh : SH} {R : RR} {I : II} : FrameBlind (Pt' g ad as sh R I) := by
  intro a U f mk h
  exact ⟨h.1, h.2.1, h.2.2.1.same rfl rfl, h.2.2.2⟩
/-- the locals at a method's entry -/
def enL : List AV → List (Option AV)
  | [] => []
  | .inr (.inl a) :: r => some (.inr (.inl a)) :: none :: enL r
  | .inl a :: r => some (.inl a) :: enL r
  | .inr (.inr o) :: r => some (.inr (.inr o)) :: enL r
theorem enL_len {ad : Nat → Nat} : ∀ as : List AV, (lg_sl (as.map (cv ad))).length = (enL as).length
  | [] => rfl
  | .inr (.inl a) :: r => by
    have := enL_len (ad := ad) r
    simp only [lg_sl, List.map_cons, List.flatMap_cons, List.length_append, enL, List.length_cons] at this ⊢
    rw [this]
    simp [cv, Value.category]
    omega
  | .inl a :: r => by
    have := enL_len (ad := ad) r
    simp only [lg_sl, List.map_cons, List.flatMap_cons, List.length_append, enL, List.length_cons] at this ⊢
    rw [this]
    simp [cv, Value.category]
    omega
  | .inr (.inr o) :: r => by
    have := enL_len (ad := ad) r
    simp only [lg_sl, List.map_cons, List.flatMap_cons, List.length_append, enL, List.length_cons] at this ⊢
    rw [this]
    cases o <;> simp [cv, va_rf, Value.category] <;> omega
theorem enL_at {ad : Nat → Nat} : ∀ (as : List AV) (i k : Nat) (v : AV), (enL as)[k]? = some (some v) → (i + k, cv ad v) ∈ lv_args i (as.map (cv ad))
  | [], i, k, v, h => by simp [enL] at h
  | .inr (.inl a) :: r, i, k, v, h => by
    simp only [List.map_cons, lv_args]
    match k, h with
    | 0, h => cases h; exact List.mem_cons_self
    | 1, h => cases h
    | k + 2, h =>
      have := enL_at (ad := ad) r (i + 2) k v h
      rw [show i + (k + 2) = i + 2 + k by omega]
      refine List.mem_cons_of_mem _ ?_
      rw [if_pos (show (cv ad (.inr (.inl a))).category = 2 from rfl)]
      exact this
  | .inl a :: r, i, k, v, h => by
    simp only [List.map_cons, lv_args]
    match k, h with
    | 0, h => cases h; exact List.mem_cons_self
    | k + 1, h =>
      have := enL_at (ad := ad) r (i + 1) k v h
      rw [show i + (k + 1) = i + 1 + k by omega]
      refine List.mem_cons_of_mem _ ?_
      rw [if_neg (by intro z; cases z)]
      exact this
  | .inr (.inr o) :: r, i, k, v, h => by
    simp only [List.map_cons, lv_args]
    match k, h with
    | 0, h => cases h; exact List.mem_cons_self
    | k + 1, h =>
      have := enL_at (ad := ad) r (i + 1) k v h
      rw [show i + (k + 1) = i + 1 + k by omega]
      refine List.mem_cons_of_mem _ ?_
      rw [if_neg (by cases o <;> (intro z; cases z))]
      exact this
theorem enL_ok {sh : SH} : ∀ (as : List AV) (v : AV), some v ∈ enL as → v ∈ as
  | [], v, h => by simp [enL] at h
  | .inr (.inl a) :: r, v, h => by
    simp only [enL, List.mem_cons] at h
    rcases h with h | h | h
    · cases h; exact List.mem_cons_self
    · cases h
    · exact List.mem_cons_of_mem _ (enL_ok (sh := sh) r v h)
  | .inl a :: r, v, h => by
    simp only [enL, List.mem_cons] at h
    rcases h with h | h
    · cases h; exact List.mem_cons_self
    · exact List.mem_cons_of_mem _ (enL_ok (sh := sh) r v h)
  | .inr (.inr o) :: r, v, h => by
    simp only [enL, List.mem_cons] at h
    rcases h with h | h
    · cases h; exact List.mem_cons_self
    · exact List.mem_cons_of_mem _ (enL_ok (sh := sh) r v h)
theorem C_of {g : GH} {d : Nat} {μ : MT} {bc bs : Nat} {as : List AV} {sh : SH} {R : RR} {I : II} {Q : QT} {L : List (Option AV)} (hy : plainName μ.1.cls = true) (hn : (enL as).length ≤ μ.2.2.1) (hL : enL as ++ List.replicate (μ.2.2.1 - (enL as).length) none = L)
    (h : T g d μ bc bs 0 L [] sh R I Q) : C g d μ bc bs as sh R I Q := by
  subst hL
  intro ad
  refine Met.ofW (cc := μ.2.1) (maxL := μ.2.2.1) (ret := μ.2.2.2) hy rfl ?_
  intro p e s m args below meth c s₁ B hml hv
  obtain ⟨rfl, hR, hSt, hok⟩ := hv
  rw [lg_entry_eq]
  have hle := lv_entry (as.map (cv ad)) (n := μ.2.2.1) (by rw [enL_len]; exact hn)
  refine h p e s m _ below meth c (rmT d bc bs) _ ad sh bc bs ⟨⟨B.exec, B.bytes, hml, (name_of_methodNamed B.named B.method).1, findClass_of_methodNamed B.named, atoms_spec (ws := WT μ) B.pre, hSt⟩, ⟨Nat.le_refl _, Nat.le_refl _, Nat.le_refl _, Nat.le_refl _⟩, ?_⟩ s.heap [] 0 0 ad _ ⟨by omega, by omega, hR, (fun v hv => by cases hv), (fun v hv => ?_), ⟨hle.1, hle.2.1, fun q hq => ?_⟩, Ext.rf ad sh, va_S.rf⟩
  · intro rv sh' R' I' ad' H locs cells slots ls pc ins hd hi hq hrep hrv hext hS hc hs
    have hr := B.returns
    have hlocks := B.notSynchronized
    refine W.widen (k := bc) (n := bs) hc hs ?_
    have hQ : ∀ t : State, t.heap = H → Qt g ad sh Q (as.map (cv ad)).toArray s (.returned (rv.map (cv ad'))) t := fun t ht => ⟨⟨rv, sh', R', I', ad', rfl, hq, by rw [ht]; exact hrep, hrv, hext⟩, hS.F ht⟩
    rcases hi with ⟨h1, rfl, rfl⟩ | ⟨ty, a, h1, rfl, rfl, h4⟩ | ⟨n, o, h1, rfl, rfl⟩
    · exact W.vret B.exec B.bytes (hr.trans h1) (fun t ht _ => hQ t ht) hS.2.2 hd
    · exact W.zret B.exec B.bytes (hr.trans h1) h4 (fun t ht _ => hQ t ht) hS.2.2 hd
    · exact W.aret B.exec B.bytes (hr.trans h1) (Or.inl ⟨n, rfl⟩) (by cases o with | none => exact Or.inl rfl | some k => exact Or.inr ⟨_, rfl⟩) (fun t ht _ => hQ t ht) hS.2.2 hd
  · rcases List.mem_append.mp hv with h1 | h1
    · exact hok v (enL_ok (sh := sh) as v h1)
    · have := List.eq_of_mem_replicate h1
      cases this
  · obtain ⟨k, w⟩ := q
    obtain ⟨v, hv, rfl⟩ := lof_mem.mp hq
    refine hle.2.2 (k, cv ad v) ?_
    have hv2 : (enL as)[k]? = some (some v) := by
      by_cases hk : k < (enL as).length
      · rwa [List.getElem?_append_left hk] at hv
      · rw [List.getElem?_append_right (by omega)] at hv
        have h9 := List.eq_of_mem_replicate (List.mem_of_getElem? hv)
        cases h9
    have := enL_at (ad := ad) as 0 k v hv2
    rwa [Nat.zero_add] at this
def ctg : List AV → Nat
  | [] => 0
  | .inr (.inl _) :: r => 2 + ctg r
  | .inl _ :: r => 1 + ctg r
  | .inr (.inr _) :: r => 1 + ctg r
theorem ctg_eq {ad : Nat → Nat} : ∀ st : List AV, ((st.map (cv ad)).map fun v => v.category).sum = ctg st
  | [] => rfl
  | .inr (.inl a) :: r => by
    have := ctg_eq (ad := ad) r
    simp only [List.map_cons, List.sum_cons, ctg, this]
    rfl
  | .inl a :: r => by
    have := ctg_eq (ad := ad) r
    simp only [List.map_cons, List.sum_cons, ctg, this]
    rfl
  | .inr (.inr o) :: r => by
    have := ctg_eq (ad := ad) r
    simp only [List.map_cons, List.sum_cons, ctg, this]
    cases o <;> rfl
section
variable {g : GH} {d : Nat} {μ : MT} {bc bs pc : Nat} {L : List (Option AV)} {st : List AV} {sh : SH} {R : RR} {I : II} {Q : QT}
/-- behind a call: the callee's Q is the way on from there -/
theorem m_run {p : Program} {e : Env} {s : State} {m : MethodId} {args : Array Value} {below : List Frame} {meth : Method} {c0 : Code} {Rm : Room} {Z : State → Prop} {ad0 : Nat → Nat} {sh0 : SH} {mc ms : Nat} {H : Heap} {locs : List Loc} {cells slots : Nat} {ad : Nat → Nat} {ls : Array Slot} {bc' bs' : Nat} {stk : List Value} {a : Array Value}
    (O : Ok g d μ Q p e s m args below meth c0 Rm Z ad0 sh0 mc ms) (h1 : cells + bc' ≤ cells + bc) (h2 : slots + bs' ≤ slots + bs) (n1 : cells + bc ≤ mc) (n2 : slots + bs ≤ ms) (n4 : ∀ v ∈ st, okA sh v) (n5 : ∀ v, some v ∈ L → okA sh v) (n6 : LR ad ls μ.2.2.1 L) (n7 : Ext ad0 sh0 ad sh) (n8 : va_S (gA g) s.heap H locs)
    (hr : va_Run p (gL g) e Rm s m args below meth c0 H locs cells slots bc' bs' (F0 m pc ls stk) (st.map (cv ad)) (Qt g ad sh (fun rv sh' R' I' => T g d μ (bc - bc') (bs - bs') (pc + 3) L (rv.toList ++ st) sh' R' I' Q) a) (gA g)) :
    W p (gL g) e Rm s m args below meth c0 H locs cells slots Z (F0 m pc ls stk) := by
  intro T0 hT X
  obtain ⟨v, st₀, t, T', Lc, q0, X', hLc, e1, e2, ⟨⟨rv, sh', R', I', ad', hv, hq, hrep, hok, hext⟩, hz, hk⟩, go⟩ := hr T0 hT X
  cases hv
  rw [q0] at hz hk
  have K := hq p e s m args below meth c0 Rm Z ad0 sh0 mc ms O T'.heap (locs ++ Lc) (cells + bc') (slots + bs') ad' ls ⟨by omega, by omega, by rw [e1]; exact hrep, fun v hv => by
      rcases List.mem_append.mp hv with h9 | h9
      · exact hok v (by cases rv with | none => cases h9 | some z => rw [List.mem_singleton.mp h9])
      · exact (cv_ext hext (n4 v h9)).2, fun v hv => (cv_ext hext (n5 v hv)).2, n6.ext hext n5, n7.tr hext, ⟨Nat.le_trans n8.1 (by rw [e1]; exact hz), fun q h3 h4 => by rw [e1, hk q (Nat.lt_of_lt_of_le h3 n8.1) h4]; exact n8.2.1 q h3 h4, fun q hq => by
      rcases List.mem_append.mp hq with h9 | h9
      · exact n8.2.2 q h9
      · exact hLc q h9⟩⟩
  obtain ⟨t2, a1, b1⟩ := K T' rfl X'
  refine ⟨t2, go t2 ?_, b1⟩
  have em : (rv.toList ++ st).map (cv ad') = (rv.map (cv ad')).toList ++ st.map (cv ad) := by
    rw [List.map_append, map_ext hext n4]
    cases rv <;> rfl
  rw [em] at a1
  exact a1
/-- what the tables say of a call's target -/
def CLb (ν : MT) (n : Nat) : Prop := Cond.initialized ν.1.cls ∈ lw_tbl ∧ Cond.code ν.1 ν.2.1 ν.2.2.1 ν.2.2.2 ∈ lw_tbl ∧ (ν.1.cls ≠ "java/lang/invoke/MethodHandle" ∧ ν.1.cls ≠ "java/lang/invoke/VarHandle" ∧ (parseMethodDescriptor ν.1.desc).map (fun d => d.parameters.length) = some n) ∧ ν.2.2.1 ≤ 40
def CLV (own : String) (i c : Nat) (ν : MT) (n : Nat) : Prop := c < 13 ∧ CLb ν n ∧ Cond.methodLink own i ν.1 ∈ lw_tbl ∧ Cond.instanceMethod ν.1 ∈ lw_tbl ∧ Cond.selects (clR c) ν.1 ν.1 ∈ lw_tbl
def CLS (own : String) (i : Nat) (ν : MT) (n : Nat) : Prop := CLb ν n ∧ Cond.methodLink own i ν.1 ∈ lw_tbl ∧ Cond.static ν.1 ∈ lw_tbl
def CLSN (own : String) (i : Nat) (ν : MT) (n : Nat) : Prop := CLb ν n ∧ Cond.methodLinkNest own i ν.1 RX11 ∈ lw_tbl ∧ Cond.static ν.1 ∈ lw_tbl
def CLI (own : String) (i : Nat) (ν : MT) (n : Nat) : Prop := CLb ν n ∧ Cond.methodLink own i ν.1 ∈ lw_tbl ∧ Cond.instanceMethod ν.1 ∈ lw_tbl ∧ ν.1.name = "<init>" ∧ ν.2.2.2 = none
def CLIN (own : String) (i : Nat) (ν : MT) (n : Nat) : Prop := CLb ν n ∧ Cond.methodLinkNest own i ν.1 RX11 ∈ lw_tbl ∧ Cond.instanceMethod ν.1 ∈ lw_tbl ∧ ν.1.name = "<init>" ∧ ν.2.2.2 = none
theorem pre_of {ad ad0 : Nat → Nat} {sh0 : SH} {as : List AV} {p : Program} {e : Env} {s : State} {m : MethodId} {args : Array Value} {below : List Frame} {meth : Method} {c0 : Code} {Rm : Room} {Z : State → Prop} {mc ms : Nat} {H : Heap} {locs : List Loc} (O : Ok g d μ Q p e s m args below meth c0 Rm Z ad0 sh0 mc ms) (n3 : Rep g ad sh R I H) (n8 : va_S (gA g) s.heap H locs) (ha : ∀ v ∈ as, okA sh v) : ∀ U : State, U.heap = H → s.WarmedH U.vm → Pt' g ad as sh R I (as.map (cv ad)).toArray U := fun U hU hW => ⟨rfl, by rw [hU]; exact n3, O.1.2.2.2.2.2.2.warm n8 hW hU, ha⟩
theorem rev_ok {as st stk : List AV} {b : Nat} (hs : stk = as.reverse ++ vr b :: st) (h : ∀ v ∈ stk, okA sh v) : (∀ v ∈ vr b :: as, okA sh v) ∧ ∀ v ∈ st, okA sh v := by
  subst hs
  refine ⟨fun v hv => h v ?_, fun v hv => h v (List.mem_append_right _ (List.mem_cons_of_mem _ hv))⟩
  rcases List.mem_cons.mp hv with e | e
  · rw [e]; exact List.mem_append_right _ List.mem_cons_self
  · exact List.mem_append_left _ (List.mem_reverse.mpr e)
theorem rev_okS {as st stk : List AV} (hs : stk = as.reverse ++ st) (h : ∀ v ∈ stk, okA sh v) : (∀ v ∈ as, okA sh v) ∧ ∀ v ∈ st, okA sh v := by
  subst hs
  exact ⟨fun v hv => h v (List.mem_append_left _ (List.mem_reverse.mpr hv)), fun v hv => h v (List.mem_append_right _ hv)⟩
theorem m_callV {i c b d' bc' bs' n : Nat} {ν : MT} {stk : List AV} (as : List AV) (hd : decode μ.2.1 pc = .ok (.invokevirtual i, 3)) (hl : CLV μ.1.cls i c ν n) (hn : as.length = n) (ho : (sh b).1 = c + 1) (hs : stk = as.reverse ++ vr b :: st) (hg : ctg st ≤ 8) (hdd : d' < d) (hb1 : bc' ≤ bc) (hb2 : bs' ≤ bs)
    (h : C g d' ν bc' bs' (vr b :: as) sh R I (fun rv sh' R' I' => T g d μ (bc - bc') (bs - bs') (pc + 3) L (rv.toList ++ st) sh' R' I' Q)) : T g d μ bc bs pc L stk sh R I Q := by
  intro p e s m args below meth c0 Rm Z ad0 sh0 mc ms O H locs cells slots ad ls N
  obtain ⟨n1, n2, n3, n4, n5, n6, n7, n8⟩ := N
  obtain ⟨hc, ⟨w1, w2, w3, w4⟩, w5, w6, w7⟩ := hl
  obtain ⟨ha, hst⟩ := rev_ok hs n4
  have hts := O.1.2.2.2.2.2.1
  have ok : ∀ w, w ∈ lw_tbl → goodWord w = true → w.before args s = true := fun w h1 h2 => hts w (List.mem_cons_of_mem _ (lwG_of h1 h2))
  obtain ⟨dom, d1, d2, hP, hD, q, q1, q2⟩ := n3.dom ho (by omega) (by omega)
  rw [cel_obj hc] at q2
  have hr := va_recv O.1.2.2.2.2.2.2.1 hP (cl_at c hc) q2
  refine m_run O (by omega) (by omega) n1 n2 hst n5 n6 n7 n8 (va_runV (C := clR c) (b := ad b) (As := as.map (cv ad)) (bytes := ν.2.1) (maxL := ν.2.2.1) (ret := ν.2.2.2) (n := n) (own := μ.1.cls) (Ts := WT μ) ⟨O.1.1, O.1.2.1, O.1.2.2.1, O.1.2.2.2.2.1, hts⟩ (h ad) ⟨callB_of n hts (WT_good w2) rfl rfl rfl (ok _ w1 rfl) (ok _ w5 rfl) w3 ⟨by show d' + 1 ≤ Rm.frames; have := O.2.1.1; omega, by show 8 + (ν.2.2.1 + 11) + 60 * d' ≤ Rm.locals; have := O.2.1.2.1; omega⟩, ok _ w6 rfl, ok _ w7 rfl⟩ ⟨Pt'.blind, hr, pre_of O n3 n8 ha⟩ rfl (by rw [List.length_map]; exact hn) n6.1 ?_ ?_ hd ⟨by have := O.2.1.2.2.1; omega, by have := O.2.1.2.2.2; omega⟩)
  · show stk.map (cv ad) = _
    rw [hs, List.map_append, List.map_reverse]
    rfl
  · have := ctg_eq (ad := ad) st
    show 2 * _ + _ ≤ 8
    rw [this]
    exact (by simpa [JFrame.monitorRoom] using hg)
theorem m_callS {i d' bc' bs' n : Nat} {ν : MT} {stk : List AV} (as : List AV) (hd : decode μ.2.1 pc = .ok (.invokestatic i, 3)) (hl : CLS μ.1.cls i ν n) (hn : as.length = n) (hs : stk = as.reverse ++ st) (hg : ctg st ≤ 8) (hdd : d' < d) (hb1 : bc' ≤ bc) (hb2 : bs' ≤ bs)
    (h : C g d' ν bc' bs' as sh R I (fun rv sh' R' I' => T g d μ (bc - bc') (bs - bs') (pc + 3) L (rv.toList ++ st) sh' R' I' Q)) : T g d μ bc bs pc L stk sh R I Q := by
  intro p e s m args below meth c0 Rm Z ad0 sh0 mc ms O H locs cells slots ad ls N
  obtain ⟨n1, n2, n3, n4, n5, n6, n7, n8⟩ := N
  obtain ⟨⟨w1, w2, w3, w4⟩, w5, w6⟩ := hl
  obtain ⟨ha, hst⟩ := rev_okS hs n4
  have hts := O.1.2.2.2.2.2.1
  have ok : ∀ w, w ∈ lw_tbl → goodWord w = true → w.before args s = true := fun w h1 h2 => hts w (List.mem_cons_of_mem _ (lwG_of h1 h2))
  refine m_run O (by omega) (by omega) n1 n2 hst n5 n6 n7 n8 (va_runS (As := as.map (cv ad)) (bytes := ν.2.1) (maxL := ν.2.2.1) (ret := ν.2.2.2) (n := n) (own := μ.1.cls) (Ts := WT μ) ⟨O.1.1, O.1.2.1, O.1.2.2.1, O.1.2.2.2.2.1, hts⟩ (h ad) ⟨callB_of n hts (WT_good w2) rfl rfl rfl (ok _ w1 rfl) (ok _ w5 rfl) w3 ⟨by show d' + 1 ≤ Rm.frames; have := O.2.1.1; omega, by show 8 + (ν.2.2.1 + 11) + 60 * d' ≤ Rm.locals; have := O.2.1.2.1; omega⟩, ok _ w6 rfl⟩ ⟨Pt'.blind, pre_of O n3 n8 ha⟩ rfl (by rw [List.length_map]; exact hn) n6.1 ?_ ?_ hd ⟨by have := O.2.1.2.2.1; omega, by have := O.2.1.2.2.2; omega⟩)
  · show stk.map (cv ad) = _
    rw [hs, List.map_append, List.map_reverse]
  · have := ctg_eq (ad := ad) st
    show 2 * _ + _ ≤ 8
    rw [this]
    exact (by simpa [JFrame.monitorRoom] using hg)
theorem m_callSN {i d' bc' bs' n : Nat} {ν : MT} {stk : List AV} (as : List AV) (hd : decode μ.2.1 pc = .ok (.invokestatic i, 3)) (hl : CLSN μ.1.cls i ν n) (hn : as.length = n) (hs : stk = as.reverse ++ st) (hg : ctg st ≤ 8) (hdd : d' < d) (hb1 : bc' ≤ bc) (hb2 : bs' ≤ bs)
    (h : C g d' ν bc' bs' as sh R I (fun rv sh' R' I' => T g d μ (bc - bc') (bs - bs') (pc + 3) L (rv.toList ++ st) sh' R' I' Q)) : T g d μ bc bs pc L stk sh R I Q := by
  intro p e s m args below meth c0 Rm Z ad0 sh0 mc ms O H locs cells slots ad ls N
  obtain ⟨n1, n2, n3, n4, n5, n6, n7, n8⟩ := N
  obtain ⟨⟨w1, w2, w3, w4⟩, w5, w6⟩ := hl
  obtain ⟨ha, hst⟩ := rev_okS hs n4
  have hts := O.1.2.2.2.2.2.1
  have ok : ∀ w, w ∈ lw_tbl → goodWord w = true → w.before args s = true := fun w h1 h2 => hts w (List.mem_cons_of_mem _ (lwG_of h1 h2))
  refine m_run O (by omega) (by omega) n1 n2 hst n5 n6 n7 n8 (va_runSN (host := RX11) (As := as.map (cv ad)) (bytes := ν.2.1) (maxL := ν.2.2.1) (ret := ν.2.2.2) (n := n) (own := μ.1.cls) (Ts := WT μ) ⟨O.1.1, O.1.2.1, O.1.2.2.1, O.1.2.2.2.2.1, hts⟩ (h ad) ⟨va_cnB n hts (WT_good w2) rfl rfl rfl (O.1.2.2.2.2.2.2.2.2.1 _ (nest_of w5 rfl)) (ok _ w1 rfl) w3 ⟨by show d' + 1 ≤ Rm.frames; have := O.2.1.1; omega, by show 8 + (ν.2.2.1 + 11) + 60 * d' ≤ Rm.locals; have := O.2.1.2.1; omega⟩, ok _ w6 rfl, trivial⟩ ⟨Pt'.blind, pre_of O n3 n8 ha⟩ rfl (by rw [List.length_map]; exact hn) n6.1 ?_ ?_ hd ⟨by have := O.2.1.2.2.1; omega, by have := O.2.1.2.2.2; omega⟩)
  · show stk.map (cv ad) = _
    rw [hs, List.map_append, List.map_reverse]
  · have := ctg_eq (ad := ad) st
    show 2 * _ + _ ≤ 8
    rw [this]
    exact (by simpa [JFrame.monitorRoom] using hg)
theorem m_callI {i b d' bc' bs' n : Nat} {ν : MT} {stk : List AV} (as : List AV) (hd : decode μ.2.1 pc = .ok (.invokespecial i, 3)) (hl : CLI μ.1.cls i ν n) (hn : as.length = n) (hs : stk = as.reverse ++ vr b :: st) (hg : ctg st ≤ 8) (hdd : d' < d) (hb1 : bc' ≤ bc) (hb2 : bs' ≤ bs)
    (h : C g d' ν bc' bs' (vr b :: as) sh R I (fun rv sh' R' I' => T g d μ (bc - bc') (bs - bs') (pc + 3) L (rv.toList ++ st) sh' R' I' Q)) : T g d μ bc bs pc L stk sh R I Q := by
  intro p e s m args below meth c0 Rm Z ad0 sh0 mc ms O H locs cells slots ad ls N
  obtain ⟨n1, n2, n3, n4, n5, n6, n7, n8⟩ := N
  obtain ⟨⟨w1, w2, w3, w4⟩, w5, w6, w7, w8⟩ := hl
  obtain ⟨ha, hst⟩ := rev_ok hs n4
  have hts := O.1.2.2.2.2.2.1
  have ok : ∀ w, w ∈ lw_tbl → goodWord w = true → w.before args s = true := fun w h1 h2 => hts w (List.mem_cons_of_mem _ (lwG_of h1 h2))
  have hb := callB_of (R := Rm) (own := μ.1.cls) (index := i) (y := ν.1) (bytes := ν.2.1) (maxL := ν.2.2.1) (ret := ν.2.2.2) (rm := rmT d' bc' bs') (mc := bc') (ms := bs') n hts (WT_good w2) rfl rfl rfl (ok _ w1 rfl) (ok _ w5 rfl) w3 ⟨by show d' + 1 ≤ Rm.frames; have := O.2.1.1; omega, by show 8 + (ν.2.2.1 + 11) + 60 * d' ≤ Rm.locals; have := O.2.1.2.1; omega⟩
  rw [w8] at hb
  refine m_run O (by omega) (by omega) n1 n2 hst n5 n6 n7 n8 (va_runI (b := ad b) (As := as.map (cv ad)) (bytes := ν.2.1) (maxL := ν.2.2.1) (n := n) (own := μ.1.cls) (Ts := WT μ) ⟨O.1.1, O.1.2.1, O.1.2.2.1, O.1.2.2.2.2.1, hts⟩ (h ad) ⟨hb, w7, ok _ w6 rfl⟩ ⟨Pt'.blind, pre_of O n3 n8 ha⟩ rfl (by rw [List.length_map]; exact hn) n6.1 ?_ ?_ hd ⟨by have := O.2.1.2.2.1; omega, by have := O.2.1.2.2.2; omega⟩)
  · show stk.map (cv ad) = _
    rw [hs, List.map_append, List.map_reverse]
    rfl
  · have := ctg_eq (ad := ad) st
    show 2 * _ + _ ≤ 8
    rw [this]
    exact (by simpa [JFrame.monitorRoom] using hg)
theorem m_callIN {i b d' bc' bs' n : Nat} {ν : MT} {stk : List AV} (as : List AV) (hd : decode μ.2.1 pc = .ok (.invokespecial i, 3)) (hl : CLIN μ.1.cls i ν n) (hn : as.length = n) (hs : stk = as.reverse ++ vr b :: st) (hg : ctg st ≤ 8) (hdd : d' < d) (hb1 : bc' ≤ bc) (hb2 : bs' ≤ bs)
    (h : C g d' ν bc' bs' (vr b :: as) sh R I (fun rv sh' R' I' => T g d μ (bc - bc') (bs - bs') (pc + 3) L (rv.toList ++ st) sh' R' I' Q)) : T g d μ bc bs pc L stk sh R I Q := by
  intro p e s m args below meth c0 Rm Z ad0 sh0 mc ms O H locs cells slots ad ls N
  obtain ⟨n1, n2, n3, n4, n5, n6, n7, n8⟩ := N
  obtain ⟨⟨w1, w2, w3, w4⟩, w5, w6, w7, w8⟩ := hl
  obtain ⟨ha, hst⟩ := rev_ok hs n4
  have hts := O.1.2.2.2.2.2.1
  have ok : ∀ w, w ∈ lw_tbl → goodWord w = true → w.before args s = true := fun w h1 h2 => hts w (List.mem_cons_of_mem _ (lwG_of h1 h2))
  have hb := va_cnB (R := Rm) (own := μ.1.cls) (host := RX11) (index := i) (y := ν.1) (bytes := ν.2.1) (maxL := ν.2.2.1) (ret := ν.2.2.2) (rm := rmT d' bc' bs') (mc := bc') (ms := bs') n hts (WT_good w2) rfl rfl rfl (O.1.2.2.2.2.2.2.2.2.1 _ (nest_of w5 rfl)) (ok _ w1 rfl) w3 ⟨by show d' + 1 ≤ Rm.frames; have := O.2.1.1; omega, by show 8 + (ν.2.2.1 + 11) + 60 * d' ≤ Rm.locals; have := O.2.1.2.1; omega⟩
  rw [w8] at hb
  refine m_run O (by omega) (by omega) n1 n2 hst n5 n6 n7 n8 (va_runIN (host := RX11) (b := ad b) (As := as.map (cv ad)) (bytes := ν.2.1) (maxL := ν.2.2.1) (n := n) (own := μ.1.cls) (Ts := WT μ) ⟨O.1.1, O.1.2.1, O.1.2.2.1, O.1.2.2.2.2.1, hts⟩ (h ad) ⟨hb, w7, ok _ w6 rfl⟩ ⟨Pt'.blind, pre_of O n3 n8 ha⟩ rfl (by rw [List.length_map]; exact hn) n6.1 ?_ ?_ hd ⟨by have := O.2.1.2.2.1; omega, by have := O.2.1.2.2.2; omega⟩)
  · show stk.map (cv ad) = _
    rw [hs, List.map_append, List.map_reverse]
    rfl
  · have := ctg_eq (ad := ad) st
    show 2 * _ + _ ≤ 8
    rw [this]
    exact (by simpa [JFrame.monitorRoom] using hg)
end
