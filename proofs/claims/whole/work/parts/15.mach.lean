/-! THE ABSTRACT MACHINE, 6: making cells, given cells, Math, arraycopy -/
theorem cel_ext {cs : Nat → ClassId} {ad ad' : Nat → Nat} {t n : Nat} {r : Int → Option Nat} {f : Int → Int} (h : ∀ j x, r j = some x → ad' x = ad x) : cel cs ad' t n r f = cel cs ad t n r f := by
  have h2 : ∀ j, (r j).map ad' = (r j).map ad := fun j => by
    cases hr : r j with
    | none => rfl
    | some x => show some (ad' x) = some (ad x); rw [h j x hr]
  unfold cel fvl
  simp only [h2]
theorem nn32 {a : Int} (h : R32 a) (h0 : 0 ≤ a) : ¬ Int32.ofInt a < 0 := fun z => by
  have := (r32_lt h (show R32 0 by decide)).mp z
  omega
def upA (ad : Nat → Nat) (o q : Nat) : Nat → Nat := fun k => if k = o then q else ad k
/-- a cell is made: its id is any that is free -/
theorem Rep.new {g : GH} {ad : Nat → Nat} {sh : SH} {R : RR} {I : II} {H H1 : Heap} {o q t n : Nat} {e : va_E} (h : Rep g ad sh R I H) (ho : (sh o).1 = 0) (h16 : 16 ≤ o ∧ o < 1000) (ht : 0 < t ∧ t < 30) (he : cel (gC g) (upA ad o q) t n (fun _ => none) (fun _ => 0) = e)
    (dom : List Nat) (d1 : dom.Nodup) (d2 : ∀ k, k ∈ dom ↔ (0 < (sh k).1 ∧ (sh k).1 < 30)) (hP1 : va_P (gD g) vwCl (wsM g ad sh R I dom ++ [(q, e)]) H1) (hD1 : va_D (gA g) (wsM g ad sh R I dom ++ [(q, e)])) : Rep g (upA ad o q) (nwS sh o t n) (nwR R o) (nwI I o) H1 := by
  obtain ⟨-, h2, h3, h4⟩ := h
  have hno : o ∉ dom := fun z => by have := (d2 o).mp z; omega
  have hm : wsM g ad sh R I dom ++ [(q, e)] = wsM g (upA ad o q) (nwS sh o t n) (nwR R o) (nwI I o) (dom ++ [o]) := by
    unfold wsM
    rw [List.map_append]
    congr 1
    · apply List.map_congr_left
      intro k hk
      have hko : k ≠ o := fun z => hno (z ▸ hk)
      have e1 : nwS sh o t n k = sh k := if_neg hko
      have e2 : nwR R o k = R k := funext fun j => if_neg hko
      have e3 : nwI I o k = I k := funext fun j => if_neg hko
      have e4 : upA ad o q k = ad k := if_neg hko
      have e5 : cel (gC g) (upA ad o q) (sh k).1 (sh k).2 (R k) (I k) = cel (gC g) ad (sh k).1 (sh k).2 (R k) (I k) := cel_ext (fun j x hx => by
        have hxo : x ≠ o := fun z => by
          have := h4 k j x ((d2 k).mp hk).1 hx
          rw [z] at this
          exact this ho
        exact if_neg hxo)
      rw [e1, e2, e3, e4, e5]
    · have e1 : nwS sh o t n o = (t, n) := if_pos rfl
      have e2 : nwR R o o = fun _ => none := funext fun j => if_pos rfl
      have e3 : nwI I o o = fun _ => 0 := funext fun j => if_pos rfl
      have e4 : upA ad o q o = q := if_pos rfl
      simp only [List.map_cons, List.map_nil, e1, e2, e3, e4, he]
  rw [hm] at hP1 hD1
  refine ⟨⟨dom ++ [o], ?_, fun k => ?_, hP1, hD1⟩, fun k hk => ?_, fun k i => ?_, fun k i x hk hx => ?_⟩
  · rw [List.nodup_append]
    refine ⟨d1, by simp, fun a ha b hb hab => ?_⟩
    rw [List.mem_singleton] at hb
    subst hb; subst hab
    exact hno ha
  · rw [List.mem_append, List.mem_singleton]
    by_cases hk : k = o
    · subst hk
      have e1 : nwS sh k t n k = (t, n) := if_pos rfl
      rw [e1]
      exact ⟨fun _ => ht, fun _ => Or.inr rfl⟩
    · have e1 : nwS sh o t n k = sh k := if_neg hk
      rw [e1, ← d2 k]
      exact ⟨fun z => z.elim id (fun y => absurd y hk), Or.inl⟩
  · have hko : k ≠ o := by unfold gid at hk; omega
    rw [show upA ad o q k = ad k from if_neg hko, show nwS sh o t n k = sh k from if_neg hko]
    exact h2 k hk
  · by_cases hk : k = o
    · subst hk
      rw [show nwI I k k i = 0 from if_pos rfl]
      exact ⟨fun _ => by decide, fun _ => by decide⟩
    · rw [show nwI I o k i = I k i from if_neg hk, show nwS sh o t n k = sh k from if_neg hk]
      exact h3 k i
  · by_cases hk2 : k = o
    · subst hk2
      rw [show nwR R k k i = none from if_pos rfl] at hx
      cases hx
    · rw [show nwR R o k i = R k i from if_neg hk2] at hx
      rw [show nwS sh o t n k = sh k from if_neg hk2] at hk
      by_cases hxo : x = o
      · subst hxo
        rw [show nwS sh x t n x = (t, n) from if_pos rfl]
        exact (by omega : t ≠ 0)
      · rw [show nwS sh o t n x = sh x from if_neg hxo]
        exact h4 k i x hk hx
theorem Ext.new {ad : Nat → Nat} {sh : SH} {o q t n : Nat} (ho : (sh o).1 = 0) : Ext ad sh (upA ad o q) (nwS sh o t n) := fun k hk => by
  have hko : k ≠ o := fun z => hk (z ▸ ho)
  rw [show upA ad o q k = ad k from if_neg hko, show nwS sh o t n k = sh k from if_neg hko]
  exact ⟨rfl, hk⟩
theorem ty_plain : ∀ c, c < 13 → ∀ j, j < clN c → clT c j ≠ .float ∧ clT c j ≠ .double := by decide +kernel
theorem dflt_eq {ad : Nat → Nat} {ty : FieldType} (h1 : ty ≠ .float) (h2 : ty ≠ .double) : defaultValue ty = fvl ad (tyk ty) 0 none := by
  cases ty <;> first | rfl | exact absurd rfl h1 | exact absurd rfl h2
section
variable {g : GH} {d : Nat} {μ : MT} {bc bs pc : Nat} {L : List (Option AV)} {st : List AV} {sh : SH} {R : RR} {I : II} {Q : QT}
/-- how a made cell goes on -/
theorem m_made {p : Program} {e : Env} {s : State} {m : MethodId} {args : Array Value} {below : List Frame} {meth : Method} {c0 : Code} {Rm : Room} {Z : State → Prop} {ad0 : Nat → Nat} {sh0 : SH} {mc ms : Nat} {H H1 : Heap} {locs : List Loc} {cells slots : Nat} {ad : Nat → Nat} {ls : Array Slot} {o q t n pc' k : Nat} {ev : va_E}
    (O : Ok g d μ Q p e s m args below meth c0 Rm Z ad0 sh0 mc ms) (n1 : cells + (bc + 1) ≤ mc) (n2 : slots + (bs + k) ≤ ms) (n3 : Rep g ad sh R I H) (n4 : ∀ v ∈ st, okA sh v) (n5 : ∀ v, some v ∈ L → okA sh v) (n6 : LR ad ls μ.2.2.1 L) (n7 : Ext ad0 sh0 ad sh) (hS : va_S (gA g) s.heap H1 locs)
    (ho : (sh o).1 = 0) (h16 : 16 ≤ o ∧ o < 1000) (ht : 0 < t ∧ t < 30) (he : cel (gC g) (upA ad o q) t n (fun _ => none) (fun _ => 0) = ev)
    (dom : List Nat) (d1 : dom.Nodup) (d2 : ∀ k, k ∈ dom ↔ (0 < (sh k).1 ∧ (sh k).1 < 30)) (hP1 : va_P (gD g) vwCl (wsM g ad sh R I dom ++ [(q, ev)]) H1) (hD1 : va_D (gA g) (wsM g ad sh R I dom ++ [(q, ev)]))
    (h : T g d μ bc bs pc' L (vr o :: st) (nwS sh o t n) (nwR R o) (nwI I o) Q) : W p (gL g) e Rm s m args below meth c0 H1 locs (cells + 1) (slots + k) Z (F0 m pc' ls (.ref q :: st.map (cv ad))) := by
  have hx : Ext ad sh (upA ad o q) (nwS sh o t n) := Ext.new ho
  have K := h p e s m args below meth c0 Rm Z ad0 sh0 mc ms O H1 locs (cells + 1) (slots + k) (upA ad o q) ls ⟨by omega, by omega, n3.new ho h16 ht he dom d1 d2 hP1 hD1, okc (show (nwS sh o t n o).1 ≠ 0 by rw [show nwS sh o t n o = (t, n) from if_pos rfl]; exact (by omega : t ≠ 0)) (fun v hv => (cv_ext hx (n4 v hv)).2), fun v hv => (cv_ext hx (n5 v hv)).2, n6.ext hx n5, n7.tr hx, hS⟩
  have em : (vr o :: st).map (cv (upA ad o q)) = .ref q :: st.map (cv ad) := by
    rw [List.map_cons, map_ext hx n4]
    show Value.ref (upA ad o q o) :: _ = _
    rw [show upA ad o q o = q from if_pos rfl]
  rw [em] at K
  exact K
theorem m_new {i c : Nat} (o : Nat) (hd : decode μ.2.1 pc = .ok (.new i, 3)) (hc : c < 13) (hw : Cond.classLink μ.1.cls i (clR c) ∈ lw_tbl ∧ Cond.instantiable (clR c) (clN c) ∈ lw_tbl ∧ Cond.initialized (clR c) ∈ lw_tbl) (ho : (sh o).1 = 0) (h16 : 16 ≤ o ∧ o < 1000) (hb1 : 1 ≤ bc) (hb2 : clN c ≤ bs)
    (h : T g d μ (bc - 1) (bs - clN c) (pc + 3) L (vr o :: st) (nwS sh o (c + 1) 0) (nwR R o) (nwI I o) Q) : T g d μ bc bs pc L st sh R I Q := by
  intro p e s m args below meth c0 Rm Z ad0 sh0 mc ms O H locs cells slots ad ls N
  obtain ⟨n1, n2, n3, n4, n5, n6, n7, n8⟩ := N
  have hts := O.1.2.2.2.2.2.1
  have ok : ∀ w, w ∈ lw_tbl → goodWord w = true → w.before args s = true := fun w h1 h2 => hts w (List.mem_cons_of_mem _ (lwG_of h1 h2))
  have hSt := O.1.2.2.2.2.2.2
  obtain ⟨⟨dom, d1, d2, hP, hD⟩, -⟩ := id n3
  refine va_new (ci := c) (fs := (List.range (clN c)).map (fun j => fvl ad (tyk (clT c j)) 0 none)) (C := clR c) (T := clF c) (N := clN c) O.1.1 O.1.2.1 hts (fun w hw => List.mem_cons_of_mem _ (cl_in c hc w hw)) (clT c) (cl_ty c hc) O.1.2.2.2.2.1 (ok _ hw.1 rfl) (ok _ hw.2.1 rfl) (ok _ hw.2.2 rfl) hSt.1 hP hD n8 (fun q hq => Nat.le_trans hSt.2.1 hq) (cl_at c hc) (fun j hj => ?_) (by have := O.2.1.2.2.1; omega) (by have := O.2.1.2.2.2; omega) hd (fun q H1 hP1 hD1 hS => ?_)
  · unfold vp_V
    rw [List.getD_eq_getElem?_getD, obj_get _ hj]
    exact dflt_eq (ty_plain c hc j hj).1 (ty_plain c hc j hj).2
  · refine m_made (n := 0) (t := c + 1) O (by omega) (by omega) n3 n4 n5 n6 n7 hS ho h16 ⟨by omega, by omega⟩ (ev := .inr (c, (List.range (clN c)).map (fun j => fvl ad (tyk (clT c j)) 0 none))) ?_ dom d1 d2 hP1 hD1 h
    rw [cel_obj hc]
    rfl
theorem tys_of {cs : Nat → ClassId} {D : va_G} {s : State} {k : Nat} {ty : FieldType} {cA : ClassId} (hK : va_K D vwCl (tysG cs ++ [(cA, ty)]) s) (hk : (tysG cs)[k]? = some (cs k, ty)) : cA = cs k := by
  have hlt : k < (tysG cs).length := (List.getElem?_eq_some_iff.mp hk).1
  have h1 := (hK.2 k _ (by rw [List.getElem?_append_left hlt]; exact hk)).2
  have h2 := (hK.2 (tysG cs).length (cA, ty) (by rw [List.getElem?_append_right (Nat.le_refl _)]; simp)).2
  cases ty with
  | object C =>
    obtain ⟨_, _, _, _, _, a4⟩ := h1
    obtain ⟨_, _, _, _, _, b4⟩ := h2
    exact Option.some.inj (b4.symm.trans a4)
  | _ => exact Option.some.inj ((show s.vm.findClass _ = some cA from h2).symm.trans (show s.vm.findClass _ = some (cs k) from h1))
/-- new int[n] and its like -/
theorem m_newa {n : Int} {at_ : ArrayType} {ty : FieldType} {k : Nat} (o : Nat) (hd : decode μ.2.1 pc = .ok (.newarray at_, 2)) (hty : newarray.typeOf at_ = ty) (hw : Cond.arrayClass ty ∈ lw_tbl) (hk : k < 4 ∧ (tysG (gC g))[k]? = some (gC g k, ty) ∧ defaultValue ty = .int 0 ∧ componentBytes ty ≤ 8) (h0 : 0 ≤ n) (h1 : n ≤ 1000) (ho : (sh o).1 = 0) (h16 : 16 ≤ o ∧ o < 1000) (hb1 : 1 ≤ bc) (hb2 : n.toNat ≤ bs)
    (h : T g d μ (bc - 1) (bs - n.toNat) (pc + 2) L (vr o :: st) (nwS sh o (20 + k) n.toNat) (nwR R o) (nwI I o) Q) : T g d μ bc bs pc L (vi n :: st) sh R I Q := by
  intro p e s m args below meth c0 Rm Z ad0 sh0 mc ms O H locs cells slots ad ls N
  obtain ⟨n1, n2, n3, n4, n5, n6, n7, n8⟩ := N
  subst hty
  have hts := O.1.2.2.2.2.2.1
  have hSt := O.1.2.2.2.2.2.2
  have rn : R32 n := (ok1 n4).1
  obtain ⟨⟨dom, d1, d2, hP, hD⟩, -⟩ := id n3
  refine va_newa O.1.1 O.1.2.1 (hts _ (List.mem_cons_of_mem _ (lwG_of hw rfl))) rfl hSt.1 hP hD n8 (fun q hq => Nat.le_trans hSt.2.1 hq) (a0 := (n.toNat, .inl (fun _ => 0))) (fun cA => ?_) (nn32 rn h0) (r32_cl rn) ?_ (by have := O.2.1.2.2.1; omega) (by have := O.2.1.2.2.2; omega) hd (fun q cA H1 hK hP1 hD1 hS => ?_)
  · rw [hk.2.2.1]; rfl
  · have h8 : n.toNat ≤ 1000 := by omega
    exact Nat.le_trans (Nat.mul_le_mul h8 hk.2.2.2) (by decide)
  · have ec : cA = gC g k := tys_of hK hk.2.1
    subst ec
    refine m_made (n := n.toNat) (t := 20 + k) O (by omega) (by omega) n3 (ok1 n4).2 n5 n6 n7 hS ho h16 ⟨by omega, by omega⟩ (ev := .inl (gC g k, n.toNat, .inl (fun _ => 0))) ?_ dom d1 d2 hP1 hD1 h
    rw [cel_ai (by omega) (by omega), show 20 + k - 20 = k by omega]
    rfl
theorem m_newl {n : Int} {at_ : ArrayType} (o : Nat) (hd : decode μ.2.1 pc = .ok (.newarray at_, 2)) (hty : newarray.typeOf at_ = .long) (hw : Cond.arrayClass .long ∈ lw_tbl) (h0 : 0 ≤ n) (h1 : n ≤ 1000) (ho : (sh o).1 = 0) (h16 : 16 ≤ o ∧ o < 1000) (hb1 : 1 ≤ bc) (hb2 : n.toNat ≤ bs)
    (h : T g d μ (bc - 1) (bs - n.toNat) (pc + 2) L (vr o :: st) (nwS sh o 24 n.toNat) (nwR R o) (nwI I o) Q) : T g d μ bc bs pc L (vi n :: st) sh R I Q := by
  intro p e s m args below meth c0 Rm Z ad0 sh0 mc ms O H locs cells slots ad ls N
  obtain ⟨n1, n2, n3, n4, n5, n6, n7, n8⟩ := N
  have hts := O.1.2.2.2.2.2.1
  have hSt := O.1.2.2.2.2.2.2
  have rn : R32 n := (ok1 n4).1
  obtain ⟨⟨dom, d1, d2, hP, hD⟩, -⟩ := id n3
  refine va_newa (ty := .long) O.1.1 O.1.2.1 (by rw [hty]; exact hts _ (List.mem_cons_of_mem _ (lwG_of hw rfl))) hty hSt.1 hP hD n8 (fun q hq => Nat.le_trans hSt.2.1 hq) (a0 := (n.toNat, .inr (.inl (fun _ => 0)))) (fun cA => rfl) (nn32 rn h0) (r32_cl rn) ?_ (by have := O.2.1.2.2.1; omega) (by have := O.2.1.2.2.2; omega) hd (fun q cA H1 hK hP1 hD1 hS => ?_)
  · have h8 : n.toNat ≤ 1000 := by omega
    exact Nat.le_trans (Nat.mul_le_mul h8 (show componentBytes .long ≤ 8 by decide)) (by decide)
  · have ec : cA = gC g 4 := tys_of (k := 4) hK rfl
    subst ec
    exact m_made (n := n.toNat) (t := 24) O (by omega) (by omega) n3 (ok1 n4).2 n5 n6 n7 hS ho h16 ⟨by omega, by omega⟩ (ev := .inl (gC g 4, n.toNat, .inr (.inl (fun _ => 0)))) (by rw [cel_al]; rfl) dom d1 d2 hP1 hD1 h
/-- new Message[n], new Orders[n] -/
theorem m_newq {n : Int} {i k : Nat} {cn : String} (o : Nat) (hd : decode μ.2.1 pc = .ok (.anewarray i, 3)) (hw : Cond.classLink μ.1.cls i cn ∈ lw_tbl) (hcn : cn = RX3 ∨ cn = RX5) (hk : (k = 5 ∨ k = 6) ∧ (tysG (gC g))[k]? = some (gC g k, .object cn)) (h0 : 0 ≤ n) (h1 : n ≤ 1000) (ho : (sh o).1 = 0) (h16 : 16 ≤ o ∧ o < 1000) (hb1 : 1 ≤ bc) (hb2 : n.toNat ≤ bs)
    (h : T g d μ (bc - 1) (bs - n.toNat) (pc + 3) L (vr o :: st) (nwS sh o (20 + k) n.toNat) (nwR R o) (nwI I o) Q) : T g d μ bc bs pc L (vi n :: st) sh R I Q := by
  intro p e s m args below meth c0 Rm Z ad0 sh0 mc ms O H locs cells slots ad ls N
  obtain ⟨n1, n2, n3, n4, n5, n6, n7, n8⟩ := N
  have hts := O.1.2.2.2.2.2.1
  have hSt := O.1.2.2.2.2.2.2
  have rn : R32 n := (ok1 n4).1
  obtain ⟨⟨dom, d1, d2, hP, hD⟩, -⟩ := id n3
  refine va_newq (C := cn) O.1.1 O.1.2.1 O.1.2.2.2.2.1 (hts _ (List.mem_cons_of_mem _ (lwG_of hw rfl))) (by rcases hcn with rfl | rfl; exact hSt.2.2.2.2.2.2.2.2.1; exact hSt.2.2.2.2.2.2.2.2.2.1) hSt.1 hP hD n8 (fun q hq => Nat.le_trans hSt.2.1 hq) (nn32 rn h0) (r32_cl rn) (by omega) (by have := O.2.1.2.2.1; omega) (by have := O.2.1.2.2.2; omega) hd (fun q cA H1 hK hP1 hD1 hS => ?_)
  have ec : cA = gC g k := tys_of hK hk.2
  subst ec
  refine m_made (n := n.toNat) (t := 20 + k) O (by omega) (by omega) n3 (ok1 n4).2 n5 n6 n7 hS ho h16 ⟨by omega, by omega⟩ (ev := .inl (gC g k, n.toNat, .inr (.inr (.inr (.inr (fun _ => none)))))) ?_ dom d1 d2 hP1 hD1 h
  rw [cel_aq (by omega), show 20 + k - 20 = k by omega]
  rfl
/-- Object's own constructor -/
theorem m_objInit {i b : Nat} (hd : decode μ.2.1 pc = .ok (.invokespecial i, 3)) (hw : Cond.methodLink μ.1.cls i Lib.objectInit ∈ lw_tbl ∧ Cond.instanceMethod Lib.objectInit ∈ lw_tbl ∧ Cond.code Lib.objectInit ⟨#[0xb1]⟩ 1 none ∈ lw_tbl) (hdd : 0 < d) (hg : ctg st ≤ 8) (h : T g d μ bc bs (pc + 3) L st sh R I Q) : T g d μ bc bs pc L (vr b :: st) sh R I Q := by
  intro p e s m args below meth c0 Rm Z ad0 sh0 mc ms O H locs cells slots ad ls N
  obtain ⟨n1, n2, n3, n4, n5, n6, n7, n8⟩ := N
  have hts := O.1.2.2.2.2.2.1
  have ok : ∀ w, w ∈ lw_tbl → goodWord w = true → w.before args s = true := fun w h1 h2 => hts w (List.mem_cons_of_mem _ (lwG_of h1 h2))
  refine W.objInit (a := ad b) (rest := st.map (cv ad)) O.1.1 O.1.2.1 O.1.2.2.2.2.1 (ok _ hw.1 rfl) (ok _ hw.2.1 rfl) (ok _ hw.2.2 rfl) rfl (by rw [O.1.2.2.1]; exact n6.1) rfl hd (by have := O.2.1.1; omega) ?_ ?_
  · have h1 := ctg_eq (ad := ad) st
    have h2 := O.2.1.2.1
    rw [h1]
    have : 2 * (F0 m pc ls ((vr b :: st).map (cv ad))).monitorRoom = 0 := by simp [JFrame.monitorRoom]
    omega
  · exact h p e s m args below meth c0 Rm Z ad0 sh0 mc ms O H locs cells slots ad ls ⟨n1, n2, n3, (ok1 n4).2, n5, n6, n7, n8⟩
theorem m_max {a b : Int} {i : Nat} (hd : decode μ.2.1 pc = .ok (.invokestatic i, 3)) (hw : Cond.methodLink μ.1.cls i Lib.Math.max.name ∈ lw_tbl ∧ Cond.static Lib.Math.max.name ∈ lw_tbl ∧ Cond.initialized "java/lang/Math" ∈ lw_tbl ∧ Cond.code Lib.Math.max.name Lib.Math.max.code 2 (some .int) ∈ lw_tbl) (hdd : 0 < d) (hg : ctg st ≤ 8) (h : T g d μ bc bs (pc + 3) L (vi (max a b) :: st) sh R I Q) : T g d μ bc bs pc L (vi b :: vi a :: st) sh R I Q := by
  intro p e s m args below meth c0 Rm Z ad0 sh0 mc ms O H locs cells slots ad ls N
  obtain ⟨n1, n2, n3, n4, n5, n6, n7, n8⟩ := N
  have hts := O.1.2.2.2.2.2.1
  have ok : ∀ w, w ∈ lw_tbl → goodWord w = true → w.before args s = true := fun w h1 h2 => hts w (List.mem_cons_of_mem _ (lwG_of h1 h2))
  have ra : R32 a := (ok2 n4).2.1
  have rb : R32 b := (ok2 n4).1
  have h1 := ctg_eq (ad := ad) st
  have h2 := O.2.1.2.1
  have h3 := O.2.1.2.2.1
  have h4 := O.2.1.2.2.2
  refine va_mmax (x := Int32.ofInt a) (y := Int32.ofInt b) O.1.1 O.1.2.1 (by rw [O.1.2.2.1]; exact n6.1.symm) O.1.2.2.2.2.1 (ok _ hw.1 rfl) (ok _ hw.2.1 rfl) (ok _ hw.2.2.1 rfl) (ok _ hw.2.2.2 rfl) (by have := O.2.1.1; omega) (by omega) (by omega) (by omega) hd ?_
  have ev : (if Int32.ofInt a < Int32.ofInt b then Int32.ofInt b else Int32.ofInt a) = Int32.ofInt (max a b) := by
    by_cases h9 : a < b
    · rw [if_pos ((r32_lt ra rb).mpr h9), show max a b = b by omega]
    · rw [if_neg (fun z => h9 ((r32_lt ra rb).mp z)), show max a b = a by omega]
  rw [ev]
  exact h p e s m args below meth c0 Rm Z ad0 sh0 mc ms O H locs cells slots ad ls ⟨n1, n2, n3, okc (show R32 (max a b) by omega) (ok2 n4).2.2, n5, n6, n7, n8⟩
theorem m_min {a b : Int} {i : Nat} (hd : decode μ.2.1 pc = .ok (.invokestatic i, 3)) (hw : Cond.methodLink μ.1.cls i Lib.Math.min.name ∈ lw_tbl ∧ Cond.static Lib.Math.min.name ∈ lw_tbl ∧ Cond.initialized "java/lang/Math" ∈ lw_tbl ∧ Cond.code Lib.Math.min.name Lib.Math.min.code 2 (some .int) ∈ lw_tbl) (hdd : 0 < d) (hg : ctg st ≤ 8) (h : T g d μ bc bs (pc + 3) L (vi (min a b) :: st) sh R I Q) : T g d μ bc bs pc L (vi b :: vi a :: st) sh R I Q := by
  intro p e s m args below meth c0 Rm Z ad0 sh0 mc ms O H locs cells slots ad ls N
  obtain ⟨n1, n2, n3, n4, n5, n6, n7, n8⟩ := N
  have hts := O.1.2.2.2.2.2.1
  have ok : ∀ w, w ∈ lw_tbl → goodWord w = true → w.before args s = true := fun w h1 h2 => hts w (List.mem_cons_of_mem _ (lwG_of h1 h2))
  have ra : R32 a := (ok2 n4).2.1
  have rb : R32 b := (ok2 n4).1
  have h1 := ctg_eq (ad := ad) st
  have h2 := O.2.1.2.1
  have h3 := O.2.1.2.2.1
  have h4 := O.2.1.2.2.2
  refine va_mmin (x := Int32.ofInt a) (y := Int32.ofInt b) O.1.1 O.1.2.1 (by rw [O.1.2.2.1]; exact n6.1.symm) O.1.2.2.2.2.1 (ok _ hw.1 rfl) (ok _ hw.2.1 rfl) (ok _ hw.2.2.1 rfl) (ok _ hw.2.2.2 rfl) (by have := O.2.1.1; omega) (by omega) (by omega) (by omega) hd ?_
  have ev : (if Int32.ofInt b < Int32.ofInt a then Int32.ofInt b else Int32.ofInt a) = Int32.ofInt (min a b) := by
    by_cases h9 : b < a
    · rw [if_pos ((r32_lt rb ra).mpr h9), show min a b = b by omega]
    · rw [if_neg (fun z => h9 ((r32_lt rb ra).mp z)), show min a b = a by omega]
  rw [ev]
  exact h p e s m args below meth c0 Rm Z ad0 sh0 mc ms O H locs cells slots ad ls ⟨n1, n2, n3, okc (show R32 (min a b) by omega) (ok2 n4).2.2, n5, n6, n7, n8⟩
theorem m_abs {a : Int} {i : Nat} (hd : decode μ.2.1 pc = .ok (.invokestatic i, 3)) (hw : Cond.methodLink μ.1.cls i Lib.Math.abs.name ∈ lw_tbl ∧ Cond.static Lib.Math.abs.name ∈ lw_tbl ∧ Cond.initialized "java/lang/Math" ∈ lw_tbl ∧ Cond.code Lib.Math.abs.name Lib.Math.abs.code 1 (some .int) ∈ lw_tbl) (hdd : 0 < d) (hg : ctg st ≤ 8) (hr : R32 (-a)) (h : T g d μ bc bs (pc + 3) L (vi (max a (-a)) :: st) sh R I Q) : T g d μ bc bs pc L (vi a :: st) sh R I Q := by
  intro p e s m args below meth c0 Rm Z ad0 sh0 mc ms O H locs cells slots ad ls N
  obtain ⟨n1, n2, n3, n4, n5, n6, n7, n8⟩ := N
  have hts := O.1.2.2.2.2.2.1
  have ok : ∀ w, w ∈ lw_tbl → goodWord w = true → w.before args s = true := fun w h1 h2 => hts w (List.mem_cons_of_mem _ (lwG_of h1 h2))
  have ra : R32 a := (ok1 n4).1
  have h1 := ctg_eq (ad := ad) st
  have h2 := O.2.1.2.1
  have h3 := O.2.1.2.2.1
  have h4 := O.2.1.2.2.2
  refine va_mabs (x := Int32.ofInt a) O.1.1 O.1.2.1 (by rw [O.1.2.2.1]; exact n6.1.symm) O.1.2.2.2.2.1 (ok _ hw.1 rfl) (ok _ hw.2.1 rfl) (ok _ hw.2.2.1 rfl) (ok _ hw.2.2.2 rfl) (by have := O.2.1.1; omega) (by omega) (by omega) (by omega) hd ?_
  have ev : (if 0 ≤ Int32.ofInt a then Int32.ofInt a else 0 - Int32.ofInt a) = Int32.ofInt (max a (-a)) := by
    by_cases h9 : 0 ≤ a
    · rw [if_pos (show (0 : Int32) ≤ _ from (r32_le (show R32 0 by decide) ra).mpr h9), show max a (-a) = a by omega]
    · rw [if_neg (show ¬ (0 : Int32) ≤ _ from fun z => h9 ((r32_le (show R32 0 by decide) ra).mp z)), show max a (-a) = 0 - a by omega, Int32.ofInt_sub]
      rfl
  rw [ev]
  exact h p e s m args below meth c0 Rm Z ad0 sh0 mc ms O H locs cells slots ad ls ⟨n1, n2, n3, okc (show R32 (max a (-a)) by omega) (ok1 n4).2, n5, n6, n7, n8⟩
/-- the script, RANKS and SIGNS: the given rows of ints -/
theorem m_gld {k : Nat} {i : Int} (hd : decode μ.2.1 pc = .ok (.iaload, 1)) (hk : 1 ≤ k ∧ k < 4) (h0 : 0 ≤ i) (h1 : i < (gX g k).1) (h : T g d μ bc bs (pc + 1) L (vi ((gX g k).2 i.toNat) :: st) sh R I Q) : T g d μ bc bs pc L (vi i :: vr k :: st) sh R I Q := by
  intro p e s m args below meth c0 Rm Z ad0 sh0 mc ms O H locs cells slots ad ls N
  obtain ⟨n1, n2, n3, n4, n5, n6, n7, n8⟩ := N
  have hSt := O.1.2.2.2.2.2.2
  obtain ⟨x1, x2, x3⟩ := hSt.2.2.2.1 k hk.1 hk.2
  have ri : R32 i := (ok2 n4).1
  have ea : ad k = gO g k := (n3.2.1 k (Or.inl (by omega))).1
  show W p (gL g) e Rm s m args below meth c0 H locs cells slots Z (F0 m pc ls (.int (Int32.ofInt i) :: .ref (ad k) :: st.map (cv ad)))
  rw [ea]
  refine va_sld (A := gA g) O.1.1 O.1.2.1 x1 (Nat.lt_of_lt_of_le x2 hSt.2.1) (Nat.not_le.mpr x2) n8 (r32_in ri h0 h1) hd ?_
  rw [r32_cl ri]
  exact h p e s m args below meth c0 Rm Z ad0 sh0 mc ms O H locs cells slots ad ls ⟨n1, n2, n3, okc (show R32 _ from x3 _) (ok2 n4).2.2, n5, n6, n7, n8⟩
theorem m_glen {k : Nat} (hd : decode μ.2.1 pc = .ok (.arraylength, 1)) (hk : 1 ≤ k ∧ k < 4) (hn : (gX g k).1 ≤ 4000) (h : T g d μ bc bs (pc + 1) L (vi ((gX g k).1 : Int) :: st) sh R I Q) : T g d μ bc bs pc L (vr k :: st) sh R I Q := by
  intro p e s m args below meth c0 Rm Z ad0 sh0 mc ms O H locs cells slots ad ls N
  obtain ⟨n1, n2, n3, n4, n5, n6, n7, n8⟩ := N
  have hSt := O.1.2.2.2.2.2.2
  obtain ⟨x1, x2, x3⟩ := hSt.2.2.2.1 k hk.1 hk.2
  have ea : ad k = gO g k := (n3.2.1 k (Or.inl (by omega))).1
  show W p (gL g) e Rm s m args below meth c0 H locs cells slots Z (F0 m pc ls (.ref (ad k) :: st.map (cv ad)))
  rw [ea]
  refine va_slen (A := gA g) O.1.1 O.1.2.1 x1 (Nat.lt_of_lt_of_le x2 hSt.2.1) (Nat.not_le.mpr x2) n8 hd ?_
  rw [← Int32.ofInt_eq_ofNat]
  exact h p e s m args below meth c0 Rm Z ad0 sh0 mc ms O H locs cells slots ad ls ⟨n1, n2, n3, okc (show R32 ((gX g k).1 : Int) by omega) (ok1 n4).2, n5, n6, n7, n8⟩
/-- getstatic of RANKS and SIGNS, from a class of the nest -/
theorem m_gets {i k : Nat} {fn : String} (hd : decode μ.2.1 pc = .ok (.getstatic i, 3)) (hw : Cond.fieldLinkNest μ.1.cls i RX11 fn "[I" RX11 ∈ lw_tbl) (hk : (k = 2 ∧ fn = "RANKS") ∨ (k = 3 ∧ fn = "SIGNS")) (h : T g d μ bc bs (pc + 3) L (vr k :: st) sh R I Q) : T g d μ bc bs pc L st sh R I Q := by
  intro p e s m args below meth c0 Rm Z ad0 sh0 mc ms O H locs cells slots ad ls N
  obtain ⟨n1, n2, n3, n4, n5, n6, n7, n8⟩ := N
  have hSt := O.1.2.2.2.2.2.2
  have hz : va_Z RX11 fn "[I" (.ref (gO g k)) (gA g) s s.heap := by
    rcases hk with ⟨rfl, rfl⟩ | ⟨rfl, rfl⟩
    · exact hSt.2.2.2.2.1
    · exact hSt.2.2.2.2.2.1
  have hk16 : k < 16 := by omega
  have ea : ad k = gO g k := (n3.2.1 k (Or.inl hk16)).1
  refine va_getsN (host := RX11) O.1.1 O.1.2.1 hz n8 O.1.2.2.2.2.1 (va_Nw.use rfl (hSt.2.2.1 _ (nest_of hw rfl))) (fun _ h9 => h9) hd ?_
  rw [← ea]
  exact h p e s m args below meth c0 Rm Z ad0 sh0 mc ms O H locs cells slots ad ls ⟨n1, n2, n3, okc (show (sh k).1 ≠ 0 by have := (n3.2.1 k (Or.inl hk16)).2; omega) n4, n5, n6, n7, n8⟩
end
def cpI (I : II) (o : Nat) (f : Int → Int) (n : Int) : II := fun x j => if x = o ∧ 0 ≤ j ∧ j < n then f j else I x j
theorem cpI_o {I : II} {o : Nat} {f : Int → Int} {n : Int} {x : Nat} (h : x ≠ o) : cpI I o f n x = I x := funext fun j => if_neg fun q => h q.1
theorem cpI_in {I : II} {o : Nat} {f : Int → Int} {n j : Int} (h0 : 0 ≤ j) (h1 : j < n) : cpI I o f n o j = f j := if_pos ⟨rfl, h0, h1⟩
theorem cpI_out {I : II} {o x : Nat} {f : Int → Int} {n j : Int} (h : ¬ (0 ≤ j ∧ j < n)) : cpI I o f n x j = I x j := if_neg fun q => h q.2
/-- a row of the picture is changed -/
theorem Rep.row {g : GH} {ad : Nat → Nat} {sh : SH} {R : RR} {I I' : II} {H H1 : Heap} {o : Nat} (h : Rep g ad sh R I H) (hx : ∀ x, x ≠ o → I' x = I x) (hr : ∀ i, (kd (sh o).1 i = 0 → R32 (I' o i)) ∧ (kd (sh o).1 i = 1 → R64 (I' o i)))
    (dom : List Nat) (hn : dom.Nodup) (hd : ∀ k, k ∈ dom ↔ (0 < (sh k).1 ∧ (sh k).1 < 30)) {q : Nat} (hq : dom[q]? = some o) {e : va_E} (he : cel (gC g) ad (sh o).1 (sh o).2 (R o) (I' o) = e)
    (hP : va_P (gD g) vwCl ((wsM g ad sh R I dom).set q (ad o, e)) H1) (hD : va_D (gA g) ((wsM g ad sh R I dom).set q (ad o, e))) : Rep g ad sh R I' H1 := by
  have hs : (wsM g ad sh R I dom).set q (ad o, e) = wsM g ad sh R I' dom := by
    rw [← he]
    exact dom_set (f := fun k => (ad k, cel (gC g) ad (sh k).1 (sh k).2 (R k) (I k))) (f' := fun k => (ad k, cel (gC g) ad (sh k).1 (sh k).2 (R k) (I' k))) hn hq (fun j hj => by rw [hx j hj])
  rw [hs] at hP hD
  refine ⟨⟨dom, hn, hd, hP, hD⟩, h.2.1, fun k j => ?_, h.2.2.2⟩
  by_cases hk : k = o
  · subst hk
    exact hr j
  · rw [hx k hk]
    exact h.2.2.1 k j
theorem cpy_eq {I : II} {o : Nat} {f : Int → Int} {n : Int} (h0 : 0 ≤ n) : va_cpy (fun j : Nat => Int32.ofInt (f j)) (fun j : Nat => Int32.ofInt (I o j)) 0 0 n.toNat = fun j : Nat => Int32.ofInt (cpI I o f n o j) := by
  funext j
  unfold va_cpy
  by_cases h : (j : Int) < n
  · rw [if_pos ⟨Nat.zero_le _, by omega⟩, cpI_in (by omega) h, Nat.zero_add, Nat.sub_zero]
  · rw [if_neg (fun z => h (by omega)), cpI_out (by omega)]
section
variable {g : GH} {d : Nat} {μ : MT} {bc bs pc : Nat} {L : List (Option AV)} {st : List AV} {sh : SH} {R : RR} {I : II} {Q : QT}
def CPw (own : String) (i : Nat) : Prop := Cond.methodLink own i arraycopyName ∈ lw_tbl ∧ Cond.native arraycopyName ∈ lw_tbl ∧ Cond.static arraycopyName ∈ lw_tbl ∧ Cond.initialized "java/lang/System" ∈ lw_tbl
theorem nfw : nativeFrameWords "java/lang/System" "arraycopy" 5 ≤ 40 := by decide
/-- System.arraycopy of a row of ints, from place 0 to place 0 -/
theorem m_copy {i o o0 N N0 : Nat} {n : Int} (hd : decode μ.2.1 pc = .ok (.invokestatic i, 3)) (hw : CPw μ.1.cls i) (ho : sh o = (20, N)) (ho0 : sh o0 = (20, N0)) (h0 : 0 ≤ n) (h1 : n ≤ N) (h2 : n ≤ N0) (hdd : 0 < d) (hg : ctg st ≤ 8) (h : T g d μ bc bs (pc + 3) L st sh R (cpI I o (I o0) n) Q) : T g d μ bc bs pc L (vi n :: vi 0 :: vr o :: vi 0 :: vr o0 :: st) sh R I Q := by
  intro p e s m args below meth c0 Rm Z ad0 sh0 mc ms O H locs cells slots ad ls N9
  obtain ⟨n1, n2, n3, n4, n5, n6, n7, n8⟩ := N9
  have hts := O.1.2.2.2.2.2.1
  have ok : ∀ w, w ∈ lw_tbl → goodWord w = true → w.before args s = true := fun w h1 h2 => hts w (List.mem_cons_of_mem _ (lwG_of h1 h2))
  have hK := O.1.2.2.2.2.2.2.1
  obtain ⟨dom, d1, d2, hP, hD, q, q1, q2⟩ := n3.dom (t := 20) (o := o) (by rw [ho]) (by omega) (by omega)
  obtain ⟨q0, -, q02⟩ := dom_get (f := fun k => (ad k, cel (gC g) ad (sh k).1 (sh k).2 (R k) (I k))) ((d2 o0).mpr (by rw [ho0]; exact ⟨by omega, by omega⟩))
  rw [cel_ai (by omega) (by omega), ho] at q2
  rw [ho0, cel_ai (by omega) (by omega)] at q02
  have rn : R32 n := (ok2 n4).1
  have hc := ctg_eq (ad := ad) st
  have hl := O.2.1.2.1
  have ez : (Int32.ofInt 0).toNatClampNeg = 0 := rfl
  refine va_copyi (ty := .int) O.1.1 O.1.2.1 (by rw [O.1.2.2.1]; exact n6.1.symm) O.1.2.2.2.2.1 (ok _ hw.1 rfl) (ok _ hw.2.1 rfl) (ok _ hw.2.2.1 rfl) (ok _ hw.2.2.2 rfl) hK hP hD n8 q0 q 0 0 q02 q2 rfl rfl rfl (sp := Int32.ofInt 0) (dp := Int32.ofInt 0) (n := Int32.ofInt n) (by decide) (by decide) (nn32 rn h0) (by rw [r32_cl rn, ez]; show 0 + _ ≤ N0; omega) (by rw [r32_cl rn, ez]; show 0 + _ ≤ N; omega) (fun _ _ => rfl) (by have := O.2.1.1; omega) (by have := nfw; omega) hd (fun H1 locs1 hP hD hS => ?_)
  rw [r32_cl rn, ez, cpy_eq (f := I o0) h0] at hP hD
  refine h p e s m args below meth c0 Rm Z ad0 sh0 mc ms O H1 locs1 cells slots ad ls ⟨n1, n2, n3.row (fun x hx => cpI_o hx) (fun i => ⟨fun _ => ?_, fun z => by rw [ho, kd_ai (by omega) (by omega)] at z; cases z⟩) dom d1 d2 q1 (by rw [ho, cel_ai (by omega) (by omega)]) hP hD, (ok1 (ok2 (ok2 n4).2.2).2.2).2, n5, n6, n7, hS⟩
  by_cases hi : 0 ≤ i ∧ i < n
  · rw [cpI_in hi.1 hi.2]
    exact (n3.2.2.1 o0 i).1 (by rw [ho0]; exact kd_ai (by omega) (by omega))
  · rw [cpI_out hi]
    exact (n3.2.2.1 o i).1 (by rw [ho]; exact kd_ai (by omega) (by omega))
/-- System.arraycopy out of RANKS -/
theorem m_copyg {i o k N : Nat} {n : Int} (hd : decode μ.2.1 pc = .ok (.invokestatic i, 3)) (hw : CPw μ.1.cls i) (ho : sh o = (20, N)) (hk : 1 ≤ k ∧ k < 4) (h0 : 0 ≤ n) (h1 : n ≤ N) (h2 : n ≤ (gX g k).1) (hdd : 0 < d) (hg : ctg st ≤ 8) (h : T g d μ bc bs (pc + 3) L st sh R (cpI I o (fun j => (gX g k).2 j.toNat) n) Q) : T g d μ bc bs pc L (vi n :: vi 0 :: vr o :: vi 0 :: vr k :: st) sh R I Q := by
  intro p e s m args below meth c0 Rm Z ad0 sh0 mc ms O H locs cells slots ad ls N9
  obtain ⟨n1, n2, n3, n4, n5, n6, n7, n8⟩ := N9
  have hts := O.1.2.2.2.2.2.1
  have ok : ∀ w, w ∈ lw_tbl → goodWord w = true → w.before args s = true := fun w h1 h2 => hts w (List.mem_cons_of_mem _ (lwG_of h1 h2))
  have hSt := O.1.2.2.2.2.2.2
  obtain ⟨x1, x2, x3⟩ := hSt.2.2.2.1 k hk.1 hk.2
  have ea : ad k = gO g k := (n3.2.1 k (Or.inl (by omega))).1
  obtain ⟨dom, d1, d2, hP, hD, q, q1, q2⟩ := n3.dom (t := 20) (o := o) (by rw [ho]) (by omega) (by omega)
  rw [cel_ai (by omega) (by omega), ho] at q2
  have rn : R32 n := (ok2 n4).1
  have hc := ctg_eq (ad := ad) st
  have hl := O.2.1.2.1
  have ez : (Int32.ofInt 0).toNatClampNeg = 0 := rfl
  show W p (gL g) e Rm s m args below meth c0 H locs cells slots Z (F0 m pc ls (.int (Int32.ofInt n) :: .int (Int32.ofInt 0) :: .ref (ad o) :: .int (Int32.ofInt 0) :: .ref (ad k) :: st.map (cv ad)))
  rw [ea]
  refine va_copyx (A := gA g) O.1.1 O.1.2.1 (by rw [O.1.2.2.1]; exact n6.1.symm) O.1.2.2.2.2.1 (ok _ hw.1 rfl) (ok _ hw.2.1 rfl) (ok _ hw.2.2.1 rfl) (ok _ hw.2.2.2 rfl) hSt.1 hP hD n8 x1 (Nat.lt_of_lt_of_le x2 hSt.2.1) (Nat.not_le.mpr x2) q 0 q2 rfl (sp := Int32.ofInt 0) (dp := Int32.ofInt 0) (n := Int32.ofInt n) (by decide) (by decide) (nn32 rn h0) (by rw [r32_cl rn, ez]; omega) (by rw [r32_cl rn, ez]; show 0 + _ ≤ N; omega) (by have := O.2.1.1; omega) (by have := nfw; omega) hd (fun H1 locs1 hP hD hS => ?_)
  have ef : (fun j : Nat => Int32.ofInt ((gX g k).2 j)) = fun j : Nat => Int32.ofInt ((fun j : Int => (gX g k).2 j.toNat) (j : Int)) := rfl
  rw [r32_cl rn, ez, ef, cpy_eq (f := fun j : Int => (gX g k).2 j.toNat) h0] at hP hD
  refine h p e s m args below meth c0 Rm Z ad0 sh0 mc ms O H1 locs1 cells slots ad ls ⟨n1, n2, n3.row (fun x hx => cpI_o hx) (fun i => ⟨fun _ => ?_, fun z => by rw [ho, kd_ai (by omega) (by omega)] at z; cases z⟩) dom d1 d2 q1 (by rw [ho, cel_ai (by omega) (by omega)]) hP hD, (ok1 (ok2 (ok2 n4).2.2).2.2).2, n5, n6, n7, hS⟩
  by_cases hi : 0 ≤ i ∧ i < n
  · rw [cpI_in hi.1 hi.2]
    exact x3 _
  · rw [cpI_out hi]
    exact (n3.2.2.1 o i).1 (by rw [ho]; exact kd_ai (by omega) (by omega))
end
