/-! THE ABSTRACT MACHINE, 4: fields and arrays -/
theorem mem_t {w : Cond} (j : Nat) (h : tables_1[j]? = some w) : w ∈ lw_tbl := List.mem_append_right _ (List.mem_of_getElem? h)
theorem mem_s {w : Cond} (j : Nat) (h : (k2_sels lw_privs)[j]? = some w) : w ∈ lw_tbl := List.mem_append_left _ (List.mem_of_getElem? h)
theorem mem_r {ws : List Cond} (ps : List Nat) (hp : ws = ps.filterMap (fun i => tables_1[i]?)) (h : ws.all goodWord = true) : ∀ w ∈ ws, w ∈ lwG := by
  intro w hw
  refine lwG_of ?_ (List.all_eq_true.mp h w hw)
  rw [hp] at hw
  obtain ⟨i, -, hi⟩ := List.mem_filterMap.mp hw
  exact mem_t i hi
theorem cl_in0 : ∀ w ∈ u_ws RX0 TX0 7, w ∈ lwG := mem_r [256, 258, 260, 262, 264, 266, 268] (by decide +kernel) (by decide +kernel)
theorem cl_in1 : ∀ w ∈ u_ws RX1 TX1 9, w ∈ lwG := mem_r [350, 352, 354, 356, 358, 360, 362, 364, 366] (by decide +kernel) (by decide +kernel)
theorem cl_in2 : ∀ w ∈ u_ws RX2 TX2 5, w ∈ lwG := mem_r [173, 175, 177, 179, 181] (by decide +kernel) (by decide +kernel)
theorem cl_in3 : ∀ w ∈ u_ws RX3 TX3 15, w ∈ lwG := mem_r [491, 493, 495, 497, 499, 501, 503, 505, 507, 509, 511, 513, 515, 517, 519] (by decide +kernel) (by decide +kernel)
theorem cl_in4 : ∀ w ∈ u_ws RX4 TX4 10, w ∈ lwG := mem_r [82, 84, 86, 88, 90, 92, 94, 96, 98, 100] (by decide +kernel) (by decide +kernel)
theorem cl_in5 : ∀ w ∈ u_ws RX5 TX5 8, w ∈ lwG := mem_r [147, 149, 151, 153, 155, 157, 159, 161] (by decide +kernel) (by decide +kernel)
theorem cl_in6 : ∀ w ∈ u_ws RX6 TX6 6, w ∈ lwG := mem_r [201, 203, 205, 207, 209, 211] (by decide +kernel) (by decide +kernel)
theorem cl_in7 : ∀ w ∈ u_ws RX7 TX7 6, w ∈ lwG := mem_r [317, 319, 321, 323, 325, 327] (by decide +kernel) (by decide +kernel)
theorem cl_in8 : ∀ w ∈ u_ws RX8 TX8 4, w ∈ lwG := mem_r [48, 50, 52, 54] (by decide +kernel) (by decide +kernel)
theorem cl_in9 : ∀ w ∈ u_ws RX9 TX9 5, w ∈ lwG := mem_r [290, 292, 294, 296, 298] (by decide +kernel) (by decide +kernel)
theorem cl_in10 : ∀ w ∈ u_ws RX10 TX10 6, w ∈ lwG := mem_r [227, 229, 231, 233, 235, 237] (by decide +kernel) (by decide +kernel)
theorem cl_in11 : ∀ w ∈ u_ws RX11 TX11 8, w ∈ lwG := mem_r [377, 379, 381, 383, 385, 387, 389, 391] (by decide +kernel) (by decide +kernel)
theorem cl_in12 : ∀ w ∈ u_ws RX12 TX12 56, w ∈ lwG := mem_r [1180, 1182, 1184, 1186, 1188, 1190, 1192, 1194, 1196, 1198, 1200, 1202, 1204, 1206, 1208, 1210, 1212, 1214, 1216, 1218, 1220, 1222, 1224, 1226, 1228, 1230, 1232, 1234, 1236, 1238, 1240, 1242, 1244, 1246, 1248, 1250, 1252, 1254, 1256, 1258, 1260, 1262, 1264, 1266, 1268, 1270, 1272, 1274, 1276, 1278, 1280, 1282, 1284, 1286, 1288, 1290] (by decide +kernel) (by decide +kernel)
theorem cl_in : ∀ c, c < 13 → ∀ w ∈ u_ws (clR c) (clF c) (clN c), w ∈ lwG := by
  intro c hc
  match c, hc with
  | 0, _ => exact cl_in0
  | 1, _ => exact cl_in1
  | 2, _ => exact cl_in2
  | 3, _ => exact cl_in3
  | 4, _ => exact cl_in4
  | 5, _ => exact cl_in5
  | 6, _ => exact cl_in6
  | 7, _ => exact cl_in7
  | 8, _ => exact cl_in8
  | 9, _ => exact cl_in9
  | 10, _ => exact cl_in10
  | 11, _ => exact cl_in11
  | 12, _ => exact cl_in12
  | n + 13, h => exact absurd h (by omega)
/-- a class's own pool entry i names field k of class c -/
def FL (own : String) (i c k : Nat) : Prop := c < 13 ∧ k < clN c ∧ Cond.fieldLink own i (clF c k).1 (clF c k).2.1 (clF c k).2.2.1 ∈ lw_tbl
theorem cel_obj {cs : Nat → ClassId} {ad : Nat → Nat} {c n : Nat} {r : Int → Option Nat} {f : Int → Int} (hc : c < 13) : cel cs ad (c + 1) n r f = .inr (c, (List.range (clN c)).map (fun j => fvl ad (tyk (clT c j)) (f j) (r j))) := by
  unfold cel
  rw [if_pos (by omega)]
  rfl
theorem obj_get {N k : Nat} (φ : Nat → Value) (hk : k < N) : ((List.range N).map φ)[k]? = some (φ k) := by rw [List.getElem?_map, List.getElem?_range hk]; rfl
theorem obj_set {N k : Nat} {φ ψ : Nat → Value} (h : ∀ j, j ≠ k → ψ j = φ j) : ((List.range N).map φ).set k (ψ k) = (List.range N).map ψ := by
  apply List.ext_getElem?
  intro i
  rw [List.getElem?_set]
  by_cases hi : k = i
  · subst hi
    rw [if_pos rfl, List.getElem?_map]
    by_cases hN : k < N
    · rw [if_pos (by simpa using hN), List.getElem?_range hN]; rfl
    · rw [if_neg (by simpa using hN), List.getElem?_eq_none (by simpa using hN)]; rfl
  · rw [if_neg hi, List.getElem?_map, List.getElem?_map]
    cases hj : (List.range N)[i]? with
    | none => rfl
    | some j =>
      have : j = i := by
        obtain ⟨h1, h2⟩ := List.getElem?_eq_some_iff.mp hj
        rw [← h2, List.getElem_range]
      subst this
      show some (φ j) = some (ψ j)
      rw [h j (fun e => hi e.symm)]
theorem upI_o {I : II} {o : Nat} {i v : Int} {x : Nat} (h : x ≠ o) : upI I o i v x = I x := funext fun j => if_neg fun q => h q.1
theorem upI_s {I : II} {o : Nat} {i v : Int} : upI I o i v o i = v := if_pos ⟨rfl, rfl⟩
theorem upI_j {I : II} {o x : Nat} {i j v : Int} (h : j ≠ i) : upI I o i v x j = I x j := if_neg fun q => h q.2
theorem upR_o {R : RR} {o : Nat} {i : Int} {v : Option Nat} {x : Nat} (h : x ≠ o) : upR R o i v x = R x := funext fun j => if_neg fun q => h q.1
theorem upR_s {R : RR} {o : Nat} {i : Int} {v : Option Nat} : upR R o i v o i = v := if_pos ⟨rfl, rfl⟩
theorem upR_j {R : RR} {o x : Nat} {i j : Int} {v : Option Nat} (h : j ≠ i) : upR R o i v x j = R x j := if_neg fun q => h q.2
/-- a cell that is not a given one stands among the picture's -/
theorem Rep.dom {g : GH} {ad : Nat → Nat} {sh : SH} {R : RR} {I : II} {H : Heap} (h : Rep g ad sh R I H) {o t : Nat} (ho : (sh o).1 = t) (h0 : 0 < t) (h1 : t < 30) : ∃ dom : List Nat, dom.Nodup ∧ (∀ k, k ∈ dom ↔ (0 < (sh k).1 ∧ (sh k).1 < 30)) ∧ va_P (gD g) vwCl (wsM g ad sh R I dom) H ∧ va_D (gA g) (wsM g ad sh R I dom) ∧ ∃ q : Nat, dom[q]? = some o ∧ (wsM g ad sh R I dom)[q]? = some (ad o, cel (gC g) ad t (sh o).2 (R o) (I o)) := by
  obtain ⟨⟨dom, a, b, c, e⟩, -⟩ := h
  obtain ⟨q, q1, q2⟩ := dom_get (f := fun k => (ad k, cel (gC g) ad (sh k).1 (sh k).2 (R k) (I k))) ((b o).mpr ⟨by omega, by omega⟩)
  exact ⟨dom, a, b, c, e, q, q1, by rw [← ho]; exact q2⟩
theorem kd_obj {c : Nat} {k : Nat} (hc : c < 13) : kd (c + 1) (k : Int) = tyk (clT c k) := by
  unfold kd
  rw [if_pos (by omega)]
  rfl
/-- a number of the picture is changed -/
theorem Rep.setI {g : GH} {ad : Nat → Nat} {sh : SH} {R : RR} {I : II} {H H1 : Heap} {o : Nat} {i a : Int} (h : Rep g ad sh R I H) (hr : (kd (sh o).1 i = 0 → R32 a) ∧ (kd (sh o).1 i = 1 → R64 a))
    (dom : List Nat) (hn : dom.Nodup) (hd : ∀ k, k ∈ dom ↔ (0 < (sh k).1 ∧ (sh k).1 < 30)) {q : Nat} (hq : dom[q]? = some o) {e : va_E} (he : cel (gC g) ad (sh o).1 (sh o).2 (R o) (upI I o i a o) = e)
    (hP : va_P (gD g) vwCl ((wsM g ad sh R I dom).set q (ad o, e)) H1) (hD : va_D (gA g) ((wsM g ad sh R I dom).set q (ad o, e))) : Rep g ad sh R (upI I o i a) H1 := by
  have hs : (wsM g ad sh R I dom).set q (ad o, e) = wsM g ad sh R (upI I o i a) dom := by
    rw [← he]
    exact dom_set (f := fun k => (ad k, cel (gC g) ad (sh k).1 (sh k).2 (R k) (I k))) (f' := fun k => (ad k, cel (gC g) ad (sh k).1 (sh k).2 (R k) (upI I o i a k))) hn hq (fun j hj => by rw [upI_o hj])
  rw [hs] at hP hD
  refine ⟨⟨dom, hn, hd, hP, hD⟩, h.2.1, fun k j => ?_, h.2.2.2⟩
  by_cases hk : k = o ∧ j = i
  · obtain ⟨rfl, rfl⟩ := hk
    rw [upI_s]
    exact hr
  · rw [show upI I o i a k j = I k j from if_neg hk]
    exact h.2.2.1 k j
/-- a reference of the picture is changed -/
theorem Rep.setR {g : GH} {ad : Nat → Nat} {sh : SH} {R : RR} {I : II} {H H1 : Heap} {o : Nat} {i : Int} {a : Option Nat} (h : Rep g ad sh R I H) (hr : ∀ x, a = some x → (sh x).1 ≠ 0)
    (dom : List Nat) (hn : dom.Nodup) (hd : ∀ k, k ∈ dom ↔ (0 < (sh k).1 ∧ (sh k).1 < 30)) {q : Nat} (hq : dom[q]? = some o) {e : va_E} (he : cel (gC g) ad (sh o).1 (sh o).2 (upR R o i a o) (I o) = e)
    (hP : va_P (gD g) vwCl ((wsM g ad sh R I dom).set q (ad o, e)) H1) (hD : va_D (gA g) ((wsM g ad sh R I dom).set q (ad o, e))) : Rep g ad sh (upR R o i a) I H1 := by
  have hs : (wsM g ad sh R I dom).set q (ad o, e) = wsM g ad sh (upR R o i a) I dom := by
    rw [← he]
    exact dom_set (f := fun k => (ad k, cel (gC g) ad (sh k).1 (sh k).2 (R k) (I k))) (f' := fun k => (ad k, cel (gC g) ad (sh k).1 (sh k).2 (upR R o i a k) (I k))) hn hq (fun j hj => by rw [upR_o hj])
  rw [hs] at hP hD
  refine ⟨⟨dom, hn, hd, hP, hD⟩, h.2.1, h.2.2.1, fun k j x hk hx => ?_⟩
  by_cases hkk : k = o ∧ j = i
  · obtain ⟨rfl, rfl⟩ := hkk
    rw [upR_s] at hx
    exact hr x hx
  · rw [show upR R o i a k j = R k j from if_neg hkk] at hx
    exact h.2.2.2 k j x hk hx
section
variable {g : GH} {d : Nat} {μ : MT} {bc bs pc : Nat} {L : List (Option AV)} {st : List AV} {sh : SH} {R : RR} {I : II} {Q : QT}
theorem m_geti {i o c k : Nat} (hd : decode μ.2.1 pc = .ok (.getfield i, 3)) (hf : FL μ.1.cls i c k) (ho : (sh o).1 = c + 1) (hk : tyk (clT c k) = 0) (h : T g d μ bc bs (pc + 3) L (vi (I o k) :: st) sh R I Q) : T g d μ bc bs pc L (vr o :: st) sh R I Q := by
  intro p e s m args below meth c0 Rm Z ad0 sh0 mc ms O H locs cells slots ad ls N
  obtain ⟨n1, n2, n3, n4, n5, n6, n7, n8⟩ := N
  have hts := O.1.2.2.2.2.2.1
  have hK := O.1.2.2.2.2.2.2.1
  obtain ⟨hc, hkN, hw⟩ := hf
  obtain ⟨dom, d1, d2, hP, hD, q, q1, q2⟩ := n3.dom ho (by omega) (by omega)
  rw [cel_obj hc] at q2
  refine va_get (ci := c) (C := clR c) (T := clF c) (N := clN c) O.1.1 O.1.2.1 hts (fun w hw => List.mem_cons_of_mem _ (cl_in c hc w hw)) O.1.2.2.2.2.1 hK hP q q2 (cl_at c hc) k hkN (hts _ (List.mem_cons_of_mem _ (lwG_of hw rfl))) (fun _ h9 => h9) (v := cv ad (vi (I o k))) ?_ hd ?_
  · rw [obj_get _ hkN, hk]; rfl
  · exact h p e s m args below meth c0 Rm Z ad0 sh0 mc ms O H locs cells slots ad ls ⟨n1, n2, n3, okc (show okA sh (vi (I o k)) from (n3.2.2.1 o k).1 (by rw [ho, kd_obj hc]; exact hk)) (ok1 n4).2, n5, n6, n7, n8⟩
theorem m_getl {i o c k : Nat} (hd : decode μ.2.1 pc = .ok (.getfield i, 3)) (hf : FL μ.1.cls i c k) (ho : (sh o).1 = c + 1) (hk : tyk (clT c k) = 1) (h : T g d μ bc bs (pc + 3) L (vl (I o k) :: st) sh R I Q) : T g d μ bc bs pc L (vr o :: st) sh R I Q := by
  intro p e s m args below meth c0 Rm Z ad0 sh0 mc ms O H locs cells slots ad ls N
  obtain ⟨n1, n2, n3, n4, n5, n6, n7, n8⟩ := N
  have hts := O.1.2.2.2.2.2.1
  have hK := O.1.2.2.2.2.2.2.1
  obtain ⟨hc, hkN, hw⟩ := hf
  obtain ⟨dom, d1, d2, hP, hD, q, q1, q2⟩ := n3.dom ho (by omega) (by omega)
  rw [cel_obj hc] at q2
  refine va_get (ci := c) (C := clR c) (T := clF c) (N := clN c) O.1.1 O.1.2.1 hts (fun w hw => List.mem_cons_of_mem _ (cl_in c hc w hw)) O.1.2.2.2.2.1 hK hP q q2 (cl_at c hc) k hkN (hts _ (List.mem_cons_of_mem _ (lwG_of hw rfl))) (fun _ h9 => h9) (v := cv ad (vl (I o k))) ?_ hd ?_
  · rw [obj_get _ hkN, hk]; rfl
  · exact h p e s m args below meth c0 Rm Z ad0 sh0 mc ms O H locs cells slots ad ls ⟨n1, n2, n3, okc (show okA sh (vl (I o k)) from (n3.2.2.1 o k).2 (by rw [ho, kd_obj hc]; exact hk)) (ok1 n4).2, n5, n6, n7, n8⟩
theorem m_getr {i o c k : Nat} (hd : decode μ.2.1 pc = .ok (.getfield i, 3)) (hf : FL μ.1.cls i c k) (ho : (sh o).1 = c + 1) (hk : tyk (clT c k) = 2) (h : T g d μ bc bs (pc + 3) L (vq (R o k) :: st) sh R I Q) : T g d μ bc bs pc L (vr o :: st) sh R I Q := by
  intro p e s m args below meth c0 Rm Z ad0 sh0 mc ms O H locs cells slots ad ls N
  obtain ⟨n1, n2, n3, n4, n5, n6, n7, n8⟩ := N
  have hts := O.1.2.2.2.2.2.1
  have hK := O.1.2.2.2.2.2.2.1
  obtain ⟨hc, hkN, hw⟩ := hf
  obtain ⟨dom, d1, d2, hP, hD, q, q1, q2⟩ := n3.dom ho (by omega) (by omega)
  rw [cel_obj hc] at q2
  refine va_get (ci := c) (C := clR c) (T := clF c) (N := clN c) O.1.1 O.1.2.1 hts (fun w hw => List.mem_cons_of_mem _ (cl_in c hc w hw)) O.1.2.2.2.2.1 hK hP q q2 (cl_at c hc) k hkN (hts _ (List.mem_cons_of_mem _ (lwG_of hw rfl))) (fun _ h9 => h9) (v := cv ad (vq (R o k))) ?_ hd ?_
  · rw [obj_get _ hkN, hk]; rfl
  · exact h p e s m args below meth c0 Rm Z ad0 sh0 mc ms O H locs cells slots ad ls ⟨n1, n2, n3, okc (show okA sh (vq (R o k)) from by cases hR : R o k with | none => exact trivial | some x => exact n3.2.2.2 o k x (by rw [ho]; omega) hR) (ok1 n4).2, n5, n6, n7, n8⟩
theorem m_puti {i o c k : Nat} {a : Int} (hd : decode μ.2.1 pc = .ok (.putfield i, 3)) (hf : FL μ.1.cls i c k) (ho : (sh o).1 = c + 1) (hk : tyk (clT c k) = 0) (hfin : (clF c k).2.2.2 = false) (hn : narrow (clT c k) (.int (Int32.ofInt a)) = .int (Int32.ofInt a)) (hv : fits (clT c k) (.int (Int32.ofInt a)) = true) (h : T g d μ bc bs (pc + 3) L st sh R (upI I o k a) Q) : T g d μ bc bs pc L (vi a :: vr o :: st) sh R I Q := by
  intro p e s m args below meth c0 Rm Z ad0 sh0 mc ms O H locs cells slots ad ls N
  obtain ⟨n1, n2, n3, n4, n5, n6, n7, n8⟩ := N
  have hts := O.1.2.2.2.2.2.1
  have hK := O.1.2.2.2.2.2.2.1
  obtain ⟨hc, hkN, hw⟩ := hf
  obtain ⟨dom, d1, d2, hP, hD, q, q1, q2⟩ := n3.dom ho (by omega) (by omega)
  rw [cel_obj hc] at q2
  refine va_put (ci := c) (C := clR c) (T := clF c) (N := clN c) O.1.1 O.1.2.1 hts (fun w hw => List.mem_cons_of_mem _ (cl_in c hc w hw)) (clT c) (cl_ty c hc) (cl_nm c hc) O.1.2.2.2.2.1 hK hP hD n8 q q2 (cl_at c hc) k hkN (hts _ (List.mem_cons_of_mem _ (lwG_of hw rfl))) (fun _ h9 => h9) hfin (cl_ty c hc k hkN) hn hv (by simpa using hkN) hd (fun H1 locs1 hP hD hS => ?_)
  have hse : ((List.range (clN c)).map (fun j => fvl ad (tyk (clT c j)) (I o j) (R o j))).set k (cv ad (vi a)) = (List.range (clN c)).map (fun j => fvl ad (tyk (clT c j)) (upI I o k a o j) (R o j)) := by
    rw [← obj_set (k := k) (φ := fun j => fvl ad (tyk (clT c j)) (I o j) (R o j)) (ψ := fun j => fvl ad (tyk (clT c j)) (upI I o k a o j) (R o j)) (fun j hj => by rw [upI_j (by omega)])]
    try dsimp only
    rw [upI_s, hk]
    rfl
  erw [hse] at hP hD
  exact h p e s m args below meth c0 Rm Z ad0 sh0 mc ms O H1 locs1 cells slots ad ls ⟨n1, n2, n3.setI ⟨fun _ => (ok2 n4).1, fun z => by rw [ho, kd_obj hc, hk] at z; cases z⟩ dom d1 d2 q1 (by rw [ho, cel_obj hc]) hP hD, (ok2 n4).2.2, n5, n6, n7, hS⟩
theorem m_putl {i o c k : Nat} {a : Int} (hd : decode μ.2.1 pc = .ok (.putfield i, 3)) (hf : FL μ.1.cls i c k) (ho : (sh o).1 = c + 1) (hk : tyk (clT c k) = 1) (hfin : (clF c k).2.2.2 = false) (hty : clT c k = .long) (h : T g d μ bc bs (pc + 3) L st sh R (upI I o k a) Q) : T g d μ bc bs pc L (vl a :: vr o :: st) sh R I Q := by
  intro p e s m args below meth c0 Rm Z ad0 sh0 mc ms O H locs cells slots ad ls N
  obtain ⟨n1, n2, n3, n4, n5, n6, n7, n8⟩ := N
  have hts := O.1.2.2.2.2.2.1
  have hK := O.1.2.2.2.2.2.2.1
  obtain ⟨hc, hkN, hw⟩ := hf
  obtain ⟨dom, d1, d2, hP, hD, q, q1, q2⟩ := n3.dom ho (by omega) (by omega)
  rw [cel_obj hc] at q2
  refine va_put (ci := c) (C := clR c) (T := clF c) (N := clN c) O.1.1 O.1.2.1 hts (fun w hw => List.mem_cons_of_mem _ (cl_in c hc w hw)) (clT c) (cl_ty c hc) (cl_nm c hc) O.1.2.2.2.2.1 hK hP hD n8 q q2 (cl_at c hc) k hkN (hts _ (List.mem_cons_of_mem _ (lwG_of hw rfl))) (fun _ h9 => h9) hfin (cl_ty c hc k hkN) (by rw [hty]; rfl) (by rw [hty]; rfl) (by simpa using hkN) hd (fun H1 locs1 hP hD hS => ?_)
  have hse : ((List.range (clN c)).map (fun j => fvl ad (tyk (clT c j)) (I o j) (R o j))).set k (cv ad (vl a)) = (List.range (clN c)).map (fun j => fvl ad (tyk (clT c j)) (upI I o k a o j) (R o j)) := by
    rw [← obj_set (k := k) (φ := fun j => fvl ad (tyk (clT c j)) (I o j) (R o j)) (ψ := fun j => fvl ad (tyk (clT c j)) (upI I o k a o j) (R o j)) (fun j hj => by rw [upI_j (by omega)])]
    try dsimp only
    rw [upI_s, hk]
    rfl
  erw [hse] at hP hD
  exact h p e s m args below meth c0 Rm Z ad0 sh0 mc ms O H1 locs1 cells slots ad ls ⟨n1, n2, n3.setI ⟨fun z => (by rw [ho, kd_obj hc, hk] at z; cases z), fun _ => (ok2 n4).1⟩ dom d1 d2 q1 (by rw [ho, cel_obj hc]) hP hD, (ok2 n4).2.2, n5, n6, n7, hS⟩
theorem m_putr {i o c k : Nat} {a : Nat} (hd : decode μ.2.1 pc = .ok (.putfield i, 3)) (hf : FL μ.1.cls i c k) (ho : (sh o).1 = c + 1) (hk : tyk (clT c k) = 2) (hfin : (clF c k).2.2.2 = false) (hty : (∃ n, clT c k = .object n) ∨ ∃ n, clT c k = .array n) (h : T g d μ bc bs (pc + 3) L st sh (upR R o k (some a)) I Q) : T g d μ bc bs pc L (vr a :: vr o :: st) sh R I Q := by
  intro p e s m args below meth c0 Rm Z ad0 sh0 mc ms O H locs cells slots ad ls N
  obtain ⟨n1, n2, n3, n4, n5, n6, n7, n8⟩ := N
  have hts := O.1.2.2.2.2.2.1
  have hK := O.1.2.2.2.2.2.2.1
  obtain ⟨hc, hkN, hw⟩ := hf
  obtain ⟨dom, d1, d2, hP, hD, q, q1, q2⟩ := n3.dom ho (by omega) (by omega)
  rw [cel_obj hc] at q2
  refine va_put (ci := c) (C := clR c) (T := clF c) (N := clN c) O.1.1 O.1.2.1 hts (fun w hw => List.mem_cons_of_mem _ (cl_in c hc w hw)) (clT c) (cl_ty c hc) (cl_nm c hc) O.1.2.2.2.2.1 hK hP hD n8 q q2 (cl_at c hc) k hkN (hts _ (List.mem_cons_of_mem _ (lwG_of hw rfl))) (fun _ h9 => h9) hfin (cl_ty c hc k hkN) (by rcases hty with ⟨n, e9⟩ | ⟨n, e9⟩ <;> rw [e9] <;> rfl) (by rcases hty with ⟨n, e9⟩ | ⟨n, e9⟩ <;> rw [e9] <;> rfl) (by simpa using hkN) hd (fun H1 locs1 hP hD hS => ?_)
  have hse : ((List.range (clN c)).map (fun j => fvl ad (tyk (clT c j)) (I o j) (R o j))).set k (cv ad (vr a)) = (List.range (clN c)).map (fun j => fvl ad (tyk (clT c j)) (I o j) (upR R o k (some a) o j)) := by
    rw [← obj_set (k := k) (φ := fun j => fvl ad (tyk (clT c j)) (I o j) (R o j)) (ψ := fun j => fvl ad (tyk (clT c j)) (I o j) (upR R o k (some a) o j)) (fun j hj => by rw [upR_j (by omega)])]
    try dsimp only
    rw [upR_s, hk]
    rfl
  erw [hse] at hP hD
  exact h p e s m args below meth c0 Rm Z ad0 sh0 mc ms O H1 locs1 cells slots ad ls ⟨n1, n2, n3.setR (fun x hx => by cases hx; exact (ok2 n4).1) dom d1 d2 q1 (by rw [ho, cel_obj hc]) hP hD, (ok2 n4).2.2, n5, n6, n7, hS⟩
theorem m_putrF {i o c k : Nat} {a : Nat} (hd : decode μ.2.1 pc = .ok (.putfield i, 3)) (hf : FL μ.1.cls i c k) (ho : (sh o).1 = c + 1) (hk : tyk (clT c k) = 2) (hfin : (clF c k).2.2.2 = true) (hin : μ.1.name = "<init>") (hdec : (clF c k).1 = μ.1.cls) (hty : (∃ n, clT c k = .object n) ∨ ∃ n, clT c k = .array n) (h : T g d μ bc bs (pc + 3) L st sh (upR R o k (some a)) I Q) : T g d μ bc bs pc L (vr a :: vr o :: st) sh R I Q := by
  intro p e s m args below meth c0 Rm Z ad0 sh0 mc ms O H locs cells slots ad ls N
  obtain ⟨n1, n2, n3, n4, n5, n6, n7, n8⟩ := N
  have hts := O.1.2.2.2.2.2.1
  have hK := O.1.2.2.2.2.2.2.1
  obtain ⟨hc, hkN, hw⟩ := hf
  obtain ⟨dom, d1, d2, hP, hD, q, q1, q2⟩ := n3.dom ho (by omega) (by omega)
  rw [cel_obj hc] at q2
  refine va_putF (ci := c) (C := clR c) (T := clF c) (N := clN c) O.1.1 O.1.2.1 hts (fun w hw => List.mem_cons_of_mem _ (cl_in c hc w hw)) (clT c) (cl_ty c hc) (cl_nm c hc) O.1.2.2.2.2.1 hK hP hD n8 q q2 (cl_at c hc) k hkN (hts _ (List.mem_cons_of_mem _ (lwG_of hw rfl))) (fun _ h9 => h9) hfin (by rw [O.1.2.2.2.1]; exact hin) hdec (cl_ty c hc k hkN) (by rcases hty with ⟨n, e9⟩ | ⟨n, e9⟩ <;> rw [e9] <;> rfl) (by rcases hty with ⟨n, e9⟩ | ⟨n, e9⟩ <;> rw [e9] <;> rfl) (by simpa using hkN) hd (fun H1 locs1 hP hD hS => ?_)
  have hse : ((List.range (clN c)).map (fun j => fvl ad (tyk (clT c j)) (I o j) (R o j))).set k (cv ad (vr a)) = (List.range (clN c)).map (fun j => fvl ad (tyk (clT c j)) (I o j) (upR R o k (some a) o j)) := by
    rw [← obj_set (k := k) (φ := fun j => fvl ad (tyk (clT c j)) (I o j) (R o j)) (ψ := fun j => fvl ad (tyk (clT c j)) (I o j) (upR R o k (some a) o j)) (fun j hj => by rw [upR_j (by omega)])]
    try dsimp only
    rw [upR_s, hk]
    rfl
  erw [hse] at hP hD
  exact h p e s m args below meth c0 Rm Z ad0 sh0 mc ms O H1 locs1 cells slots ad ls ⟨n1, n2, n3.setR (fun x hx => by cases hx; exact (ok2 n4).1) dom d1 d2 q1 (by rw [ho, cel_obj hc]) hP hD, (ok2 n4).2.2, n5, n6, n7, hS⟩
theorem cel_ai {cs : Nat → ClassId} {ad : Nat → Nat} {t n : Nat} {r : Int → Option Nat} {f : Int → Int} (h0 : 20 ≤ t) (h1 : t < 24) : cel cs ad t n r f = .inl (cs (t - 20), n, .inl (fun j => Int32.ofInt (f j))) := by
  unfold cel
  rw [if_neg (by omega), if_pos h1]
theorem cel_al {cs : Nat → ClassId} {ad : Nat → Nat} {n : Nat} {r : Int → Option Nat} {f : Int → Int} : cel cs ad 24 n r f = .inl (cs 4, n, .inr (.inl (fun j => Int64.ofInt (f j)))) := by
  unfold cel
  rw [if_neg (by omega), if_neg (by omega), if_pos rfl]
theorem cel_aq {cs : Nat → ClassId} {ad : Nat → Nat} {t n : Nat} {r : Int → Option Nat} {f : Int → Int} (h0 : 25 ≤ t) : cel cs ad t n r f = .inl (cs (t - 20), n, .inr (.inr (.inr (.inr (fun j => (r j).map ad))))) := by
  unfold cel
  rw [if_neg (by omega), if_neg (by omega), if_neg (by omega)]
theorem kd_ai {t : Nat} {i : Int} (h0 : 20 ≤ t) (h1 : t < 24) : kd t i = 0 := by
  unfold kd
  rw [if_neg (by omega), if_pos h1]
theorem kd_al {i : Int} : kd 24 i = 1 := by
  unfold kd
  rw [if_neg (by omega), if_neg (by omega), if_pos rfl]
theorem upd_i {f : Int → Int} {I : II} {o : Nat} {i a : Int} (h0 : 0 ≤ i) (hf : I o = f) {b : Int32} (hb : Int32.ofInt a = b) : upd (fun j : Nat => Int32.ofInt (f j)) i.toNat b = fun j : Nat => Int32.ofInt (upI I o i a o j) := by
  subst hf; subst hb
  funext j
  unfold upd
  by_cases h : j = i.toNat
  · subst h
    rw [if_pos rfl, show ((i.toNat : Nat) : Int) = i by omega, upI_s]
  · rw [if_neg h, upI_j (by omega)]
theorem m_iald {o n : Nat} {i : Int} (hd : decode μ.2.1 pc = .ok (.iaload, 1)) (ho : sh o = (20, n)) (h0 : 0 ≤ i) (h1 : i < n) (h : T g d μ bc bs (pc + 1) L (vi (I o i) :: st) sh R I Q) : T g d μ bc bs pc L (vi i :: vr o :: st) sh R I Q := by
  intro p e s m args below meth c0 Rm Z ad0 sh0 mc ms O H locs cells slots ad ls N
  obtain ⟨n1, n2, n3, n4, n5, n6, n7, n8⟩ := N
  have hts := O.1.2.2.2.2.2.1
  have hK := O.1.2.2.2.2.2.2.1
  obtain ⟨dom, d1, d2, hP, hD, q, q1, q2⟩ := n3.dom (t := 20) (by rw [ho]) (by omega) (by omega)
  rw [cel_ai (by omega) (by omega), ho] at q2
  refine va_iald O.1.1 O.1.2.1 hK hP q 0 q2 rfl (r32_in (ok2 n4).1 h0 h1) hd ?_
  rw [r32_cl (ok2 n4).1, show ((i.toNat : Nat) : Int) = i by omega]
  exact h p e s m args below meth c0 Rm Z ad0 sh0 mc ms O H locs cells slots ad ls ⟨n1, n2, n3, okc (show okA sh (vi (I o i)) from (n3.2.2.1 o i).1 (by rw [ho]; exact kd_ai (by omega) (by omega))) (ok2 n4).2.2, n5, n6, n7, n8⟩
theorem m_zald {o n : Nat} {i : Int} (hd : decode μ.2.1 pc = .ok (.baload, 1)) (ho : sh o = (21, n)) (h0 : 0 ≤ i) (h1 : i < n) (h : T g d μ bc bs (pc + 1) L (vi (I o i) :: st) sh R I Q) : T g d μ bc bs pc L (vi i :: vr o :: st) sh R I Q := by
  intro p e s m args below meth c0 Rm Z ad0 sh0 mc ms O H locs cells slots ad ls N
  obtain ⟨n1, n2, n3, n4, n5, n6, n7, n8⟩ := N
  have hts := O.1.2.2.2.2.2.1
  have hK := O.1.2.2.2.2.2.2.1
  obtain ⟨dom, d1, d2, hP, hD, q, q1, q2⟩ := n3.dom (t := 21) (by rw [ho]) (by omega) (by omega)
  rw [cel_ai (by omega) (by omega), ho] at q2
  refine va_zald O.1.1 O.1.2.1 hK hP q 1 q2 rfl (r32_in (ok2 n4).1 h0 h1) hd ?_
  rw [r32_cl (ok2 n4).1, show ((i.toNat : Nat) : Int) = i by omega]
  exact h p e s m args below meth c0 Rm Z ad0 sh0 mc ms O H locs cells slots ad ls ⟨n1, n2, n3, okc (show okA sh (vi (I o i)) from (n3.2.2.1 o i).1 (by rw [ho]; exact kd_ai (by omega) (by omega))) (ok2 n4).2.2, n5, n6, n7, n8⟩
theorem m_bald {o n : Nat} {i : Int} (hd : decode μ.2.1 pc = .ok (.baload, 1)) (ho : sh o = (22, n)) (h0 : 0 ≤ i) (h1 : i < n) (h : T g d μ bc bs (pc + 1) L (vi (I o i) :: st) sh R I Q) : T g d μ bc bs pc L (vi i :: vr o :: st) sh R I Q := by
  intro p e s m args below meth c0 Rm Z ad0 sh0 mc ms O H locs cells slots ad ls N
  obtain ⟨n1, n2, n3, n4, n5, n6, n7, n8⟩ := N
  have hts := O.1.2.2.2.2.2.1
  have hK := O.1.2.2.2.2.2.2.1
  obtain ⟨dom, d1, d2, hP, hD, q, q1, q2⟩ := n3.dom (t := 22) (by rw [ho]) (by omega) (by omega)
  rw [cel_ai (by omega) (by omega), ho] at q2
  refine va_bald O.1.1 O.1.2.1 hK hP q 2 q2 rfl (r32_in (ok2 n4).1 h0 h1) hd ?_
  rw [r32_cl (ok2 n4).1, show ((i.toNat : Nat) : Int) = i by omega]
  exact h p e s m args below meth c0 Rm Z ad0 sh0 mc ms O H locs cells slots ad ls ⟨n1, n2, n3, okc (show okA sh (vi (I o i)) from (n3.2.2.1 o i).1 (by rw [ho]; exact kd_ai (by omega) (by omega))) (ok2 n4).2.2, n5, n6, n7, n8⟩
theorem m_cald {o n : Nat} {i : Int} (hd : decode μ.2.1 pc = .ok (.caload, 1)) (ho : sh o = (23, n)) (h0 : 0 ≤ i) (h1 : i < n) (h : T g d μ bc bs (pc + 1) L (vi (I o i) :: st) sh R I Q) : T g d μ bc bs pc L (vi i :: vr o :: st) sh R I Q := by
  intro p e s m args below meth c0 Rm Z ad0 sh0 mc ms O H locs cells slots ad ls N
  obtain ⟨n1, n2, n3, n4, n5, n6, n7, n8⟩ := N
  have hts := O.1.2.2.2.2.2.1
  have hK := O.1.2.2.2.2.2.2.1
  obtain ⟨dom, d1, d2, hP, hD, q, q1, q2⟩ := n3.dom (t := 23) (by rw [ho]) (by omega) (by omega)
  rw [cel_ai (by omega) (by omega), ho] at q2
  refine va_cald O.1.1 O.1.2.1 hK hP q 3 q2 rfl (r32_in (ok2 n4).1 h0 h1) hd ?_
  rw [r32_cl (ok2 n4).1, show ((i.toNat : Nat) : Int) = i by omega]
  exact h p e s m args below meth c0 Rm Z ad0 sh0 mc ms O H locs cells slots ad ls ⟨n1, n2, n3, okc (show okA sh (vi (I o i)) from (n3.2.2.1 o i).1 (by rw [ho]; exact kd_ai (by omega) (by omega))) (ok2 n4).2.2, n5, n6, n7, n8⟩
theorem m_lald {o n : Nat} {i : Int} (hd : decode μ.2.1 pc = .ok (.laload, 1)) (ho : sh o = (24, n)) (h0 : 0 ≤ i) (h1 : i < n) (h : T g d μ bc bs (pc + 1) L (vl (I o i) :: st) sh R I Q) : T g d μ bc bs pc L (vi i :: vr o :: st) sh R I Q := by
  intro p e s m args below meth c0 Rm Z ad0 sh0 mc ms O H locs cells slots ad ls N
  obtain ⟨n1, n2, n3, n4, n5, n6, n7, n8⟩ := N
  have hts := O.1.2.2.2.2.2.1
  have hK := O.1.2.2.2.2.2.2.1
  obtain ⟨dom, d1, d2, hP, hD, q, q1, q2⟩ := n3.dom (t := 24) (by rw [ho]) (by omega) (by omega)
  rw [cel_al, ho] at q2
  refine va_lald O.1.1 O.1.2.1 hK hP q 4 q2 rfl (r32_in (ok2 n4).1 h0 h1) hd ?_
  rw [r32_cl (ok2 n4).1, show ((i.toNat : Nat) : Int) = i by omega]
  exact h p e s m args below meth c0 Rm Z ad0 sh0 mc ms O H locs cells slots ad ls ⟨n1, n2, n3, okc (show okA sh (vl (I o i)) from (n3.2.2.1 o i).2 (by rw [ho]; exact kd_al)) (ok2 n4).2.2, n5, n6, n7, n8⟩
theorem m_aald {o n t : Nat} {i : Int} (hd : decode μ.2.1 pc = .ok (.aaload, 1)) (ho : sh o = (t, n)) (ht : 25 ≤ t ∧ t < 28) (h0 : 0 ≤ i) (h1 : i < n) (h : T g d μ bc bs (pc + 1) L (vq (R o i) :: st) sh R I Q) : T g d μ bc bs pc L (vi i :: vr o :: st) sh R I Q := by
  intro p e s m args below meth c0 Rm Z ad0 sh0 mc ms O H locs cells slots ad ls N
  obtain ⟨n1, n2, n3, n4, n5, n6, n7, n8⟩ := N
  have hts := O.1.2.2.2.2.2.1
  have hK := O.1.2.2.2.2.2.2.1
  obtain ⟨dom, d1, d2, hP, hD, q, q1, q2⟩ := n3.dom (t := t) (by rw [ho]) (by omega) (by omega)
  rw [cel_aq (by omega), ho] at q2
  have hlt : i.toNat < n := by omega
  have htys : ∃ ty, (tysG (gC g))[t - 20]? = some (gC g (t - 20), ty) ∧ ty.isReference = true := by
    rcases (show t = 25 ∨ t = 26 ∨ t = 27 by omega) with rfl | rfl | rfl
    · exact ⟨_, rfl, rfl⟩
    · exact ⟨_, rfl, rfl⟩
    · exact ⟨_, rfl, rfl⟩
  obtain ⟨ty, e1, e2⟩ := htys
  have ei : (Int32.ofInt i).toNatClampNeg = i.toNat := r32_cl (ok2 n4).1
  refine W.aald (v := cv ad (vq (R o i))) (ty := ty) O.1.1 O.1.2.1 (hP q _ q2) ((hK.2 (t - 20) _ e1).1 n (fun j => va_rf ((R o j).map ad))) e2 (fun q => by cases q) (by show ¬ (_ ∨ (arrV _ _ _).slots.size ≤ _); rw [arrV_size]; exact r32_in (ok2 n4).1 h0 h1) (by show (arrV _ _ _).slots[_]? = _; rw [ei, arrV_read _ _ hlt]; show some (va_rf ((R o ((i.toNat : Nat) : Int)).map ad)) = _; rw [show ((i.toNat : Nat) : Int) = i by omega]; rfl) rfl rfl hd ?_
  exact h p e s m args below meth c0 Rm Z ad0 sh0 mc ms O H locs cells slots ad ls ⟨n1, n2, n3, okc (show okA sh (vq (R o i)) from by cases hR : R o i with | none => exact trivial | some x => exact n3.2.2.2 o i x (by rw [ho]; exact (by omega : 0 < t)) hR) (ok2 n4).2.2, n5, n6, n7, n8⟩
theorem m_iast {o n : Nat} {i a : Int} (hd : decode μ.2.1 pc = .ok (.iastore, 1)) (ho : sh o = (20, n)) (h0 : 0 ≤ i) (h1 : i < n) (h : T g d μ bc bs (pc + 1) L st sh R (upI I o i a) Q) : T g d μ bc bs pc L (vi a :: vi i :: vr o :: st) sh R I Q := by
  intro p e s m args below meth c0 Rm Z ad0 sh0 mc ms O H locs cells slots ad ls N
  obtain ⟨n1, n2, n3, n4, n5, n6, n7, n8⟩ := N
  have hts := O.1.2.2.2.2.2.1
  have hK := O.1.2.2.2.2.2.2.1
  obtain ⟨dom, d1, d2, hP, hD, q, q1, q2⟩ := n3.dom (t := 20) (by rw [ho]) (by omega) (by omega)
  rw [cel_ai (by omega) (by omega), ho] at q2
  have ri : R32 i := (ok2 n4).2.1
  refine va_iast O.1.1 O.1.2.1 hK hP hD n8 q 0 q2 rfl (r32_in ri h0 h1) hd (fun H1 locs1 hP hD hS => ?_)
  rw [r32_cl ri, upd_i (I := I) (o := o) (a := a) h0 rfl (rfl)] at hP hD
  exact h p e s m args below meth c0 Rm Z ad0 sh0 mc ms O H1 locs1 cells slots ad ls ⟨n1, n2, n3.setI ⟨fun _ => (ok2 n4).1, fun z => by rw [ho, kd_ai (by omega) (by omega)] at z; cases z⟩ dom d1 d2 q1 (by rw [ho, cel_ai (by omega) (by omega)]) hP hD, (ok1 (ok2 n4).2.2).2, n5, n6, n7, hS⟩
theorem m_zast {o n : Nat} {i a : Int} (hd : decode μ.2.1 pc = .ok (.bastore, 1)) (ho : sh o = (21, n)) (h0 : 0 ≤ i) (h1 : i < n) (hv : vp_nar .boolean (Int32.ofInt a) = Int32.ofInt a) (h : T g d μ bc bs (pc + 1) L st sh R (upI I o i a) Q) : T g d μ bc bs pc L (vi a :: vi i :: vr o :: st) sh R I Q := by
  intro p e s m args below meth c0 Rm Z ad0 sh0 mc ms O H locs cells slots ad ls N
  obtain ⟨n1, n2, n3, n4, n5, n6, n7, n8⟩ := N
  have hts := O.1.2.2.2.2.2.1
  have hK := O.1.2.2.2.2.2.2.1
  obtain ⟨dom, d1, d2, hP, hD, q, q1, q2⟩ := n3.dom (t := 21) (by rw [ho]) (by omega) (by omega)
  rw [cel_ai (by omega) (by omega), ho] at q2
  have ri : R32 i := (ok2 n4).2.1
  refine va_zast O.1.1 O.1.2.1 hK hP hD n8 q 1 q2 rfl (r32_in ri h0 h1) hd (fun H1 locs1 hP hD hS => ?_)
  rw [r32_cl ri, upd_i (I := I) (o := o) (a := a) h0 rfl (hv.symm)] at hP hD
  exact h p e s m args below meth c0 Rm Z ad0 sh0 mc ms O H1 locs1 cells slots ad ls ⟨n1, n2, n3.setI ⟨fun _ => (ok2 n4).1, fun z => by rw [ho, kd_ai (by omega) (by omega)] at z; cases z⟩ dom d1 d2 q1 (by rw [ho, cel_ai (by omega) (by omega)]) hP hD, (ok1 (ok2 n4).2.2).2, n5, n6, n7, hS⟩
theorem m_bast {o n : Nat} {i a : Int} (hd : decode μ.2.1 pc = .ok (.bastore, 1)) (ho : sh o = (22, n)) (h0 : 0 ≤ i) (h1 : i < n) (hv : vp_nar .byte (Int32.ofInt a) = Int32.ofInt a) (h : T g d μ bc bs (pc + 1) L st sh R (upI I o i a) Q) : T g d μ bc bs pc L (vi a :: vi i :: vr o :: st) sh R I Q := by
  intro p e s m args below meth c0 Rm Z ad0 sh0 mc ms O H locs cells slots ad ls N
  obtain ⟨n1, n2, n3, n4, n5, n6, n7, n8⟩ := N
  have hts := O.1.2.2.2.2.2.1
  have hK := O.1.2.2.2.2.2.2.1
  obtain ⟨dom, d1, d2, hP, hD, q, q1, q2⟩ := n3.dom (t := 22) (by rw [ho]) (by omega) (by omega)
  rw [cel_ai (by omega) (by omega), ho] at q2
  have ri : R32 i := (ok2 n4).2.1
  refine va_bast O.1.1 O.1.2.1 hK hP hD n8 q 2 q2 rfl (r32_in ri h0 h1) hd (fun H1 locs1 hP hD hS => ?_)
  rw [r32_cl ri, upd_i (I := I) (o := o) (a := a) h0 rfl (hv.symm)] at hP hD
  exact h p e s m args below meth c0 Rm Z ad0 sh0 mc ms O H1 locs1 cells slots ad ls ⟨n1, n2, n3.setI ⟨fun _ => (ok2 n4).1, fun z => by rw [ho, kd_ai (by omega) (by omega)] at z; cases z⟩ dom d1 d2 q1 (by rw [ho, cel_ai (by omega) (by omega)]) hP hD, (ok1 (ok2 n4).2.2).2, n5, n6, n7, hS⟩
theorem m_cast {o n : Nat} {i a : Int} (hd : decode μ.2.1 pc = .ok (.castore, 1)) (ho : sh o = (23, n)) (h0 : 0 ≤ i) (h1 : i < n) (hv : vp_nar .char (Int32.ofInt a) = Int32.ofInt a) (h : T g d μ bc bs (pc + 1) L st sh R (upI I o i a) Q) : T g d μ bc bs pc L (vi a :: vi i :: vr o :: st) sh R I Q := by
  intro p e s m args below meth c0 Rm Z ad0 sh0 mc ms O H locs cells slots ad ls N
  obtain ⟨n1, n2, n3, n4, n5, n6, n7, n8⟩ := N
  have hts := O.1.2.2.2.2.2.1
  have hK := O.1.2.2.2.2.2.2.1
  obtain ⟨dom, d1, d2, hP, hD, q, q1, q2⟩ := n3.dom (t := 23) (by rw [ho]) (by omega) (by omega)
  rw [cel_ai (by omega) (by omega), ho] at q2
  have ri : R32 i := (ok2 n4).2.1
  refine va_cast O.1.1 O.1.2.1 hK hP hD n8 q 3 q2 rfl (r32_in ri h0 h1) hd (fun H1 locs1 hP hD hS => ?_)
  rw [r32_cl ri, upd_i (I := I) (o := o) (a := a) h0 rfl (hv.symm)] at hP hD
  exact h p e s m args below meth c0 Rm Z ad0 sh0 mc ms O H1 locs1 cells slots ad ls ⟨n1, n2, n3.setI ⟨fun _ => (ok2 n4).1, fun z => by rw [ho, kd_ai (by omega) (by omega)] at z; cases z⟩ dom d1 d2 q1 (by rw [ho, cel_ai (by omega) (by omega)]) hP hD, (ok1 (ok2 n4).2.2).2, n5, n6, n7, hS⟩
theorem m_last {o n : Nat} {i a : Int} (hd : decode μ.2.1 pc = .ok (.lastore, 1)) (ho : sh o = (24, n)) (h0 : 0 ≤ i) (h1 : i < n) (h : T g d μ bc bs (pc + 1) L st sh R (upI I o i a) Q) : T g d μ bc bs pc L (vl a :: vi i :: vr o :: st) sh R I Q := by
  intro p e s m args below meth c0 Rm Z ad0 sh0 mc ms O H locs cells slots ad ls N
  obtain ⟨n1, n2, n3, n4, n5, n6, n7, n8⟩ := N
  have hts := O.1.2.2.2.2.2.1
  have hK := O.1.2.2.2.2.2.2.1
  obtain ⟨dom, d1, d2, hP, hD, q, q1, q2⟩ := n3.dom (t := 24) (by rw [ho]) (by omega) (by omega)
  rw [cel_al, ho] at q2
  have ri : R32 i := (ok2 n4).2.1
  refine va_last O.1.1 O.1.2.1 hK hP hD n8 q 4 q2 rfl (r32_in ri h0 h1) hd (fun H1 locs1 hP hD hS => ?_)
  have eu : vp_updL (fun j : Nat => Int64.ofInt (I o j)) (Int32.ofInt i).toNatClampNeg (Int64.ofInt a) = fun j : Nat => Int64.ofInt (upI I o i a o j) := by
    funext j
    unfold vp_updL
    rw [r32_cl ri]
    by_cases h : j = i.toNat
    · subst h
      rw [if_pos rfl, show ((i.toNat : Nat) : Int) = i by omega, upI_s]
    · rw [if_neg h, upI_j (by omega)]
  rw [eu] at hP hD
  exact h p e s m args below meth c0 Rm Z ad0 sh0 mc ms O H1 locs1 cells slots ad ls ⟨n1, n2, n3.setI ⟨fun z => (by rw [ho, kd_al] at z; cases z), fun _ => (ok2 n4).1⟩ dom d1 d2 q1 (by rw [ho, cel_al]) hP hD, (ok1 (ok2 n4).2.2).2, n5, n6, n7, hS⟩
theorem m_alen {o n t : Nat} (hd : decode μ.2.1 pc = .ok (.arraylength, 1)) (ho : sh o = (t, n)) (ht : 20 ≤ t ∧ t < 28) (hn : n < 2147483648) (h : T g d μ bc bs (pc + 1) L (vi (n : Int) :: st) sh R I Q) : T g d μ bc bs pc L (vr o :: st) sh R I Q := by
  intro p e s m args below meth c0 Rm Z ad0 sh0 mc ms O H locs cells slots ad ls N
  obtain ⟨n1, n2, n3, n4, n5, n6, n7, n8⟩ := N
  have hts := O.1.2.2.2.2.2.1
  have hK := O.1.2.2.2.2.2.2.1
  obtain ⟨dom, d1, d2, hP, hD, q, q1, q2⟩ := n3.dom (t := t) (by rw [ho]) (by omega) (by omega)
  have hk : ∃ (x : vp_A) (ty : FieldType), cel (gC g) ad t (sh o).2 (R o) (I o) = .inl (gC g (t - 20), x) ∧ x.1 = n ∧ (tysG (gC g))[t - 20]? = some (gC g (t - 20), ty) := by
    rw [ho]
    rcases (show t < 24 ∨ t = 24 ∨ 25 ≤ t by omega) with h1 | rfl | h1
    · refine ⟨_, ?_, cel_ai ht.1 h1, rfl, ?_⟩
      · exact match t - 20 with | 0 => .int | 1 => .boolean | 2 => .byte | _ => .char
      · rcases (show t = 20 ∨ t = 21 ∨ t = 22 ∨ t = 23 by omega) with rfl | rfl | rfl | rfl <;> rfl
    · exact ⟨_, .long, cel_al, rfl, rfl⟩
    · refine ⟨_, ?_, cel_aq h1, rfl, ?_⟩
      · exact match t - 25 with | 0 => .object RX3 | 1 => .object RX5 | _ => .array .int
      · rcases (show t = 25 ∨ t = 26 ∨ t = 27 by omega) with rfl | rfl | rfl <;> rfl
  obtain ⟨x, ty, e1, e2, e3⟩ := hk
  rw [e1] at q2
  refine va_alen O.1.1 O.1.2.1 hK hP q (t - 20) q2 e3 (v := Int32.ofInt (n : Int)) (by rw [e2, Int32.ofInt_eq_ofNat]) hd ?_
  exact h p e s m args below meth c0 Rm Z ad0 sh0 mc ms O H locs cells slots ad ls ⟨n1, n2, n3, okc (show R32 (n : Int) by omega) (ok1 n4).2, n5, n6, n7, n8⟩
theorem m_aast {o n t : Nat} {i : Int} {a c : Nat} (hd : decode μ.2.1 pc = .ok (.aastore, 1)) (ho : sh o = (t, n)) (ht : (t = 25 ∧ c = 3) ∨ (t = 26 ∧ c = 5)) (ha : (sh a).1 = c + 1) (h0 : 0 ≤ i) (h1 : i < n) (h : T g d μ bc bs (pc + 1) L st sh (upR R o i (some a)) I Q) : T g d μ bc bs pc L (vr a :: vi i :: vr o :: st) sh R I Q := by
  intro p e s m args below meth c0 Rm Z ad0 sh0 mc ms O H locs cells slots ad ls N
  obtain ⟨n1, n2, n3, n4, n5, n6, n7, n8⟩ := N
  have hts := O.1.2.2.2.2.2.1
  have hK := O.1.2.2.2.2.2.2.1
  obtain ⟨dom, d1, d2, hP, hD, q, q1, q2⟩ := n3.dom (t := t) (by rw [ho]) (by omega) (by omega)
  have hc : c < 13 := by omega
  have hma : a ∈ dom := (d2 a).mpr ⟨by omega, by omega⟩
  obtain ⟨qa, -, qa2⟩ := dom_get (f := fun k => (ad k, cel (gC g) ad (sh k).1 (sh k).2 (R k) (I k))) hma
  rw [ha, cel_obj hc] at qa2
  rw [cel_aq (by omega), ho] at q2
  have ri : R32 i := (ok2 n4).2.1
  have htys : (tysG (gC g))[t - 20]? = some (gC g (t - 20), .object (clR c, clF c, clN c).1) := by
    rcases ht with ⟨rfl, rfl⟩ | ⟨rfl, rfl⟩ <;> rfl
  refine va_astq O.1.1 O.1.2.1 hK hP hD n8 q (t - 20) qa c q2 htys qa2 (cl_at c hc) (r32_in ri h0 h1) hd (fun H1 locs1 hP hD hS => ?_)
  have eu : va_up (fun j : Nat => (R o j).map ad) (Int32.ofInt i).toNatClampNeg (some (ad a)) = fun j : Nat => (upR R o i (some a) o j).map ad := by
    funext j
    unfold va_up
    rw [r32_cl ri]
    by_cases h : j = i.toNat
    · subst h
      rw [if_pos rfl, show ((i.toNat : Nat) : Int) = i by omega, upR_s]
      rfl
    · rw [if_neg h, upR_j (by omega)]
  rw [eu] at hP hD
  exact h p e s m args below meth c0 Rm Z ad0 sh0 mc ms O H1 locs1 cells slots ad ls ⟨n1, n2, n3.setR (fun x hx => by cases hx; exact (ok2 n4).1) dom d1 d2 q1 (by rw [ho, cel_aq (by show 25 ≤ t; omega)]) hP hD, (ok1 (ok2 n4).2.2).2, n5, n6, n7, hS⟩
end
