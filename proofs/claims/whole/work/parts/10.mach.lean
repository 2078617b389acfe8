/-! THE ABSTRACT MACHINE: ids for addresses, Int for numbers. A value: a number of 32 bits, one of 64, a reference (an id, or null). -/
abbrev AV : Type := Int ⊕ Int ⊕ Option Nat
abbrev vi (a : Int) : AV := Sum.inl a
abbrev vl (a : Int) : AV := Sum.inr (Sum.inl a)
abbrev vq (o : Option Nat) : AV := Sum.inr (Sum.inr o)
abbrev vr (k : Nat) : AV := Sum.inr (Sum.inr (some k))
abbrev vn : AV := Sum.inr (Sum.inr none)
def cv (ad : Nat → Nat) : AV → Value
  | .inl a => .int (Int32.ofInt a)
  | .inr (.inl a) => .long (Int64.ofInt a)
  | .inr (.inr o) => va_rf (o.map ad)
abbrev SH : Type := Nat → Nat × Nat
abbrev RR : Type := Nat → Int → Option Nat
abbrev II : Type := Nat → Int → Int
abbrev R32 (a : Int) : Prop := -2147483648 ≤ a ∧ a ≤ 2147483647
abbrev R64 (a : Int) : Prop := -9223372036854775808 ≤ a ∧ a ≤ 9223372036854775807
def okA (sh : SH) : AV → Prop
  | .inl a => R32 a
  | .inr (.inl a) => R64 a
  | .inr (.inr none) => True
  | .inr (.inr (some k)) => (sh k).1 ≠ 0
def upI (I : II) (o : Nat) (i v : Int) : II := fun x j => if x = o ∧ j = i then v else I x j
def upR (R : RR) (o : Nat) (i : Int) (v : Option Nat) : RR := fun x j => if x = o ∧ j = i then v else R x j
def nwS (sh : SH) (o t n : Nat) : SH := fun x => if x = o then (t, n) else sh x
def nwI (I : II) (o : Nat) : II := fun x j => if x = o then 0 else I x j
def nwR (R : RR) (o : Nat) : RR := fun x j => if x = o then none else R x j
theorem r32_toInt {a : Int} (h : R32 a) : (Int32.ofInt a).toInt = a := by
  unfold R32 at h
  exact Int32.toInt_ofInt_of_le (by omega) (by omega)
theorem r64_toInt {a : Int} (h : R64 a) : (Int64.ofInt a).toInt = a := by
  unfold R64 at h
  exact Int64.toInt_ofInt_of_le (by omega) (by omega)
theorem r32_of (x : Int32) : R32 x.toInt := ⟨Int32.le_toInt x, by have := Int32.toInt_lt x; omega⟩
theorem r64_of (x : Int64) : R64 x.toInt := ⟨Int64.le_toInt x, by have := Int64.toInt_lt x; omega⟩
theorem r32_eq {a : Int} {x : Int32} (h : x.toInt = a) : Int32.ofInt a = x := by rw [← h]; exact Int32.ofInt_toInt x
theorem r64_eq {a : Int} {x : Int64} (h : x.toInt = a) : Int64.ofInt a = x := by rw [← h]; exact Int64.ofInt_toInt x
theorem r32_lt {a b : Int} (ha : R32 a) (hb : R32 b) : Int32.ofInt a < Int32.ofInt b ↔ a < b := by rw [Int32.lt_iff_toInt_lt, r32_toInt ha, r32_toInt hb]
theorem r32_le {a b : Int} (ha : R32 a) (hb : R32 b) : Int32.ofInt a ≤ Int32.ofInt b ↔ a ≤ b := by rw [Int32.le_iff_toInt_le, r32_toInt ha, r32_toInt hb]
theorem r32_inj {a b : Int} (ha : R32 a) (hb : R32 b) : Int32.ofInt a = Int32.ofInt b ↔ a = b := ⟨fun h => by rw [← r32_toInt ha, ← r32_toInt hb, h], fun h => by rw [h]⟩
theorem r32_0 : Int32.ofInt 0 = 0 := rfl
theorem r32_cl {a : Int} (h : R32 a) : (Int32.ofInt a).toNatClampNeg = a.toNat := by
  rw [Int32.toNatClampNeg, r32_toInt h]
theorem r32_in {a : Int} {n : Nat} (h : R32 a) (h0 : 0 ≤ a) (hn : a < n) : vp_in (Int32.ofInt a) n := by
  rw [vp_in_iff, r32_toInt h]; exact ⟨h0, hn⟩
/-- the kinds of a slot: 0 a number of 32 bits, 1 of 64, 2 a reference -/
def tyk (ty : FieldType) : Nat := match ty with
  | .long => 1
  | .object _ => 2
  | .array _ => 2
  | _ => 0
def clT : Nat → Nat → FieldType
  | 0 => tyX0 | 1 => tyX1 | 2 => tyX2 | 3 => tyX3 | 4 => tyX4 | 5 => tyX5 | 6 => tyX6 | 7 => tyX7 | 8 => tyX8 | 9 => tyX9 | 10 => tyX10 | 11 => tyX11 | _ => tyX12
def clF : Nat → u_T
  | 0 => TX0 | 1 => TX1 | 2 => TX2 | 3 => TX3 | 4 => TX4 | 5 => TX5 | 6 => TX6 | 7 => TX7 | 8 => TX8 | 9 => TX9 | 10 => TX10 | 11 => TX11 | _ => TX12
def clR : Nat → String
  | 0 => RX0 | 1 => RX1 | 2 => RX2 | 3 => RX3 | 4 => RX4 | 5 => RX5 | 6 => RX6 | 7 => RX7 | 8 => RX8 | 9 => RX9 | 10 => RX10 | 11 => RX11 | _ => RX12
def clN : Nat → Nat
  | 0 => 7 | 1 => 9 | 2 => 5 | 3 => 15 | 4 => 10 | 5 => 8 | 6 => 6 | 7 => 6 | 8 => 4 | 9 => 5 | 10 => 6 | 11 => 8 | _ => 56
theorem cl_at : ∀ c, c < 13 → vwCl[c]? = some (clR c, clF c, clN c) := by
  intro c hc
  match c, hc with
  | 0, _ => rfl | 1, _ => rfl | 2, _ => rfl | 3, _ => rfl | 4, _ => rfl | 5, _ => rfl | 6, _ => rfl | 7, _ => rfl | 8, _ => rfl | 9, _ => rfl | 10, _ => rfl | 11, _ => rfl | 12, _ => rfl
  | n + 13, h => exact absurd h (by omega)
theorem cl_ty : ∀ c, c < 13 → ∀ k, k < clN c → parseFieldDescriptor (clF c k).2.2.1 = some (clT c k) := by
  intro c hc
  match c, hc with
  | 0, _ => exact tyX0_ok | 1, _ => exact tyX1_ok | 2, _ => exact tyX2_ok | 3, _ => exact tyX3_ok | 4, _ => exact tyX4_ok | 5, _ => exact tyX5_ok | 6, _ => exact tyX6_ok | 7, _ => exact tyX7_ok | 8, _ => exact tyX8_ok | 9, _ => exact tyX9_ok | 10, _ => exact tyX10_ok | 11, _ => exact tyX11_ok | 12, _ => exact tyX12_ok
  | n + 13, h => exact absurd h (by omega)
theorem cl_nm : ∀ c, c < 13 → ∀ a, a < clN c → ∀ b, b < clN c → a ≠ b → (clF c a).2.1 ≠ (clF c b).2.1 := by
  intro c hc
  match c, hc with
  | 0, _ => exact nmX0 | 1, _ => exact nmX1 | 2, _ => exact nmX2 | 3, _ => exact nmX3 | 4, _ => exact nmX4 | 5, _ => exact nmX5 | 6, _ => exact nmX6 | 7, _ => exact nmX7 | 8, _ => exact nmX8 | 9, _ => exact nmX9 | 10, _ => exact nmX10 | 11, _ => exact nmX11 | 12, _ => exact nmX12
  | n + 13, h => exact absurd h (by omega)
/-- tags: c + 1 an object of class c; 20 int[], 21 boolean[], 22 byte[], 23 char[], 24 long[], 25 Message[], 26 Orders[], 27 int[][]; 30 and on: given cells, never written; 0 no cell -/
def kd (t : Nat) (i : Int) : Nat := if t < 14 then tyk (clT (t - 1) i.toNat) else if t < 24 then 0 else if t = 24 then 1 else 2
def fvl (ad : Nat → Nat) (k : Nat) (a : Int) (r : Option Nat) : Value := if k = 0 then .int (Int32.ofInt a) else if k = 1 then .long (Int64.ofInt a) else va_rf (r.map ad)
def cel (cs : Nat → ClassId) (ad : Nat → Nat) (t n : Nat) (r : Int → Option Nat) (f : Int → Int) : va_E :=
  if t < 14 then .inr (t - 1, (List.range (clN (t - 1))).map (fun j => fvl ad (tyk (clT (t - 1) j)) (f j) (r j)))
  else if t < 24 then .inl (cs (t - 20), n, .inl (fun j => Int32.ofInt (f j)))
  else if t = 24 then .inl (cs 4, n, .inr (.inl (fun j => Int64.ofInt (f j))))
  else .inl (cs (t - 20), n, .inr (.inr (.inr (.inr (fun j => (r j).map ad)))))
def tysG (cs : Nat → ClassId) : List (ClassId × FieldType) := [(cs 0, .int), (cs 1, .boolean), (cs 2, .byte), (cs 3, .char), (cs 4, .long), (cs 5, .object RX3), (cs 6, .object RX5), (cs 7, .array .int)]
/-- what a run fixes: the launch, the size of the heap at its start, the tables' numbers, the array classes, the given cells' addresses and contents -/
abbrev GH : Type := Launch × Nat × va_G × (Nat → ClassId) × (Nat → Nat) × (Nat → Nat × (Nat → Int)) × (Nat → Nat)
abbrev gL (g : GH) : Launch := g.1
abbrev gB (g : GH) : Nat := g.2.1
abbrev gD (g : GH) : va_G := g.2.2.1
abbrev gC (g : GH) : Nat → ClassId := g.2.2.2.1
abbrev gO (g : GH) : Nat → Nat := g.2.2.2.2.1
abbrev gX (g : GH) : Nat → Nat × (Nat → Int) := g.2.2.2.2.2.1
abbrev gV (g : GH) : Nat → Nat := g.2.2.2.2.2.2
def gA (g : GH) : Nat → Prop := fun q => gB g ≤ q
abbrev wsM (g : GH) (ad : Nat → Nat) (sh : SH) (R : RR) (I : II) (dom : List Nat) : va_W := dom.map fun k => (ad k, cel (gC g) ad (sh k).1 (sh k).2 (R k) (I k))
/-- ids of given cells: 1 the script, 2 RANKS, 3 SIGNS, 4 + i literal i, 1000 + i its bytes, 1012 the formatter -/
def gid (k : Nat) : Prop := k < 16 ∨ (1000 ≤ k ∧ k < 1013)
/-- the heap holds the picture -/
def Rep (g : GH) (ad : Nat → Nat) (sh : SH) (R : RR) (I : II) (H : Heap) : Prop :=
  (∃ dom : List Nat, dom.Nodup ∧ (∀ k, k ∈ dom ↔ (0 < (sh k).1 ∧ (sh k).1 < 30)) ∧ va_P (gD g) vwCl (wsM g ad sh R I dom) H ∧ va_D (gA g) (wsM g ad sh R I dom)) ∧
  (∀ k, gid k → ad k = gO g k ∧ 30 ≤ (sh k).1) ∧ (∀ k i, (kd (sh k).1 i = 0 → R32 (I k i)) ∧ (kd (sh k).1 i = 1 → R64 (I k i))) ∧ (∀ k i q, 0 < (sh k).1 → R k i = some q → (sh q).1 ≠ 0)
theorem dom_get {dom : List Nat} {f : Nat → Nat × va_E} {k : Nat} (h : k ∈ dom) : ∃ q : Nat, dom[q]? = some k ∧ (dom.map f)[q]? = some (f k) := by
  obtain ⟨q, hq⟩ := List.getElem?_of_mem h
  exact ⟨q, hq, by rw [List.getElem?_map, hq]; rfl⟩
theorem dom_inj {dom : List Nat} {k q i : Nat} (hn : dom.Nodup) (hq : dom[q]? = some k) (hi : dom[i]? = some k) : q = i := by
  obtain ⟨h1, e1⟩ := List.getElem?_eq_some_iff.mp hq
  obtain ⟨h2, e2⟩ := List.getElem?_eq_some_iff.mp hi
  rcases Nat.lt_trichotomy q i with h | h | h
  · exact absurd (e1.trans e2.symm) ((List.pairwise_iff_getElem.mp hn) q i h1 h2 h)
  · exact h
  · exact absurd (e2.trans e1.symm) ((List.pairwise_iff_getElem.mp hn) i q h2 h1 h)
theorem dom_set {dom : List Nat} {f f' : Nat → Nat × va_E} {k q : Nat} (hn : dom.Nodup) (hq : dom[q]? = some k) (hf : ∀ j, j ≠ k → f' j = f j) : (dom.map f).set q (f' k) = dom.map f' := by
  apply List.ext_getElem?
  intro i
  rw [List.getElem?_set]
  by_cases hi : q = i
  · subst hi
    rw [if_pos rfl]
    have hlt : q < dom.length := (List.getElem?_eq_some_iff.mp hq).1
    rw [if_pos (by rw [List.length_map]; exact hlt), List.getElem?_map, hq]
    rfl
  · rw [if_neg hi, List.getElem?_map, List.getElem?_map]
    cases hj : dom[i]? with
    | none => rfl
    | some j =>
      have hjk : j ≠ k := by
        intro e
        subst e
        exact hi (dom_inj hn hq hj)
      show some (f j) = some (f' j)
      rw [hf j hjk]
