/-! PUBLIC: far, likely, and what they rest on; the reference likewise -/
section
variable {g : GH} {d nm no : Nat} {I : II}
def szF (s : Int → Int) : Nat → Int
  | 0 => 0
  | n + 1 => szF s n + (if s n = 0 then 0 else 1)
theorem szF_bd (s : Int → Int) : ∀ n : Nat, 0 ≤ szF s n ∧ szF s n ≤ n
  | 0 => by unfold szF; omega
  | n + 1 => by have := szF_bd s n; unfold szF; split <;> omega
/-- how many of the first n words are likelier than word i -/
def lkF (D : Nat → Int) (s : Int → Int) (i : Nat) : Nat → Int
  | 0 => 0
  | n + 1 => lkF D s i n + (if s n ≠ 0 ∧ (D n < D i ∨ (D n = D i ∧ n < i)) then 1 else 0)
theorem lkF_bd (D : Nat → Int) (s : Int → Int) (i : Nat) : ∀ n : Nat, 0 ≤ lkF D s i n ∧ lkF D s i n ≤ n
  | 0 => by unfold lkF; omega
  | n + 1 => by have := lkF_bd D s i n; unfold lkF; split <;> omega
theorem lkF_sz (D : Nat → Int) (s : Int → Int) (i : Nat) : ∀ n : Nat, lkF D s i n ≤ szF s n ∧ (i < n → s i ≠ 0 → lkF D s i n < szF s n)
  | 0 => ⟨Int.le_refl _, fun h => by omega⟩
  | n + 1 => by
    have ih := lkF_sz D s i n
    unfold lkF szF
    refine ⟨?_, fun h1 h2 => ?_⟩
    · split <;> split <;> omega
    · rcases (show i < n ∨ i = n by omega) with z | z
      · have := ih.2 z h2
        split <;> split <;> omega
      · subst z
        rw [if_neg (by omega), if_neg h2]
        omega
theorem lkF_congr {D D' : Nat → Int} {s : Int → Int} {i : Nat} : ∀ n : Nat, (∀ j : Nat, j < n → s j ≠ 0 → D j = D' j) → D i = D' i → lkF D s i n = lkF D' s i n
  | 0, _, _ => rfl
  | n + 1, h, hi => by
    unfold lkF
    rw [lkF_congr n (fun j hj => h j (by omega)) hi]
    by_cases e : s n ≠ 0
    · rw [h n (by omega) e, hi]
    · rw [if_neg (fun z => e z.1), if_neg (fun z => e z.1)]
/-- the word behind which k others are likelier -/
def liF (D : Nat → Int) (s : Int → Int) (k : Int) : Int := fwF (fun i => bI (s i ≠ 0 ∧ lkF D s i.toNat 16 = k)) 16
theorem fwF_none (v : Int → Int) : ∀ n : Nat, (∀ i : Nat, i < n → v i ≠ 1) → fwF v n = -1
  | 0, _ => rfl
  | n + 1, h => by
    unfold fwF
    rw [fwF_none v n (fun i hi => h i (by omega)), if_neg (fun z => z rfl), if_neg (h n (by omega))]
theorem fwF_congr {u v : Int → Int} : ∀ n : Nat, (∀ i : Nat, i < n → u i = v i) → fwF u n = fwF v n
  | 0, _ => rfl
  | n + 1, h => by
    unfold fwF
    rw [fwF_congr n (fun i hi => h i (by omega)), h n (by omega)]
theorem liF_none {D : Nat → Int} {s : Int → Int} {k : Int} (h : szF s 16 ≤ k) : liF D s k = -1 := by
  refine fwF_none _ 16 (fun i hi => ?_)
  show bI (s i ≠ 0 ∧ lkF D s (i : Int).toNat 16 = k) ≠ 1
  rw [bI_f (fun z => ?_)]
  · decide
  · have := (lkF_sz D s i 16).2 hi z.1
    have e := z.2
    rw [Int.toNat_natCast] at e
    omega
theorem liF_congr {D D' : Nat → Int} {s : Int → Int} {k : Int} (h : ∀ j : Nat, j < 16 → s j ≠ 0 → D j = D' j) : liF D s k = liF D' s k := by
  refine fwF_congr 16 (fun i hi => ?_)
  show bI (s i ≠ 0 ∧ lkF D s (i : Int).toNat 16 = k) = bI (s i ≠ 0 ∧ lkF D' s (i : Int).toNat 16 = k)
  rw [Int.toNat_natCast]
  by_cases e : s i ≠ 0
  · rw [lkF_congr 16 (fun j hj => h j hj) (h i hi e)]
  · rw [bI_f (fun z => e z.1), bI_f (fun z => e z.1)]
def BkI (I : II) : Prop := ∀ i, 0 ≤ i → i < 16 → I 50 i = 0 ∨ isw (I 49 i) (I 50 i)
noncomputable def aFar (i s : Int) (ok : Prop) (D : Int) : Int := if (0 ≤ i ∧ i ≤ 15) ∧ s ≠ 0 then cif ok D (-3) else -2
noncomputable def aLik (ok : Prop) (k f : Int) : Int := cif (ok ∧ 0 ≤ k) f (-3)
/-- how far word i is from the one asked for -/
def dcF (I : II) (la : List Int) (i : Nat) : Int := dsF (wlF (ltF (I 49 i)) (I 50 i).toNat) la
theorem dcF_bd {I : II} {la : List Int} {i : Nat} (h : isw (I 49 i) (I 50 i)) (ha : la.length ≤ 39) : 0 ≤ dcF I la i ∧ dcF I la i ≤ 78 := by
  have h1 := lev_bd (gdL (wlF (ltF (I 49 i)) (I 50 i).toNat)) (gdL la) (wlF (ltF (I 49 i)) (I 50 i).toNat).length la.length
  have hn := h.1
  have h2 := wlF_len (f := ltF (I 49 i)) (I 50 i).toNat (fun k hk => by have := h.2 k (by omega) (by omega); unfold ltF; omega)
  unfold dcF dsF
  omega
theorem la_len {a n : Int} (h : isw a n) : (wlF (ltF a) n.toNat).length ≤ 39 := by
  have hn := h.1
  have := wlF_len (f := ltF a) n.toNat (fun k hk => by have := h.2 k (by omega) (by omega); unfold ltF; omega)
  omega
theorem px_far {i a n : Int} (hd : 3 ≤ d) (hG : GvI g) (hB : BkI I) : SI g d mX11_far [vr 20, vi i, vl a, vi n] (shX nm no) (RX nm no) I (fun r J => r = aFar i (I 50 i) (isw a n) (dcF I (wlF (ltF a) n.toNat) i.toNat) ∧ (∀ x, x ≠ 48 → x ≠ 51 → x ≠ 52 → x ≠ 53 → J x = I x) ∧ ∀ j : Int, j ≠ 6 → J 48 j = I 48 j) := by
  intro Q h
  refine C_of rfl (Nat.le_of_ble_eq_true rfl) rfl ?_
  refine m_iload_n dX11_far_0 rfl ?_
  refine m_iconst dX11_far_1 (by decide) ?_
  refine m_bipush dX11_far_2 rfl (by decide) ?_
  refine m_Si [_, _, _] dX11_far_4 lk_X11_71 rfl rfl (Nat.le_of_ble_eq_true rfl) (by omega) x_isWithin ?_
  refine m_if_eq (tgt := 22) dX11_far_7 (by decide) (fun c7 => ?_) (fun c7 => ?_)
  · have z7 := bI_eq0 c7
    refine m_bipush dX11_far_22 rfl (by decide) ?_
    refine m_iret dX11_far_24 rfl ?_
    exact h _ _ ⟨by unfold aFar; rw [if_neg (by omega)], fun _ _ _ _ _ => rfl, fun _ _ => rfl⟩
  · have z7 := bI_ne0 c7
    refine m_aload_n dX11_far_10 rfl ?_
    refine m_gr (z := 4) dX11_far_11 fl_X11_42 oX_20 rfl rfl rX_20_4 ?_
    refine m_gr (z := 1) dX11_far_14 fl_X11_261 oX_48 rfl rfl rX_48_1 ?_
    refine m_iload_n dX11_far_17 rfl ?_
    refine m_iald dX11_far_18 sX_50 (by omega) (by omega) ?_
    refine m_if_ne (tgt := 25) dX11_far_19 (by decide) (fun c19 => ?_) (fun c19 => ?_)
    · refine m_lload_n dX11_far_25 rfl ?_
      refine m_iload dX11_far_26 rfl ?_
      refine m_Si [_, _] dX11_far_28 lk_X11_253 rfl rfl (Nat.le_of_ble_eq_true rfl) (by omega) (x_isWord (by omega)) ?_
      refine m_if_ne (tgt := 37) dX11_far_31 (by decide) (fun c31 => ?_) (fun c31 => ?_)
      · have z31 := bP_ne0 c31
        refine m_aload_n dX11_far_37 rfl ?_
        refine m_gr (z := 4) dX11_far_38 fl_X11_42 oX_20 rfl rfl rX_20_4 ?_
        refine m_lload_n dX11_far_41 rfl ?_
        refine m_iload dX11_far_42 rfl ?_
        refine m_VV [_, _] dX11_far_44 lk_X11_264 rfl oX_48 rfl (Nat.le_of_ble_eq_true rfl) (by omega) (x_ask (by omega) hG z31) ?_
        intro I44 q44
        obtain ⟨w1, w2, w3, w4⟩ := q44
        have hwi : isw (I 49 i) (I 50 i) := (hB i (by omega) (by omega)).resolve_left (by omega)
        refine m_aload_n dX11_far_47 rfl ?_
        refine m_gr (z := 4) dX11_far_48 fl_X11_42 oX_20 rfl rfl rX_20_4 ?_
        refine m_iload_n dX11_far_51 rfl ?_
        refine m_VI [_] dX11_far_52 lk_X11_268 rfl oX_48 rfl (Nat.le_of_ble_eq_true rfl) (by omega) (x_distance (by omega) hG ⟨by omega, by omega⟩ (by rw [w1 49 (by decide) (by decide), w1 50 (by decide) (by decide)]; exact hwi) (la_len z31) w3 w4) ?_
        intro r52 I52 q52
        refine m_iret dX11_far_55 rfl ?_
        refine h _ _ ⟨?_, fun x a b c e => by rw [q52.2 x c e]; exact w1 x a b, fun j hj => by rw [q52.2 48 (by decide) (by decide)]; exact w2 j hj⟩
        unfold aFar
        rw [if_pos (by omega), cif_t z31, q52.1, w1 49 (by decide) (by decide), w1 50 (by decide) (by decide)]
        unfold dcF
        rw [show ((i.toNat : Nat) : Int) = i by omega]
      · have z31 := bP_eq0 (show _ = (0 : Int) by omega)
        refine m_bipush dX11_far_34 rfl (by decide) ?_
        refine m_iret dX11_far_36 rfl ?_
        exact h _ _ ⟨by unfold aFar; rw [if_pos (by omega), cif_f z31], fun _ _ _ _ _ => rfl, fun _ _ => rfl⟩
    · refine m_bipush dX11_far_22 rfl (by decide) ?_
      refine m_iret dX11_far_24 rfl ?_
      exact h _ _ ⟨by unfold aFar; rw [if_neg (by omega)], fun _ _ _ _ _ => rfl, fun _ _ => rfl⟩
theorem x_size_loop {Q : QT} (h : Q (some (vi (szF (I 50) 16))) (shX nm no) (RX nm no) I) : ∀ (m i : Nat), 16 - i < m → i ≤ 16 → T g d mX0_size 0 0 4 [some (vr 48), some (vi (szF (I 50) i)), some (vi i)] [] (shX nm no) (RX nm no) I Q := by
  intro m
  induction m with
  | zero => intro i hm; omega
  | succ m ih =>
    intro i hm hi
    have hb := szF_bd (I 50) i
    have e1 : szF (I 50) (i + 1) = szF (I 50) i + (if I 50 i = 0 then 0 else 1) := rfl
    refine m_iload_n dX0_size_4 rfl ?_
    refine m_bipush dX0_size_5 rfl (by decide) ?_
    refine m_icmp_ge (tgt := 28) dX0_size_7 (by decide) (fun c7 => ?_) (fun c7 => ?_)
    · have ei : i = 16 := by omega
      subst ei
      refine m_iload_n dX0_size_28 rfl ?_
      refine m_iret dX0_size_29 rfl ?_
      exact h
    · refine m_aload_n dX0_size_10 rfl ?_
      refine m_gr (z := 1) dX0_size_11 fl_X0_15 oX_48 rfl rfl rX_48_1 ?_
      refine m_iload_n dX0_size_14 rfl ?_
      refine m_iald dX0_size_15 sX_50 (by omega) (by omega) ?_
      refine m_if_eq (tgt := 22) dX0_size_16 (by decide) (fun c16 => ?_) (fun c16 => ?_)
      · rw [if_pos c16, Int.add_zero] at e1
        refine m_iinc dX0_size_22 rfl (by decide) rfl rfl (by omega) ?_
        refine m_goto (tgt := 4) dX0_size_25 (by decide) ?_
        have z := ih (i + 1) (by omega) (by omega)
        rw [e1] at z
        exact z
      · rw [if_neg c16] at e1
        refine m_iinc dX0_size_19 rfl (by decide) rfl rfl (by omega) ?_
        refine m_iinc dX0_size_22 rfl (by decide) rfl rfl (by omega) ?_
        refine m_goto (tgt := 4) dX0_size_25 (by decide) ?_
        have z := ih (i + 1) (by omega) (by omega)
        rw [e1] at z
        exact z
theorem x_size : SP g d mX0_size 0 0 [vr 48] (shX nm no) (RX nm no) I (some (vi (szF (I 50) 16))) (shX nm no) (RX nm no) I := by
  intro Q h
  refine C_of rfl (Nat.le_of_ble_eq_true rfl) rfl ?_
  refine m_iconst dX0_size_0 (by decide) ?_
  refine m_istore_n dX0_size_1 (by decide) rfl rfl ?_
  refine m_iconst dX0_size_2 (by decide) ?_
  refine m_istore_n dX0_size_3 (by decide) rfl rfl ?_
  exact x_size_loop h 17 0 (by omega) (by omega)
def dvF (D : Nat → Int) (s : Int → Int) (j : Nat) : Int := if s j = 0 then 1000000 else D j
theorem x_lt_loop {D : Nat → Int} {i : Nat} {Q : QT} (hi : i < 16) (hs : I 50 i ≠ 0) (hD : ∀ j : Nat, j < 16 → I 50 j ≠ 0 → 0 ≤ D j ∧ D j ≤ 78) (hv : ∀ j : Nat, j < 16 → I 54 j = dvF D (I 50) j) (h : Q (some (vi (lkF D (I 50) i 16))) (shX nm no) (RX nm no) I) : ∀ (m k : Nat), 16 - k < m → k ≤ 16 → T g d mX0_likelierThan 0 0 4 [some (vr 48), some (vi i), some (vi (lkF D (I 50) i k)), some (vi k)] [] (shX nm no) (RX nm no) I Q := by
  intro m
  induction m with
  | zero => intro k hm; omega
  | succ m ih =>
    intro k hm hk
    have hb := lkF_bd D (I 50) i k
    have e1 : lkF D (I 50) i (k + 1) = lkF D (I 50) i k + (if I 50 k ≠ 0 ∧ (D k < D i ∨ (D k = D i ∧ k < i)) then 1 else 0) := rfl
    have di := hD i hi hs
    have vi_ : I 54 i = D i := by rw [hv i hi]; unfold dvF; rw [if_neg hs]
    refine m_iload_n dX0_likelierThan_4 rfl ?_
    refine m_bipush dX0_likelierThan_5 rfl (by decide) ?_
    refine m_icmp_ge (tgt := 54) dX0_likelierThan_7 (by decide) (fun c7 => ?_) (fun c7 => ?_)
    · have ek : k = 16 := by omega
      subst ek
      refine m_iload_n dX0_likelierThan_54 rfl ?_
      refine m_iret dX0_likelierThan_55 rfl ?_
      exact h
    · have vk : I 54 k = if I 50 k = 0 then 1000000 else D k := hv k (by omega)
      have dk := hD k (by omega)
      refine m_aload_n dX0_likelierThan_10 rfl ?_
      refine m_gr (z := 5) dX0_likelierThan_11 fl_X0_29 oX_48 rfl rfl rX_48_5 ?_
      refine m_iload_n dX0_likelierThan_14 rfl ?_
      refine m_iald dX0_likelierThan_15 sX_54 (by omega) (by omega) ?_
      refine m_aload_n dX0_likelierThan_16 rfl ?_
      refine m_gr (z := 5) dX0_likelierThan_17 fl_X0_29 oX_48 rfl rfl rX_48_5 ?_
      refine m_iload_n dX0_likelierThan_20 rfl ?_
      refine m_iald dX0_likelierThan_21 sX_54 (by omega) (by omega) ?_
      refine m_icmp_lt (tgt := 45) dX0_likelierThan_22 (by decide) (fun c22 => ?_) (fun c22 => ?_)
      · refine m_iinc dX0_likelierThan_45 rfl (by decide) rfl rfl (by omega) ?_
        refine m_iinc dX0_likelierThan_48 rfl (by decide) rfl rfl (by omega) ?_
        refine m_goto (tgt := 4) dX0_likelierThan_51 (by decide) ?_
        have z := ih (k + 1) (by omega) (by omega)
        rw [e1] at z
        by_cases hs2 : I 50 k = 0
        · rw [if_pos hs2] at vk
          rw [if_neg (fun q => q.1 hs2)] at z
          first
          | (exfalso; omega)
          | (rw [Int.add_zero] at z; exact z)
        · rw [if_neg hs2] at vk
          have dk2 := dk hs2
          first
          | (rw [if_pos ⟨hs2, by omega⟩] at z; exact z)
          | (rw [if_neg (fun q => by omega), Int.add_zero] at z; exact z)
      · refine m_aload_n dX0_likelierThan_25 rfl ?_
        refine m_gr (z := 5) dX0_likelierThan_26 fl_X0_29 oX_48 rfl rfl rX_48_5 ?_
        refine m_iload_n dX0_likelierThan_29 rfl ?_
        refine m_iald dX0_likelierThan_30 sX_54 (by omega) (by omega) ?_
        refine m_aload_n dX0_likelierThan_31 rfl ?_
        refine m_gr (z := 5) dX0_likelierThan_32 fl_X0_29 oX_48 rfl rfl rX_48_5 ?_
        refine m_iload_n dX0_likelierThan_35 rfl ?_
        refine m_iald dX0_likelierThan_36 sX_54 (by omega) (by omega) ?_
        refine m_icmp_ne (tgt := 48) dX0_likelierThan_37 (by decide) (fun c37 => ?_) (fun c37 => ?_)
        · refine m_iinc dX0_likelierThan_48 rfl (by decide) rfl rfl (by omega) ?_
          refine m_goto (tgt := 4) dX0_likelierThan_51 (by decide) ?_
          have z := ih (k + 1) (by omega) (by omega)
          rw [e1] at z
          by_cases hs2 : I 50 k = 0
          · rw [if_pos hs2] at vk
            rw [if_neg (fun q => q.1 hs2)] at z
            first
            | (exfalso; omega)
            | (rw [Int.add_zero] at z; exact z)
          · rw [if_neg hs2] at vk
            have dk2 := dk hs2
            first
            | (rw [if_pos ⟨hs2, by omega⟩] at z; exact z)
            | (rw [if_neg (fun q => by omega), Int.add_zero] at z; exact z)
        · refine m_iload_n dX0_likelierThan_40 rfl ?_
          refine m_iload_n dX0_likelierThan_41 rfl ?_
          refine m_icmp_ge (tgt := 48) dX0_likelierThan_42 (by decide) (fun c42 => ?_) (fun c42 => ?_)
          · refine m_iinc dX0_likelierThan_48 rfl (by decide) rfl rfl (by omega) ?_
            refine m_goto (tgt := 4) dX0_likelierThan_51 (by decide) ?_
            have z := ih (k + 1) (by omega) (by omega)
            rw [e1] at z
            by_cases hs2 : I 50 k = 0
            · rw [if_pos hs2] at vk
              rw [if_neg (fun q => q.1 hs2)] at z
              first
              | (exfalso; omega)
              | (rw [Int.add_zero] at z; exact z)
            · rw [if_neg hs2] at vk
              have dk2 := dk hs2
              first
              | (rw [if_pos ⟨hs2, by omega⟩] at z; exact z)
              | (rw [if_neg (fun q => by omega), Int.add_zero] at z; exact z)
          · refine m_iinc dX0_likelierThan_45 rfl (by decide) rfl rfl (by omega) ?_
            refine m_iinc dX0_likelierThan_48 rfl (by decide) rfl rfl (by omega) ?_
            refine m_goto (tgt := 4) dX0_likelierThan_51 (by decide) ?_
            have z := ih (k + 1) (by omega) (by omega)
            rw [e1] at z
            by_cases hs2 : I 50 k = 0
            · rw [if_pos hs2] at vk
              rw [if_neg (fun q => q.1 hs2)] at z
              first
              | (exfalso; omega)
              | (rw [Int.add_zero] at z; exact z)
            · rw [if_neg hs2] at vk
              have dk2 := dk hs2
              first
              | (rw [if_pos ⟨hs2, by omega⟩] at z; exact z)
              | (rw [if_neg (fun q => by omega), Int.add_zero] at z; exact z)
theorem x_likelierThan {D : Nat → Int} {i : Nat} (hi : i < 16) (hs : I 50 i ≠ 0) (hD : ∀ j : Nat, j < 16 → I 50 j ≠ 0 → 0 ≤ D j ∧ D j ≤ 78) (hv : ∀ j : Nat, j < 16 → I 54 j = dvF D (I 50) j) : SP g d mX0_likelierThan 0 0 [vr 48, vi i] (shX nm no) (RX nm no) I (some (vi (lkF D (I 50) i 16))) (shX nm no) (RX nm no) I := by
  intro Q h
  refine C_of rfl (Nat.le_of_ble_eq_true rfl) rfl ?_
  refine m_iconst dX0_likelierThan_0 (by decide) ?_
  refine m_istore_n dX0_likelierThan_1 (by decide) rfl rfl ?_
  refine m_iconst dX0_likelierThan_2 (by decide) ?_
  refine m_istore_n dX0_likelierThan_3 (by decide) rfl rfl ?_
  exact x_lt_loop hi hs hD hv h 17 0 (by omega) (by omega)
theorem x_bl_find {D : Nat → Int} {k : Int} {Q : QT} (hd : 1 ≤ d) (hD : ∀ j : Nat, j < 16 → I 50 j ≠ 0 → 0 ≤ D j ∧ D j ≤ 78) (hv : ∀ j : Nat, j < 16 → I 54 j = dvF D (I 50) j) (h : Q (some (vi (liF D (I 50) k))) (shX nm no) (RX nm no) I) : ∀ (m i : Nat), 16 - i < m → i ≤ 16 → fwF (fun i => bI (I 50 i ≠ 0 ∧ lkF D (I 50) i.toNat 16 = k)) i = -1 → T g d mX0_byLikelihood 0 0 41 [some (vr 48), some (vi k), some (vi i)] [] (shX nm no) (RX nm no) I Q := by
  intro m
  induction m with
  | zero => intro i hm; omega
  | succ m ih =>
    intro i hm hi hf
    have e1 : fwF (fun i => bI (I 50 i ≠ 0 ∧ lkF D (I 50) i.toNat 16 = k)) (i + 1) = if fwF (fun i => bI (I 50 i ≠ 0 ∧ lkF D (I 50) i.toNat 16 = k)) i ≠ -1 then fwF (fun i => bI (I 50 i ≠ 0 ∧ lkF D (I 50) i.toNat 16 = k)) i else if bI (I 50 i ≠ 0 ∧ lkF D (I 50) i 16 = k) = 1 then (i : Int) else -1 := rfl
    rw [if_neg (fun z => z hf)] at e1
    refine m_iload_n dX0_byLikelihood_41 rfl ?_
    refine m_bipush dX0_byLikelihood_42 rfl (by decide) ?_
    refine m_icmp_ge (tgt := 75) dX0_byLikelihood_44 (by decide) (fun c44 => ?_) (fun c44 => ?_)
    · have ei : i = 16 := by omega
      subst ei
      refine m_iconst dX0_byLikelihood_75 (by decide) ?_
      refine m_iret dX0_byLikelihood_76 rfl ?_
      rw [show liF D (I 50) k = -1 from hf] at h
      exact h
    · have vk : I 54 i = if I 50 i = 0 then 1000000 else D i := hv i (by omega)
      have dk := hD i (by omega)
      refine m_aload_n dX0_byLikelihood_47 rfl ?_
      refine m_gr (z := 5) dX0_byLikelihood_48 fl_X0_29 oX_48 rfl rfl rX_48_5 ?_
      refine m_iload_n dX0_byLikelihood_51 rfl ?_
      refine m_iald dX0_byLikelihood_52 sX_54 (by omega) (by omega) ?_
      refine m_ldc (a := 1000000) dX0_byLikelihood_53 kc_X0_53 rfl ?_
      refine m_icmp_eq (tgt := 69) dX0_byLikelihood_55 (by decide) (fun c55 => ?_) (fun c55 => ?_)
      · have hs : I 50 i = 0 := by
          by_cases z : I 50 i = 0
          · exact z
          · rw [if_neg z] at vk; have := dk z; omega
        rw [if_neg (by rw [bI_f (fun z => z.1 hs)]; decide)] at e1
        refine m_iinc dX0_byLikelihood_69 rfl (by decide) rfl rfl (by omega) ?_
        refine m_goto (tgt := 41) dX0_byLikelihood_72 (by decide) ?_
        exact ih (i + 1) (by omega) (by omega) e1
      · have hs : I 50 i ≠ 0 := fun z => by rw [if_pos z] at vk; omega
        refine m_aload_n dX0_byLikelihood_58 rfl ?_
        refine m_iload_n dX0_byLikelihood_59 rfl ?_
        refine m_Vi [_] dX0_byLikelihood_60 lk_X0_58 rfl oX_48 rfl (Nat.le_of_ble_eq_true rfl) (by omega) (x_likelierThan (D := D) (by omega) hs hD hv) ?_
        refine m_iload_n dX0_byLikelihood_63 rfl ?_
        refine m_icmp_ne (tgt := 69) dX0_byLikelihood_64 (by decide) (fun c64 => ?_) (fun c64 => ?_)
        · rw [if_neg (by rw [bI_f (fun z => c64 z.2)]; decide)] at e1
          refine m_iinc dX0_byLikelihood_69 rfl (by decide) rfl rfl (by omega) ?_
          refine m_goto (tgt := 41) dX0_byLikelihood_72 (by decide) ?_
          exact ih (i + 1) (by omega) (by omega) e1
        · rw [if_pos (bI_t ⟨hs, by omega⟩)] at e1
          refine m_iload_n dX0_byLikelihood_67 rfl ?_
          refine m_iret dX0_byLikelihood_68 rfl ?_
          have e2 := fwF_up (fun i => bI (I 50 i ≠ 0 ∧ lkF D (I 50) i.toNat 16 = k)) (show i + 1 ≤ 16 by omega) (by rw [e1]; omega)
          rw [show liF D (I 50) k = (i : Int) from e2.trans e1] at h
          exact h
theorem x_bl_dist {la : List Int} {k : Int} {Q : QT} (hd : 3 ≤ d) (hG : GvI g) (hB : BkI I) (ha : la.length ≤ 39) (h6 : I 48 6 = (la.length : Int)) (hra : rwL I 51 la) (h : ∀ K : II, (∀ x, x ≠ 52 → x ≠ 53 → x ≠ 54 → K x = I x) → Q (some (vi (liF (dcF I la) (I 50) k))) (shX nm no) (RX nm no) K) : ∀ (m i : Nat) (K : II), 16 - i < m → i ≤ 16 → (∀ x, x ≠ 52 → x ≠ 53 → x ≠ 54 → K x = I x) → (∀ j : Nat, j < i → K 54 j = dvF (dcF I la) (I 50) j) → T g d mX0_byLikelihood 0 0 2 [some (vr 48), some (vi k), some (vi i)] [] (shX nm no) (RX nm no) K Q := by
  intro m
  induction m with
  | zero => intro i K hm; omega
  | succ m ih =>
    intro i K hm hi hF hK
    have e50 : K 50 = I 50 := hF 50 (by decide) (by decide) (by decide)
    have e49 : K 49 = I 49 := hF 49 (by decide) (by decide) (by decide)
    refine m_iload_n dX0_byLikelihood_2 rfl ?_
    refine m_bipush dX0_byLikelihood_3 rfl (by decide) ?_
    refine m_icmp_ge (tgt := 39) dX0_byLikelihood_5 (by decide) (fun c5 => ?_) (fun c5 => ?_)
    · have ei : i = 16 := by omega
      subst ei
      refine m_iconst dX0_byLikelihood_39 (by decide) ?_
      refine m_istore_n dX0_byLikelihood_40 (by decide) rfl rfl ?_
      have z := x_bl_find (g := g) (d := d) (nm := nm) (no := no) (I := K) (D := dcF I la) (k := k) (Q := Q) (by omega) (fun j hj hs => by rw [e50] at hs; exact dcF_bd ((hB j (by omega) (by omega)).resolve_left hs) ha) (fun j hj => by rw [e50]; exact hK j hj) (by rw [e50]; exact h K hF) 17 0 (by omega) (by omega) rfl
      exact z
    · refine m_aload_n dX0_byLikelihood_8 rfl ?_
      refine m_gr (z := 5) dX0_byLikelihood_9 fl_X0_29 oX_48 rfl rfl rX_48_5 ?_
      refine m_iload_n dX0_byLikelihood_12 rfl ?_
      refine m_aload_n dX0_byLikelihood_13 rfl ?_
      refine m_gr (z := 1) dX0_byLikelihood_14 fl_X0_15 oX_48 rfl rfl rX_48_1 ?_
      refine m_iload_n dX0_byLikelihood_17 rfl ?_
      refine m_iald dX0_byLikelihood_18 sX_50 (by omega) (by omega) ?_
      rw [e50]
      refine m_if_ne (tgt := 27) dX0_byLikelihood_19 (by decide) (fun c19 => ?_) (fun c19 => ?_)
      · refine m_aload_n dX0_byLikelihood_27 rfl ?_
        refine m_iload_n dX0_byLikelihood_28 rfl ?_
        refine m_VI [_] dX0_byLikelihood_29 lk_X0_54 rfl oX_48 rfl (Nat.le_of_ble_eq_true rfl) (by omega) (x_distance (la := la) (by omega) hG ⟨by omega, by omega⟩ (by rw [e49, e50]; exact (hB i (by omega) (by omega)).resolve_left c19) ha (by rw [hF 48 (by decide) (by decide) (by decide)]; exact h6) (fun j hj => by rw [hF 51 (by decide) (by decide) (by decide)]; exact hra j hj)) ?_
        intro r29 I29 q29
        refine m_iast dX0_byLikelihood_32 sX_54 (by omega) (by omega) ?_
        refine m_iinc dX0_byLikelihood_33 rfl (by decide) rfl rfl (by omega) ?_
        refine m_goto (tgt := 2) dX0_byLikelihood_36 (by decide) ?_
        first
        | (refine ih (i + 1) _ (by omega) (by omega) (fun x a b c => by rw [upI_o c]; exact hF x a b c) (fun j hj => ?_)
           by_cases e : j = i
           · subst e; rw [upI_s]; unfold dvF; rw [if_pos c19]
           · rw [upI_j (by omega)]; exact hK j (by omega))
        | (refine ih (i + 1) _ (by omega) (by omega) (fun x a b c => by rw [upI_o c, q29.2 x a b]; exact hF x a b c) (fun j hj => ?_)
           by_cases e : j = i
           · subst e; rw [upI_s, q29.1, e49, e50]; unfold dvF; rw [if_neg c19]; rfl
           · rw [upI_j (by omega), q29.2 54 (by decide) (by decide)]; exact hK j (by omega))
      · refine m_ldc (a := 1000000) dX0_byLikelihood_22 kc_X0_53 rfl ?_
        refine m_goto (tgt := 32) dX0_byLikelihood_24 (by decide) ?_
        refine m_iast dX0_byLikelihood_32 sX_54 (by omega) (by omega) ?_
        refine m_iinc dX0_byLikelihood_33 rfl (by decide) rfl rfl (by omega) ?_
        refine m_goto (tgt := 2) dX0_byLikelihood_36 (by decide) ?_
        first
        | (refine ih (i + 1) _ (by omega) (by omega) (fun x a b c => by rw [upI_o c]; exact hF x a b c) (fun j hj => ?_)
           by_cases e : j = i
           · subst e; rw [upI_s]; unfold dvF; rw [if_pos c19]
           · rw [upI_j (by omega)]; exact hK j (by omega))
        | (refine ih (i + 1) _ (by omega) (by omega) (fun x a b c => by rw [upI_o c, q29.2 x a b]; exact hF x a b c) (fun j hj => ?_)
           by_cases e : j = i
           · subst e; rw [upI_s, q29.1, e49, e50]; unfold dvF; rw [if_neg c19]; rfl
           · rw [upI_j (by omega), q29.2 54 (by decide) (by decide)]; exact hK j (by omega))
theorem x_byLikelihood {la : List Int} {k : Int} (hd : 3 ≤ d) (hG : GvI g) (hB : BkI I) (ha : la.length ≤ 39) (h6 : I 48 6 = (la.length : Int)) (hra : rwL I 51 la) : SI g d mX0_byLikelihood [vr 48, vi k] (shX nm no) (RX nm no) I (fun r K => r = liF (dcF I la) (I 50) k ∧ (∀ x, x ≠ 52 → x ≠ 53 → x ≠ 54 → K x = I x)) := by
  intro Q h
  refine C_of rfl (Nat.le_of_ble_eq_true rfl) rfl ?_
  refine m_iconst dX0_byLikelihood_0 (by decide) ?_
  refine m_istore_n dX0_byLikelihood_1 (by decide) rfl rfl ?_
  exact x_bl_dist hd hG hB ha h6 hra (fun K hK => h _ K ⟨rfl, hK⟩) 17 0 I (by omega) (by omega) (fun _ _ _ _ => rfl) (fun j hj => by omega)
theorem px_likely {a n k : Int} (hd : 4 ≤ d) (hG : GvI g) (hB : BkI I) : SI g d mX11_likely [vr 20, vl a, vi n, vi k] (shX nm no) (RX nm no) I (fun r J => r = aLik (isw a n) k (liF (dcF I (wlF (ltF a) n.toNat)) (I 50) k) ∧ (∀ x, x ≠ 48 → x ≠ 51 → x ≠ 52 → x ≠ 53 → x ≠ 54 → J x = I x) ∧ ∀ j : Int, j ≠ 6 → J 48 j = I 48 j) := by
  intro Q h
  refine C_of rfl (Nat.le_of_ble_eq_true rfl) rfl ?_
  refine m_lload_n dX11_likely_0 rfl ?_
  refine m_iload_n dX11_likely_1 rfl ?_
  refine m_Si [_, _] dX11_likely_2 lk_X11_253 rfl rfl (Nat.le_of_ble_eq_true rfl) (by omega) (x_isWord (by omega)) ?_
  refine m_if_eq (tgt := 13) dX11_likely_5 (by decide) (fun c5 => ?_) (fun c5 => ?_)
  · have z5 := bP_eq0 c5
    refine m_bipush dX11_likely_13 rfl (by decide) ?_
    refine m_iret dX11_likely_15 rfl ?_
    exact h _ _ ⟨by unfold aLik; rw [cif_f (fun z => by first | exact z5 z.1 | (have := z.2; omega))], fun _ _ _ _ _ _ => rfl, fun _ _ => rfl⟩
  · have z5 := bP_ne0 c5
    refine m_iload dX11_likely_8 rfl ?_
    refine m_if_ge (tgt := 16) dX11_likely_10 (by decide) (fun c10 => ?_) (fun c10 => ?_)
    · refine m_iload dX11_likely_16 rfl ?_
      refine m_aload_n dX11_likely_18 rfl ?_
      refine m_gr (z := 4) dX11_likely_19 fl_X11_42 oX_20 rfl rfl rX_20_4 ?_
      refine m_Vi [] dX11_likely_22 lk_X11_271 rfl oX_48 rfl (Nat.le_of_ble_eq_true rfl) (by omega) x_size ?_
      refine m_icmp_lt (tgt := 30) dX11_likely_25 (by decide) (fun c25 => ?_) (fun c25 => ?_)
      · refine m_aload_n dX11_likely_30 rfl ?_
        refine m_gr (z := 4) dX11_likely_31 fl_X11_42 oX_20 rfl rfl rX_20_4 ?_
        refine m_lload_n dX11_likely_34 rfl ?_
        refine m_iload_n dX11_likely_35 rfl ?_
        refine m_VV [_, _] dX11_likely_36 lk_X11_264 rfl oX_48 rfl (Nat.le_of_ble_eq_true rfl) (by omega) (x_ask (by omega) hG z5) ?_
        intro I36 q36
        obtain ⟨w1, w2, w3, w4⟩ := q36
        refine m_aload_n dX11_likely_39 rfl ?_
        refine m_gr (z := 4) dX11_likely_40 fl_X11_42 oX_20 rfl rfl rX_20_4 ?_
        refine m_iload dX11_likely_43 rfl ?_
        refine m_VI [_] dX11_likely_45 lk_X11_275 rfl oX_48 rfl (Nat.le_of_ble_eq_true rfl) (by omega) (x_byLikelihood (by omega) hG (fun i i0 i1 => by rw [w1 49 (by decide) (by decide), w1 50 (by decide) (by decide)]; exact hB i i0 i1) (la_len z5) w3 w4) ?_
        intro r45 I45 q45
        refine m_iret dX11_likely_48 rfl ?_
        refine h _ _ ⟨?_, fun x a b c e f => by rw [q45.2 x c e f]; exact w1 x a b, fun j hj => by rw [q45.2 48 (by decide) (by decide) (by decide)]; exact w2 j hj⟩
        unfold aLik
        rw [cif_t ⟨z5, by omega⟩, q45.1, w1 50 (by decide) (by decide)]
        unfold dcF
        rw [w1 49 (by decide) (by decide), w1 50 (by decide) (by decide)]
      · refine m_iconst dX11_likely_28 (by decide) ?_
        refine m_iret dX11_likely_29 rfl ?_
        exact h _ _ ⟨by unfold aLik; rw [cif_t ⟨z5, by omega⟩, liF_none (by omega)], fun _ _ _ _ _ _ => rfl, fun _ _ => rfl⟩
    · refine m_bipush dX11_likely_13 rfl (by decide) ?_
      refine m_iret dX11_likely_15 rfl ?_
      exact h _ _ ⟨by unfold aLik; rw [cif_f (fun z => by first | exact z5 z.1 | (have := z.2; omega))], fun _ _ _ _ _ _ => rfl, fun _ _ => rfl⟩
def BkM (I : II) : Prop := (∀ i, 0 ≤ i → i < 16 → I 118 i = 0 ∨ ((1 ≤ I 118 i ∧ I 118 i ≤ 8) ∧ ∀ k : Nat, (k : Int) < I 118 i → 97 ≤ I 119 (8 * i + k) ∧ I 119 (8 * i + k) ≤ 122)) ∧ ∀ j : Nat, j < 26 → I 125 j = sgnT j
def dmF (I : II) (la : List Int) (i : Nat) : Int := dsF la (wlF (fun k : Nat => (I 119 (8 * (i : Int) + k) - 97).toNat) (I 118 i).toNat)
theorem sp_wl {J : II} {a n : Int} (h : isw a n) (hJ : ∀ k, 0 ≤ k → k < n → J 120 k = byF a k) : wlF (fun k : Nat => (J 120 k - 97).toNat) n.toNat = wlF (ltF a) n.toNat ∧ ∀ k : Nat, (k : Int) < n → 97 ≤ J 120 k ∧ J 120 k ≤ 122 := by
  refine ⟨wlF_congr _ (fun k hk => ?_), fun k hk => ?_⟩
  · show (J 120 k - 97).toNat = ltF a k
    rw [hJ k (by omega) (by have := h.1; omega)]; rfl
  · rw [hJ k (by omega) hk]; exact h.2 k (by omega) hk
theorem py_far {i a n : Int} (hd : 2 ≤ d) (hB : BkM I) : SI g d mX12_far [vr 100, vi i, vl a, vi n] (shX nm no) (RX nm no) I (fun r J => r = aFar i (I 118 i) (isw a n) (dmF I (wlF (ltF a) n.toNat) i.toNat) ∧ ∀ x, x ≠ 120 → x ≠ 121 → x ≠ 122 → x ≠ 123 → x ≠ 124 → J x = I x) := by
  intro Q h
  refine C_of rfl (Nat.le_of_ble_eq_true rfl) rfl ?_
  refine m_iload_n dX12_far_0 rfl ?_
  refine m_iconst dX12_far_1 (by decide) ?_
  refine m_bipush dX12_far_2 rfl (by decide) ?_
  refine m_Si [_, _, _] dX12_far_4 lk_X12_123 rfl rfl (Nat.le_of_ble_eq_true rfl) (by omega) y_in ?_
  refine m_if_eq (tgt := 19) dX12_far_7 (by decide) (fun c7 => ?_) (fun c7 => ?_)
  · have z7 := bI_eq0 c7
    refine m_bipush dX12_far_19 rfl (by decide) ?_
    refine m_iret dX12_far_21 rfl ?_
    exact h _ _ ⟨by unfold aFar; rw [if_neg (by omega)], fun _ _ _ _ _ _ => rfl⟩
  · have z7 := bI_ne0 c7
    refine m_aload_n dX12_far_10 rfl ?_
    refine m_gr (z := 33) dX12_far_11 fl_X12_69 oX_100 rfl rfl rX_100_33 ?_
    refine m_iload_n dX12_far_14 rfl ?_
    refine m_iald dX12_far_15 sX_118 (by omega) (by omega) ?_
    refine m_if_ne (tgt := 22) dX12_far_16 (by decide) (fun c16 => ?_) (fun c16 => ?_)
    · refine m_aload_n dX12_far_22 rfl ?_
      refine m_lload_n dX12_far_23 rfl ?_
      refine m_iload dX12_far_24 rfl ?_
      refine m_VI [_, _] dX12_far_26 lk_X12_316 rfl oX_100 rfl (Nat.le_of_ble_eq_true rfl) (by omega) (y_isSpelled (by omega)) ?_
      intro r26 I26 q26
      obtain ⟨w0, w1, w2⟩ := q26
      have hb := (hB.1 i (by omega) (by omega)).resolve_left (by omega)
      refine m_if_eq (tgt := 42) dX12_far_29 (by decide) (fun c29 => ?_) (fun c29 => ?_)
      · have z29 : ¬ isw a n := fun z => by have := w0.2.mpr z; omega
        refine m_bipush dX12_far_42 rfl (by decide) ?_
        refine m_iret dX12_far_44 rfl ?_
        exact h _ _ ⟨by unfold aFar; rw [if_pos (by omega), cif_f z29], fun x a _ _ _ _ => w1 x a⟩
      · have z29 : isw a n := w0.2.mp (by have := w0.1; omega)
        refine m_aload_n dX12_far_32 rfl ?_
        refine m_iload_n dX12_far_33 rfl ?_
        refine m_iload dX12_far_34 rfl ?_
        refine m_VI [_, _] dX12_far_36 lk_X12_324 rfl oX_100 rfl (Nat.le_of_ble_eq_true rfl) (by omega) (y_farFrom (by omega) z29.1 (sp_wl z29 (w2 z29)).2 (fun j hj => by rw [w1 125 (by decide)]; exact hB.2 j hj) ⟨by omega, by omega⟩ (by rw [w1 118 (by decide)]; exact hb.1) (by rw [w1 118 (by decide), w1 119 (by decide)]; exact hb.2)) ?_
        intro r36 I36 q36
        refine m_goto (tgt := 44) dX12_far_39 (by decide) ?_
        refine m_iret dX12_far_44 rfl ?_
        refine h _ _ ⟨?_, fun x a b c e f => by rw [q36.2 x b c e f]; exact w1 x a⟩
        unfold aFar
        rw [if_pos (by omega), cif_t z29, q36.1, (sp_wl z29 (w2 z29)).1, w1 118 (by decide), w1 119 (by decide)]
        unfold dmF
        rw [show ((i.toNat : Nat) : Int) = i by omega]
    · refine m_bipush dX12_far_19 rfl (by decide) ?_
      refine m_iret dX12_far_21 rfl ?_
      exact h _ _ ⟨by unfold aFar; rw [if_neg (by omega)], fun _ _ _ _ _ _ => rfl⟩
theorem ff_at {g : GH} {K : II} {a n : Int} {i : Nat} (hd : 1 ≤ d) (hB : BkM I) (hw : isw a n) (hJ : ∀ k, 0 ≤ k → k < n → I 120 k = byF a k) (hi : i < 16) (hs : I 118 i ≠ 0) (hF : (∀ x, x ≠ 121 → x ≠ 122 → x ≠ 123 → x ≠ 124 → K x = I x)) : SI g d mX12_farFrom [vr 100, vi i, vi n] (shX nm no) (RX nm no) K (fun r J => r = (dmF I (wlF (ltF a) n.toNat)) i ∧ ∀ x, x ≠ 121 → x ≠ 122 → x ≠ 123 → x ≠ 124 → J x = I x) := by
  have hb := (hB.1 i (by omega) (by omega)).resolve_left hs
  have e118 : K 118 = I 118 := hF 118 (by decide) (by decide) (by decide) (by decide)
  have e119 : K 119 = I 119 := hF 119 (by decide) (by decide) (by decide) (by decide)
  have e120 : K 120 = I 120 := hF 120 (by decide) (by decide) (by decide) (by decide)
  have e125 : K 125 = I 125 := hF 125 (by decide) (by decide) (by decide) (by decide)
  have z := y_farFrom (g := g) (d := d) (nm := nm) (no := no) (I := K) (ii := i) (n := n) hd hw.1 (by rw [e120]; exact (sp_wl hw hJ).2) (by rw [e125]; exact hB.2) ⟨by omega, by omega⟩ (by rw [e118]; exact hb.1) (by rw [e118, e119]; exact hb.2)
  rw [e118, e119, e120, (sp_wl hw hJ).1] at z
  intro Q h
  exact z Q (fun r J q => h r J ⟨q.1, fun x a b c e => (q.2 x a b c e).trans (hF x a b c e)⟩)
theorem dm_bd {a n : Int} {i : Nat} (hB : BkM I) (hw : isw a n) (hi : i < 16) (hs : I 118 i ≠ 0) : 0 ≤ (dmF I (wlF (ltF a) n.toNat)) i ∧ (dmF I (wlF (ltF a) n.toNat)) i ≤ 78 := by
  have hb := (hB.1 i (by omega) (by omega)).resolve_left hs
  have h1 := lev_bd (gdL (wlF (ltF a) n.toNat)) (gdL (wlF (fun k : Nat => (I 119 (8 * (i : Int) + k) - 97).toNat) (I 118 i).toNat)) (wlF (ltF a) n.toNat).length (wlF (fun k : Nat => (I 119 (8 * (i : Int) + k) - 97).toNat) (I 118 i).toNat).length
  have h2 := wlF_len (f := fun k : Nat => (I 119 (8 * (i : Int) + k) - 97).toNat) (I 118 i).toNat (fun k hk => by have := hb.2 k (by omega); show (I 119 (8 * (i : Int) + k) - 97).toNat < 26; omega)
  have h3 := la_len hw
  unfold dmF dsF
  omega
theorem y_li_inner {a n k : Int} {i : Nat} {Q : QT} (hd : 2 ≤ d) (hB : BkM I) (hw : isw a n) (hJ : ∀ k, 0 ≤ k → k < n → I 120 k = byF a k) (hi : i < 16) (hs : I 118 i ≠ 0)
    (hk : ∀ (K : II) (l7 : Int) (l8 l9 : Option AV), (∀ x, x ≠ 121 → x ≠ 122 → x ≠ 123 → x ≠ 124 → K x = I x) → T g d mX12_likely 0 0 122 [some (vr 100), some (vl a), none, some (vi n), some (vi k), some (vi i), some (vi (lkF (dmF I (wlF (ltF a) n.toNat)) (I 118) i 16)), some (vi l7), l8, l9] [] (shX nm no) (RX nm no) K Q) :
    ∀ (m j : Nat) (K : II) (l8 l9 : Option AV), 16 - j < m → j ≤ 16 → (∀ x, x ≠ 121 → x ≠ 122 → x ≠ 123 → x ≠ 124 → K x = I x) → T g d mX12_likely 0 0 33 [some (vr 100), some (vl a), none, some (vi n), some (vi k), some (vi i), some (vi (lkF (dmF I (wlF (ltF a) n.toNat)) (I 118) i j)), some (vi j), l8, l9] [] (shX nm no) (RX nm no) K Q := by
  intro m
  induction m with
  | zero => intro j K l8 l9 hm; omega
  | succ m ih =>
    intro j K l8 l9 hm hj hF
    have hb := lkF_bd (dmF I (wlF (ltF a) n.toNat)) (I 118) i j
    have e118 : K 118 = I 118 := hF 118 (by decide) (by decide) (by decide) (by decide)
    have e1 : lkF (dmF I (wlF (ltF a) n.toNat)) (I 118) i (j + 1) = lkF (dmF I (wlF (ltF a) n.toNat)) (I 118) i j + (if I 118 j ≠ 0 ∧ ((dmF I (wlF (ltF a) n.toNat)) j < (dmF I (wlF (ltF a) n.toNat)) i ∨ ((dmF I (wlF (ltF a) n.toNat)) j = (dmF I (wlF (ltF a) n.toNat)) i ∧ j < i)) then 1 else 0) := rfl
    have hbi := (hB.1 i (by omega) (by omega)).resolve_left hs
    refine m_iload dX12_likely_33 rfl ?_
    refine m_bipush dX12_likely_35 rfl (by decide) ?_
    refine m_icmp_ge (tgt := 122) dX12_likely_37 (by decide) (fun c37 => ?_) (fun c37 => ?_)
    · have ej : j = 16 := by omega
      subst ej
      exact hk K _ _ _ hF
    · have hbj := hB.1 j (by omega) (by omega)
      refine m_aload_n dX12_likely_40 rfl ?_
      refine m_gr (z := 33) dX12_likely_41 fl_X12_69 oX_100 rfl rfl rX_100_33 ?_
      refine m_iload dX12_likely_44 rfl ?_
      refine m_iald dX12_likely_46 sX_118 (by omega) (by omega) ?_
      rw [e118]
      refine m_if_le (tgt := 122) dX12_likely_47 (by decide) (fun c47 => ?_) (fun c47 => ?_)
      · (exfalso; omega)
      · refine m_aload_n dX12_likely_50 rfl ?_
        refine m_gr (z := 33) dX12_likely_51 fl_X12_69 oX_100 rfl rfl rX_100_33 ?_
        refine m_iload dX12_likely_54 rfl ?_
        refine m_iald dX12_likely_56 sX_118 (by omega) (by omega) ?_
        rw [e118]
        refine m_if_le (tgt := 116) dX12_likely_57 (by decide) (fun c57 => ?_) (fun c57 => ?_)
        · have hsj : I 118 j = 0 := by omega
          rw [if_neg (fun z => z.1 hsj), Int.add_zero] at e1
          refine m_iinc dX12_likely_116 rfl (by decide) rfl rfl (by omega) ?_
          refine m_goto (tgt := 33) dX12_likely_119 (by decide) ?_
          first
          | exact ih (j + 1) _ _ _ (by omega) (by omega) w2
          | (have z := ih (j + 1) K l8 l9 (by omega) (by omega) hF; rw [e1] at z; exact z)
        · have hsj : I 118 j ≠ 0 := by omega
          have di := dm_bd hB hw hi hs
          have dj := dm_bd hB hw (show j < 16 by omega) hsj
          refine m_iload dX12_likely_60 rfl ?_
          refine m_iload dX12_likely_62 rfl ?_
          refine m_icmp_eq (tgt := 116) dX12_likely_64 (by decide) (fun c64 => ?_) (fun c64 => ?_)
          · have ej : j = i := by omega
            subst ej
            rw [if_neg (fun z => by omega), Int.add_zero] at e1
            refine m_iinc dX12_likely_116 rfl (by decide) rfl rfl (by omega) ?_
            refine m_goto (tgt := 33) dX12_likely_119 (by decide) ?_
            first
            | exact ih (j + 1) _ _ _ (by omega) (by omega) w2
            | (have z := ih (j + 1) K l8 l9 (by omega) (by omega) hF; rw [e1] at z; exact z)
          · refine m_aload_n dX12_likely_67 rfl ?_
            refine m_iload dX12_likely_68 rfl ?_
            refine m_iload_n dX12_likely_70 rfl ?_
            refine m_VI [_, _] dX12_likely_71 lk_X12_324 rfl oX_100 rfl (Nat.le_of_ble_eq_true rfl) (by omega) (ff_at (by omega) hB hw hJ hi hs hF) ?_
            intro r71 I71 q71
            obtain ⟨rfl, w1⟩ := q71
            refine m_istore dX12_likely_74 (by decide) rfl rfl ?_
            refine m_aload_n dX12_likely_76 rfl ?_
            refine m_iload dX12_likely_77 rfl ?_
            refine m_iload_n dX12_likely_79 rfl ?_
            refine m_VI [_, _] dX12_likely_80 lk_X12_324 rfl oX_100 rfl (Nat.le_of_ble_eq_true rfl) (by omega) (ff_at (by omega) hB hw hJ (by omega) hsj w1) ?_
            intro r80 I80 q80
            obtain ⟨rfl, w2⟩ := q80
            refine m_istore dX12_likely_83 (by decide) rfl rfl ?_
            refine m_iload dX12_likely_85 rfl ?_
            refine m_iload dX12_likely_87 rfl ?_
            refine m_iload dX12_likely_89 rfl ?_
            refine m_ticmp_lt (tgt := 108) (M := 113) dX12_likely_91 (by decide) (fun c91 hM91 => by
                refine m_iconst dX12_likely_108 (by decide) ?_
                refine m_goto (tgt := 113) dX12_likely_109 (by decide) ?_
                exact hM91
              ) (fun c91 hM91 => by
                refine m_iload dX12_likely_94 rfl ?_
                refine m_iload dX12_likely_96 rfl ?_
                refine m_ticmp_ne (tgt := 112) (M := 113) dX12_likely_98 (by decide) (fun c98 hM98 => by
                    refine m_iconst dX12_likely_112 (by decide) ?_
                    exact hM98
                  ) (fun c98 hM98 => by
                    refine m_iload dX12_likely_101 rfl ?_
                    refine m_iload dX12_likely_103 rfl ?_
                    refine m_ticmp_ge (tgt := 112) (M := 113) dX12_likely_105 (by decide) (fun c105 hM105 => by
                        refine m_iconst dX12_likely_112 (by decide) ?_
                        exact hM105
                      ) (fun c105 hM105 => by
                        refine m_iconst dX12_likely_108 (by decide) ?_
                        refine m_goto (tgt := 113) dX12_likely_109 (by decide) ?_
                        exact hM105
                      ) ?_
                    exact hM98
                  ) ?_
                exact hM91
              ) ?_
            refine m_top (if (dmF I (wlF (ltF a) n.toNat)) j < (dmF I (wlF (ltF a) n.toNat)) i ∨ ((dmF I (wlF (ltF a) n.toNat)) j = (dmF I (wlF (ltF a) n.toNat)) i ∧ j < i) then 1 else 0) (by (repeat' split) <;> first | rfl | omega) ?_
            refine m_iadd dX12_likely_113 (by split <;> omega) ?_
            refine m_top (lkF (dmF I (wlF (ltF a) n.toNat)) (I 118) i (j + 1)) (by rw [e1]; (repeat' split) <;> omega) ?_
            refine m_istore dX12_likely_114 (by decide) rfl rfl ?_
            refine m_iinc dX12_likely_116 rfl (by decide) rfl rfl (by omega) ?_
            refine m_goto (tgt := 33) dX12_likely_119 (by decide) ?_
            first
            | exact ih (j + 1) _ _ _ (by omega) (by omega) w2
            | (have z := ih (j + 1) K l8 l9 (by omega) (by omega) hF; rw [e1] at z; exact z)
theorem y_li_outer {a n k : Int} {Q : QT} (hd : 2 ≤ d) (hB : BkM I) (hw : isw a n) (hJ : ∀ k, 0 ≤ k → k < n → I 120 k = byF a k) (h : ∀ K : II, (∀ x, x ≠ 121 → x ≠ 122 → x ≠ 123 → x ≠ 124 → K x = I x) → Q (some (vi (liF (dmF I (wlF (ltF a) n.toNat)) (I 118) k))) (shX nm no) (RX nm no) K) :
    ∀ (m i : Nat) (K : II) (l6 l7 l8 l9 : Option AV), 16 - i < m → i ≤ 16 → (∀ x, x ≠ 121 → x ≠ 122 → x ≠ 123 → x ≠ 124 → K x = I x) → fwF (fun i => bI (I 118 i ≠ 0 ∧ lkF (dmF I (wlF (ltF a) n.toNat)) (I 118) i.toNat 16 = k)) i = -1 → T g d mX12_likely 0 0 20 [some (vr 100), some (vl a), none, some (vi n), some (vi k), some (vi i), l6, l7, l8, l9] [] (shX nm no) (RX nm no) K Q := by
  intro m
  induction m with
  | zero => intro i K l6 l7 l8 l9 hm; omega
  | succ m ih =>
    intro i K l6 l7 l8 l9 hm hi hF hf
    have e118 : K 118 = I 118 := hF 118 (by decide) (by decide) (by decide) (by decide)
    have e1 : fwF (fun i => bI (I 118 i ≠ 0 ∧ lkF (dmF I (wlF (ltF a) n.toNat)) (I 118) i.toNat 16 = k)) (i + 1) = if fwF (fun i => bI (I 118 i ≠ 0 ∧ lkF (dmF I (wlF (ltF a) n.toNat)) (I 118) i.toNat 16 = k)) i ≠ -1 then fwF (fun i => bI (I 118 i ≠ 0 ∧ lkF (dmF I (wlF (ltF a) n.toNat)) (I 118) i.toNat 16 = k)) i else if bI (I 118 i ≠ 0 ∧ lkF (dmF I (wlF (ltF a) n.toNat)) (I 118) i 16 = k) = 1 then (i : Int) else -1 := rfl
    rw [if_neg (fun z => z hf)] at e1
    refine m_iload dX12_likely_20 rfl ?_
    refine m_bipush dX12_likely_22 rfl (by decide) ?_
    refine m_icmp_ge (tgt := 148) dX12_likely_24 (by decide) (fun c24 => ?_) (fun c24 => ?_)
    · have ei : i = 16 := by omega
      subst ei
      refine m_iconst dX12_likely_148 (by decide) ?_
      refine m_iret dX12_likely_149 rfl ?_
      rw [show liF (dmF I (wlF (ltF a) n.toNat)) (I 118) k = -1 from hf] at h
      exact h K hF
    · have hbi := hB.1 i (by omega) (by omega)
      refine m_iconst dX12_likely_27 (by decide) ?_
      refine m_istore dX12_likely_28 (by decide) rfl rfl ?_
      refine m_iconst dX12_likely_30 (by decide) ?_
      refine m_istore dX12_likely_31 (by decide) rfl rfl ?_
      by_cases hs : I 118 i = 0
      · rw [if_neg (by rw [bI_f (fun z => z.1 hs)]; decide)] at e1
        refine m_iload dX12_likely_33 rfl ?_
        refine m_bipush dX12_likely_35 rfl (by decide) ?_
        refine m_icmp_ge (tgt := 122) dX12_likely_37 (by decide) (fun c37 => ?_) (fun c37 => ?_)
        · omega
        · refine m_aload_n dX12_likely_40 rfl ?_
          refine m_gr (z := 33) dX12_likely_41 fl_X12_69 oX_100 rfl rfl rX_100_33 ?_
          refine m_iload dX12_likely_44 rfl ?_
          refine m_iald dX12_likely_46 sX_118 (by omega) (by omega) ?_
          rw [e118]
          refine m_if_le (tgt := 122) dX12_likely_47 (by decide) (fun c47 => ?_) (fun c47 => ?_)
          · refine m_aload_n dX12_likely_122 rfl ?_
            refine m_gr (z := 33) dX12_likely_123 fl_X12_69 oX_100 rfl rfl rX_100_33 ?_
            refine m_iload dX12_likely_126 rfl ?_
            refine m_iald dX12_likely_128 sX_118 (by omega) (by omega) ?_
            rw [e118]
            refine m_if_le (tgt := 142) dX12_likely_129 (by decide) (fun c129 => ?_) (fun c129 => ?_)
            · refine m_iinc dX12_likely_142 rfl (by decide) rfl rfl (by omega) ?_
              refine m_goto (tgt := 20) dX12_likely_145 (by decide) ?_
              exact ih (i + 1) K _ _ _ _ (by omega) (by omega) hF e1
            · omega
          · omega
      · have hb2 := hbi.resolve_left hs
        refine y_li_inner hd hB hw hJ (by omega) hs (fun L l7 l8 l9 hL => ?_) 17 0 K _ _ (by omega) (by omega) hF
        have e118' : L 118 = I 118 := hL 118 (by decide) (by decide) (by decide) (by decide)
        refine m_aload_n dX12_likely_122 rfl ?_
        refine m_gr (z := 33) dX12_likely_123 fl_X12_69 oX_100 rfl rfl rX_100_33 ?_
        refine m_iload dX12_likely_126 rfl ?_
        refine m_iald dX12_likely_128 sX_118 (by omega) (by omega) ?_
        rw [e118']
        refine m_if_le (tgt := 142) dX12_likely_129 (by decide) (fun c129 => ?_) (fun c129 => ?_)
        · omega
        · refine m_iload dX12_likely_132 rfl ?_
          refine m_iload dX12_likely_134 rfl ?_
          refine m_icmp_ne (tgt := 142) dX12_likely_136 (by decide) (fun c136 => ?_) (fun c136 => ?_)
          · rw [if_neg (by rw [bI_f (fun z => c136 z.2)]; decide)] at e1
            refine m_iinc dX12_likely_142 rfl (by decide) rfl rfl (by omega) ?_
            refine m_goto (tgt := 20) dX12_likely_145 (by decide) ?_
            exact ih (i + 1) L _ _ _ _ (by omega) (by omega) hL e1
          · rw [if_pos (bI_t ⟨hs, by omega⟩)] at e1
            refine m_iload dX12_likely_139 rfl ?_
            refine m_iret dX12_likely_141 rfl ?_
            have e2 := fwF_up (fun i => bI (I 118 i ≠ 0 ∧ lkF (dmF I (wlF (ltF a) n.toNat)) (I 118) i.toNat 16 = k)) (show i + 1 ≤ 16 by omega) (by rw [e1]; omega)
            rw [show liF (dmF I (wlF (ltF a) n.toNat)) (I 118) k = (i : Int) from e2.trans e1] at h
            exact h L hL
theorem py_likely {a n k : Int} (hd : 2 ≤ d) (hB : BkM I) : SI g d mX12_likely [vr 100, vl a, vi n, vi k] (shX nm no) (RX nm no) I (fun r J => r = aLik (isw a n) k (liF (dmF I (wlF (ltF a) n.toNat)) (I 118) k) ∧ ∀ x, x ≠ 120 → x ≠ 121 → x ≠ 122 → x ≠ 123 → x ≠ 124 → J x = I x) := by
  intro Q h
  refine C_of rfl (Nat.le_of_ble_eq_true rfl) rfl ?_
  refine m_aload_n dX12_likely_0 rfl ?_
  refine m_lload_n dX12_likely_1 rfl ?_
  refine m_iload_n dX12_likely_2 rfl ?_
  refine m_VI [_, _] dX12_likely_3 lk_X12_316 rfl oX_100 rfl (Nat.le_of_ble_eq_true rfl) (by omega) (y_isSpelled (by omega)) ?_
  intro r3 I3 q3
  obtain ⟨w0, w1, w2⟩ := q3
  refine m_if_eq (tgt := 14) dX12_likely_6 (by decide) (fun c6 => ?_) (fun c6 => ?_)
  · have z6 : ¬ isw a n := fun z => by have := w0.2.mpr z; omega
    refine m_bipush dX12_likely_14 rfl (by decide) ?_
    refine m_iret dX12_likely_16 rfl ?_
    exact h _ _ ⟨by unfold aLik; rw [cif_f (fun z => by first | exact z6 z.1 | (have := z.2; omega))], fun x a _ _ _ _ => w1 x a⟩
  · have z6 : isw a n := w0.2.mp (by have := w0.1; omega)
    refine m_iload dX12_likely_9 rfl ?_
    refine m_if_ge (tgt := 17) dX12_likely_11 (by decide) (fun c11 => ?_) (fun c11 => ?_)
    · refine m_iconst dX12_likely_17 (by decide) ?_
      refine m_istore dX12_likely_18 (by decide) rfl rfl ?_
      have hB2 : BkM I3 := by unfold BkM at hB ⊢; rw [w1 118 (by decide), w1 119 (by decide), w1 125 (by decide)]; exact hB
      have ed : dmF I3 (wlF (ltF a) n.toNat) = dmF I (wlF (ltF a) n.toNat) := by unfold dmF; rw [w1 118 (by decide), w1 119 (by decide)]
      exact y_li_outer (by omega) hB2 z6 (w2 z6) (fun K hK => h _ K ⟨by unfold aLik; rw [cif_t ⟨z6, by omega⟩, ed, w1 118 (by decide)], fun x a b c e f => by rw [hK x b c e f]; exact w1 x a⟩) 17 0 I3 _ _ _ _ (by omega) (by omega) (fun _ _ _ _ _ => rfl) rfl
    · refine m_bipush dX12_likely_14 rfl (by decide) ?_
      refine m_iret dX12_likely_16 rfl ?_
      exact h _ _ ⟨by unfold aLik; rw [cif_f (fun z => by first | exact z6 z.1 | (have := z.2; omega))], fun x a _ _ _ _ => w1 x a⟩
end
