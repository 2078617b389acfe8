/-! SIGNS OF WORDS: spell; the reference: addSigns -/
section
variable {g : GH} {d nm no : Nat} {I : II}
def sgnL : List Int := [5, 24, 26, 12, 2, 18, 14, 16, 4, 23, 13, 20, 7, 6, 15, 22, 29, 10, 8, 3, 9, 17, 11, 25, 27, 28]
def lnL : List Nat := [2, 4, 4, 3, 1, 4, 3, 4, 2, 4, 3, 4, 2, 2, 3, 4, 4, 3, 3, 1, 3, 4, 3, 4, 4, 4]
def sgnT (c : Nat) : Int := sgnL.getD c 0
def lnS (c : Nat) : Nat := lnL.getD c 0
/-- sign k of letter c -/
def sgS (c k : Nat) : Int := f_iand (f_ishr (sgnT c) ((lnS c - 1 - k : Nat) : Int)) 1
def rnkL : List Int := [3, 1, 4, 0, 2]
/-- the given rows RANKS and SIGNS -/
def GvI (g : GH) : Prop := 5 ≤ (gX g 2).1 ∧ (∀ j : Nat, j < 5 → (gX g 2).2 j = rnkL.getD j 0) ∧ 26 ≤ (gX g 3).1 ∧ ∀ j : Nat, j < 26 → (gX g 3).2 j = sgnT j
theorem sg_ok : ∀ c : Fin 26, (1 ≤ lnS c.val ∧ lnS c.val ≤ 4) ∧ (0 ≤ sgnT c.val ∧ sgnT c.val ≤ 31) ∧ ∀ b : Fin 5, (1 < f_ishr (sgnT c.val) (b.val : Int) ↔ b.val < lnS c.val) ∧ f_i2b (f_iand (f_ishr (sgnT c.val) (b.val : Int)) 1) = f_iand (f_ishr (sgnT c.val) (b.val : Int)) 1 ∧ vp_nar .byte (Int32.ofInt (f_iand (f_ishr (sgnT c.val) (b.val : Int)) 1)) = Int32.ofInt (f_iand (f_ishr (sgnT c.val) (b.val : Int)) 1) := by decide +kernel
def slF (c : Nat) : List Int := (List.range (lnS c)).map (sgS c)
/-- the signs of a word of n letters -/
def wlF (f : Nat → Nat) : Nat → List Int
  | 0 => []
  | n + 1 => wlF f n ++ (if n = 0 then [] else [2]) ++ slF (f n)
theorem slF_len (c : Nat) : (slF c).length = lnS c := by unfold slF; simp
theorem wlF_len {f : Nat → Nat} : ∀ n : Nat, (∀ k, k < n → f k < 26) → (wlF f n).length ≤ 5 * n - 1
  | 0, _ => by unfold wlF; simp
  | n + 1, h => by
    have ih := wlF_len n (fun k hk => h k (by omega))
    have hl := (sg_ok ⟨f n, h n (by omega)⟩).1
    unfold wlF
    rw [List.length_append, List.length_append, slF_len]
    have hl2 : lnS (f n) ≤ 4 := hl.2
    split
    · next e => subst e; simp [wlF]; omega
    · simp; omega
/-- the row o begins with the numbers l -/
def rwL (J : II) (o : Nat) (l : List Int) : Prop := ∀ j : Nat, j < l.length → J o j = l.getD j 0
theorem rwL_push {J : II} {o : Nat} {l : List Int} {x v : Int} (h : rwL J o l) (e : v = l.length) : rwL (upI J o v x) o (l ++ [x]) := by
  subst e
  intro j hj
  rw [List.length_append, List.length_singleton] at hj
  rcases (show j < l.length ∨ j = l.length by omega) with z | z
  · rw [upI_j (by omega), h j z, List.getD_eq_getElem?_getD, List.getD_eq_getElem?_getD, List.getElem?_append_left z]
  · subst z
    rw [upI_s, List.getD_eq_getElem?_getD, List.getElem?_append_right (Nat.le_refl _)]
    simp
theorem rng_map {α : Type} (f : Nat → α) (i : Nat) : (List.range (i + 1)).map f = (List.range i).map f ++ [f i] := by
  rw [List.range_succ, List.map_append]; rfl
def ltF (a : Int) (k : Nat) : Nat := (byF a k - 97).toNat
theorem x_sp_bits {o c : Nat} {a n k s : Int} {l : List Int} {Q : QT} (ho : shX nm no o = (22, 39)) (hc : c < 26) (hs : s = sgnT c) (hl : l.length + 4 ≤ 39)
    (hk : ∀ (J : II) (b : Int), (∀ x, x ≠ o → J x = I x) → rwL J o (l ++ slF c) → T g d mX0_spell 0 0 78 [some (vl a), none, some (vi n), some (vr o), some (vi ((l ++ slF c).length : Int)), some (vi k), some (vi s), some (vi b)] [] (shX nm no) (RX nm no) J Q) :
    ∀ (m : Nat) (J : II), m ≤ 4 → (∀ x, x ≠ o → J x = I x) → rwL J o (l ++ (List.range (lnS c - m)).map (sgS c)) → T g d mX0_spell 0 0 43 [some (vl a), none, some (vi n), some (vr o), some (vi ((l.length + (lnS c - m) : Nat) : Int)), some (vi k), some (vi s), some (vi ((m : Int) - 1))] [] (shX nm no) (RX nm no) J Q := by
  have hz := sg_ok ⟨c, hc⟩
  have hz1 : 1 ≤ lnS c ∧ lnS c ≤ 4 := hz.1
  intro m
  induction m with
  | zero =>
    intro J hm hF hr
    refine m_iload dX0_spell_43 rfl ?_
    refine m_if_lt (tgt := 78) dX0_spell_45 (by decide) (fun c45 => ?_) (fun c45 => ?_)
    · have e : (l ++ slF c).length = l.length + (lnS c - 0) := by rw [List.length_append, slF_len]; omega
      have z := hk J (((0 : Nat) : Int) - 1) hF hr
      rw [e] at z
      exact z
    · omega
  | succ m ih =>
    intro J hm hF hr
    have hb := hz.2.2 ⟨m, by omega⟩
    have hb1 : 1 < f_ishr s m ↔ m < lnS c := by rw [hs]; exact hb.1
    have hb2 : f_i2b (f_iand (f_ishr s m) 1) = f_iand (f_ishr s m) 1 := by rw [hs]; exact hb.2.1
    have hb3 : vp_nar .byte (Int32.ofInt (f_iand (f_ishr s m) 1)) = Int32.ofInt (f_iand (f_ishr s m) 1) := by rw [hs]; exact hb.2.2
    rw [show ((m + 1 : Nat) : Int) - 1 = m by omega]
    refine m_iload dX0_spell_43 rfl ?_
    refine m_if_lt (tgt := 78) dX0_spell_45 (by decide) (fun c45 => ?_) (fun c45 => ?_)
    · omega
    · refine m_iload dX0_spell_48 rfl ?_
      refine m_iload dX0_spell_50 rfl ?_
      refine m_ishr dX0_spell_52 ?_
      refine m_iconst dX0_spell_53 (by decide) ?_
      refine m_icmp_le (tgt := 72) dX0_spell_54 (by decide) (fun c54 => ?_) (fun c54 => ?_)
      · have hn : ¬ m < lnS c := fun z => by have := hb1.mpr z; omega
        have e0 : lnS c - (m + 1) = lnS c - m := by omega
        rw [e0] at hr ⊢
        refine m_iinc dX0_spell_72 rfl (by decide) rfl rfl (by omega) ?_
        refine m_goto (tgt := 43) dX0_spell_75 (by decide) ?_
        first
        | exact ih J (by omega) hF hr
        | (have es : sgS c (lnS c - (m + 1)) = f_iand (f_ishr s m) 1 := (by
             unfold sgS
             rw [show lnS c - 1 - (lnS c - (m + 1)) = m by omega, hs])
           have hr2 := rwL_push (x := f_iand (f_ishr s m) 1) (v := ((l.length + (lnS c - (m + 1)) : Nat) : Int)) hr (by simp)
           rw [List.append_assoc, ← es, ← rng_map, ← e1, es] at hr2
           have z := ih _ (by omega) (fun x hx => by rw [upI_o hx]; exact hF x hx) hr2
           rw [show ((l.length + (lnS c - m) : Nat) : Int) = ((l.length + (lnS c - (m + 1)) : Nat) : Int) + 1 by omega] at z
           exact z)
      · have hn : m < lnS c := hb1.mp (by omega)
        have e1 : lnS c - m = (lnS c - (m + 1)) + 1 := by omega
        refine m_aload_n dX0_spell_57 rfl ?_
        refine m_iload dX0_spell_58 rfl ?_
        refine m_iinc dX0_spell_60 rfl (by decide) rfl rfl (by omega) ?_
        refine m_iload dX0_spell_63 rfl ?_
        refine m_iload dX0_spell_65 rfl ?_
        refine m_ishr dX0_spell_67 ?_
        refine m_iconst dX0_spell_68 (by decide) ?_
        refine m_iand dX0_spell_69 ?_
        refine m_i2b dX0_spell_70 ?_
        rw [hb2]
        refine m_bast dX0_spell_71 ho (by omega) (by omega) hb3 ?_
        refine m_iinc dX0_spell_72 rfl (by decide) rfl rfl (by omega) ?_
        refine m_goto (tgt := 43) dX0_spell_75 (by decide) ?_
        first
        | exact ih J (by omega) hF hr
        | (have es : sgS c (lnS c - (m + 1)) = f_iand (f_ishr s m) 1 := (by
             unfold sgS
             rw [show lnS c - 1 - (lnS c - (m + 1)) = m by omega, hs])
           have hr2 := rwL_push (x := f_iand (f_ishr s m) 1) (v := ((l.length + (lnS c - (m + 1)) : Nat) : Int)) hr (by simp)
           rw [List.append_assoc, ← es, ← rng_map, ← e1, es] at hr2
           have z := ih _ (by omega) (fun x hx => by rw [upI_o hx]; exact hF x hx) hr2
           rw [show ((l.length + (lnS c - m) : Nat) : Int) = ((l.length + (lnS c - (m + 1)) : Nat) : Int) + 1 by omega] at z
           exact z)
theorem x_sp_loop {o : Nat} {a n : Int} {Q : QT} (hd : 1 ≤ d) (hG : GvI g) (ho : shX nm no o = (22, 39)) (hw : isw a n)
    (h : ∀ J : II, (∀ x, x ≠ o → J x = I x) → rwL J o (wlF (ltF a) n.toNat) → Q (some (vi ((wlF (ltF a) n.toNat).length : Int))) (shX nm no) (RX nm no) J) :
    ∀ (m k : Nat) (J : II) (l6 l7 : Option AV), n.toNat - k < m → k ≤ n.toNat → (∀ x, x ≠ o → J x = I x) → rwL J o (wlF (ltF a) k) → T g d mX0_spell 0 0 6 [some (vl a), none, some (vi n), some (vr o), some (vi ((wlF (ltF a) k).length : Int)), some (vi k), l6, l7] [] (shX nm no) (RX nm no) J Q := by
  have hn := hw.1
  have hlt : ∀ k : Nat, (k : Int) < n → ltF a k < 26 := fun k hk => by have := hw.2 k (by omega) hk; unfold ltF; omega
  intro m
  induction m with
  | zero => intro k J l6 l7 hm; omega
  | succ m ih =>
    intro k J l6 l7 hm hk hF hr
    have hlen := wlF_len (f := ltF a) k (fun j hj => hlt j (by omega))
    refine m_iload dX0_spell_6 rfl ?_
    refine m_iload_n dX0_spell_8 rfl ?_
    refine m_icmp_ge (tgt := 84) dX0_spell_9 (by decide) (fun c9 => ?_) (fun c9 => ?_)
    · have ek : k = n.toNat := by omega
      subst ek
      refine m_iload dX0_spell_84 rfl ?_
      refine m_iret dX0_spell_86 rfl ?_
      exact h J hF hr
    · have hlk := hlt k (by omega)
      have hbk := hw.2 k (by omega) (by omega)
      have hln := (sg_ok ⟨ltF a k, hlk⟩).1
      have hl4 : lnS (ltF a k) ≤ 4 := hln.2
      refine m_iload dX0_spell_12 rfl ?_
      refine m_if_le (tgt := 25) dX0_spell_14 (by decide) (fun c14 => ?_) (fun c14 => ?_)
      · have e0 : k = 0 := by omega
        have ew : wlF (ltF a) (k + 1) = wlF (ltF a) k ++ slF (ltF a k) := by
          show wlF (ltF a) k ++ (if k = 0 then [] else [2]) ++ slF (ltF a k) = _
          rw [if_pos e0, List.append_nil]
        refine m_gets (k := 3) dX0_spell_25 gs_X0_40 (Or.inr ⟨rfl, rfl⟩) ?_
        refine m_lload_n dX0_spell_28 rfl ?_
        refine m_iload dX0_spell_29 rfl ?_
        refine m_Ni [_, _] dX0_spell_31 lk_X0_43 rfl rfl (Nat.le_of_ble_eq_true rfl) (by omega) (x_byteOf ⟨by omega, by omega⟩) ?_
        refine m_bipush dX0_spell_34 rfl (by decide) ?_
        refine m_isub dX0_spell_36 (by omega) ?_
        refine m_gld dX0_spell_37 (by decide) (by omega) (by have := hG.2.2.1; omega) ?_
        rw [hG.2.2.2 _ (by omega)]
        refine m_istore dX0_spell_38 (by decide) rfl rfl ?_
        refine m_iconst dX0_spell_40 (by decide) ?_
        refine m_istore dX0_spell_41 (by decide) rfl rfl ?_
        first
        | (have z := x_sp_bits (g := g) (d := d) (I := J) (a := a) (n := n) (k := k) (l := wlF (ltF a) k) (Q := Q) ho hlk rfl (by omega) (fun K b hK hrK => ?_) 4 J (by omega) (fun _ _ => rfl) (by rw [show lnS (ltF a k) - 4 = 0 by omega]; simpa using hr)
           · rw [show lnS (ltF a k) - 4 = 0 by omega, Nat.add_zero] at z
             exact z
           · rw [← ew] at hrK ⊢
             refine m_iinc dX0_spell_78 rfl (by decide) rfl rfl (by omega) ?_
             refine m_goto (tgt := 6) dX0_spell_81 (by decide) ?_
             exact ih (k + 1) K _ _ (by omega) (by omega) (fun x hx => (hK x hx).trans (hF x hx)) hrK)
        | (have hr2 := rwL_push (x := 2) (v := ((wlF (ltF a) k).length : Int)) hr rfl
           have z := x_sp_bits (g := g) (d := d) (I := upI J o ((wlF (ltF a) k).length : Int) 2) (a := a) (n := n) (k := k) (l := wlF (ltF a) k ++ [2]) (Q := Q) ho hlk rfl (by rw [List.length_append, List.length_singleton]; omega) (fun K b hK hrK => ?_) 4 _ (by omega) (fun _ _ => rfl) (by rw [show lnS (ltF a k) - 4 = 0 by omega]; simpa using hr2)
           · rw [show lnS (ltF a k) - 4 = 0 by omega, Nat.add_zero, List.length_append, List.length_singleton] at z
             exact z
           · rw [← ew] at hrK ⊢
             refine m_iinc dX0_spell_78 rfl (by decide) rfl rfl (by omega) ?_
             refine m_goto (tgt := 6) dX0_spell_81 (by decide) ?_
             exact ih (k + 1) K _ _ (by omega) (by omega) (fun x hx => ((hK x hx).trans (upI_o hx)).trans (hF x hx)) hrK)
      · have ew : wlF (ltF a) (k + 1) = wlF (ltF a) k ++ [2] ++ slF (ltF a k) := by
          show wlF (ltF a) k ++ (if k = 0 then [] else [2]) ++ slF (ltF a k) = _
          rw [if_neg (by omega)]
        refine m_aload_n dX0_spell_17 rfl ?_
        refine m_iload dX0_spell_18 rfl ?_
        refine m_iinc dX0_spell_20 rfl (by decide) rfl rfl (by omega) ?_
        refine m_iconst dX0_spell_23 (by decide) ?_
        refine m_bast dX0_spell_24 ho (by omega) (by omega) (by decide) ?_
        refine m_gets (k := 3) dX0_spell_25 gs_X0_40 (Or.inr ⟨rfl, rfl⟩) ?_
        refine m_lload_n dX0_spell_28 rfl ?_
        refine m_iload dX0_spell_29 rfl ?_
        refine m_Ni [_, _] dX0_spell_31 lk_X0_43 rfl rfl (Nat.le_of_ble_eq_true rfl) (by omega) (x_byteOf ⟨by omega, by omega⟩) ?_
        refine m_bipush dX0_spell_34 rfl (by decide) ?_
        refine m_isub dX0_spell_36 (by omega) ?_
        refine m_gld dX0_spell_37 (by decide) (by omega) (by have := hG.2.2.1; omega) ?_
        rw [hG.2.2.2 _ (by omega)]
        refine m_istore dX0_spell_38 (by decide) rfl rfl ?_
        refine m_iconst dX0_spell_40 (by decide) ?_
        refine m_istore dX0_spell_41 (by decide) rfl rfl ?_
        first
        | (have z := x_sp_bits (g := g) (d := d) (I := J) (a := a) (n := n) (k := k) (l := wlF (ltF a) k) (Q := Q) ho hlk rfl (by omega) (fun K b hK hrK => ?_) 4 J (by omega) (fun _ _ => rfl) (by rw [show lnS (ltF a k) - 4 = 0 by omega]; simpa using hr)
           · rw [show lnS (ltF a k) - 4 = 0 by omega, Nat.add_zero] at z
             exact z
           · rw [← ew] at hrK ⊢
             refine m_iinc dX0_spell_78 rfl (by decide) rfl rfl (by omega) ?_
             refine m_goto (tgt := 6) dX0_spell_81 (by decide) ?_
             exact ih (k + 1) K _ _ (by omega) (by omega) (fun x hx => (hK x hx).trans (hF x hx)) hrK)
        | (have hr2 := rwL_push (x := 2) (v := ((wlF (ltF a) k).length : Int)) hr rfl
           have z := x_sp_bits (g := g) (d := d) (I := upI J o ((wlF (ltF a) k).length : Int) 2) (a := a) (n := n) (k := k) (l := wlF (ltF a) k ++ [2]) (Q := Q) ho hlk rfl (by rw [List.length_append, List.length_singleton]; omega) (fun K b hK hrK => ?_) 4 _ (by omega) (fun _ _ => rfl) (by rw [show lnS (ltF a k) - 4 = 0 by omega]; simpa using hr2)
           · rw [show lnS (ltF a k) - 4 = 0 by omega, Nat.add_zero, List.length_append, List.length_singleton] at z
             exact z
           · rw [← ew] at hrK ⊢
             refine m_iinc dX0_spell_78 rfl (by decide) rfl rfl (by omega) ?_
             refine m_goto (tgt := 6) dX0_spell_81 (by decide) ?_
             exact ih (k + 1) K _ _ (by omega) (by omega) (fun x hx => ((hK x hx).trans (upI_o hx)).trans (hF x hx)) hrK)
theorem x_spell {o : Nat} {a n : Int} (hd : 1 ≤ d) (hG : GvI g) (ho : shX nm no o = (22, 39)) (hw : isw a n) : SI g d mX0_spell [vl a, vi n, vr o] (shX nm no) (RX nm no) I (fun r J => r = ((wlF (ltF a) n.toNat).length : Int) ∧ (∀ x, x ≠ o → J x = I x) ∧ rwL J o (wlF (ltF a) n.toNat)) := by
  intro Q h
  refine C_of rfl (Nat.le_of_ble_eq_true rfl) rfl ?_
  refine m_iconst dX0_spell_0 (by decide) ?_
  refine m_istore dX0_spell_1 (by decide) rfl rfl ?_
  refine m_iconst dX0_spell_3 (by decide) ?_
  refine m_istore dX0_spell_4 (by decide) rfl rfl ?_
  exact x_sp_loop hd hG ho hw (fun J a b => h _ J ⟨rfl, a, b⟩) _ 0 I _ _ (Nat.lt_succ_self _) (by omega) (fun _ _ => rfl) (fun j hj => absurd hj (Nat.not_lt_zero _))
theorem y_as_len {o c : Nat} {b ch s : Int} {Q : QT} (hc : c < 26) (hs : s = sgnT c) (hk : T g d mX12_addSigns 0 0 29 [some (vr 100), some (vr o), some (vi b), some (vi ch), some (vi s), some (vi (lnS c)), none] [] (shX nm no) (RX nm no) I Q) : ∀ (m i : Nat), lnS c - i < m → i ≤ lnS c → T g d mX12_addSigns 0 0 14 [some (vr 100), some (vr o), some (vi b), some (vi ch), some (vi s), some (vi i), none] [] (shX nm no) (RX nm no) I Q := by
  have hz := sg_ok ⟨c, hc⟩
  have hz1 : 1 ≤ lnS c ∧ lnS c ≤ 4 := hz.1
  intro m
  induction m with
  | zero => intro i hm; omega
  | succ m ih =>
    intro i hm hi
    have hb1 : 1 < f_ishr s i ↔ i < lnS c := by rw [hs]; exact (hz.2.2 ⟨i, by omega⟩).1
    refine m_iload dX12_addSigns_14 rfl ?_
    refine m_iload dX12_addSigns_16 rfl ?_
    refine m_ishr dX12_addSigns_18 ?_
    refine m_iconst dX12_addSigns_19 (by decide) ?_
    refine m_icmp_le (tgt := 29) dX12_addSigns_20 (by decide) (fun c20 => ?_) (fun c20 => ?_)
    · have hn : ¬ i < lnS c := fun z => by have := hb1.mpr z; omega
      have ei : i = lnS c := by omega
      rw [ei]
      exact hk
    · have hn : i < lnS c := hb1.mp (by omega)
      refine m_iinc dX12_addSigns_23 rfl (by decide) rfl rfl (by omega) ?_
      refine m_goto (tgt := 14) dX12_addSigns_26 (by decide) ?_
      exact ih (i + 1) (by omega) (by omega)
theorem y_as_put {o N c : Nat} {ch s : Int} {l : List Int} {Q : QT} (ho : shX nm no o = (20, N)) (hc : c < 26) (hs : s = sgnT c) (hl : l.length + 4 ≤ N) (hN : N ≤ 100)
    (h : ∀ J : II, (∀ x, x ≠ o → J x = I x) → rwL J o (l ++ slF c) → Q (some (vi ((l ++ slF c).length : Int))) (shX nm no) (RX nm no) J) : ∀ (m i : Nat) (J : II), lnS c - i < m → i ≤ lnS c → (∀ x, x ≠ o → J x = I x) → rwL J o (l ++ (List.range i).map (sgS c)) → T g d mX12_addSigns 0 0 32 [some (vr 100), some (vr o), some (vi (l.length : Int)), some (vi ch), some (vi s), some (vi (lnS c)), some (vi i)] [] (shX nm no) (RX nm no) J Q := by
  have hz := sg_ok ⟨c, hc⟩
  have hz1 : 1 ≤ lnS c ∧ lnS c ≤ 4 := hz.1
  intro m
  induction m with
  | zero => intro i J hm; omega
  | succ m ih =>
    intro i J hm hi hF hr
    refine m_iload dX12_addSigns_32 rfl ?_
    refine m_iload dX12_addSigns_34 rfl ?_
    refine m_icmp_ge (tgt := 63) dX12_addSigns_36 (by decide) (fun c36 => ?_) (fun c36 => ?_)
    · have ei : i = lnS c := by omega
      subst ei
      have z := h J hF hr
      rw [List.length_append, slF_len] at z
      refine m_iload_n dX12_addSigns_63 rfl ?_
      refine m_iload dX12_addSigns_64 rfl ?_
      refine m_iadd dX12_addSigns_66 (by omega) ?_
      refine m_iret dX12_addSigns_67 rfl ?_
      rw [show ((l.length + lnS c : Nat) : Int) = (l.length : Int) + lnS c by omega] at z
      exact z
    · have es : sgS c i = f_iand (f_ishr s ((lnS c : Int) - 1 - i)) 1 := by
        unfold sgS
        rw [show ((lnS c - 1 - i : Nat) : Int) = (lnS c : Int) - 1 - i by omega, hs]
      refine m_aload_n dX12_addSigns_39 rfl ?_
      refine m_iload_n dX12_addSigns_40 rfl ?_
      refine m_iload dX12_addSigns_41 rfl ?_
      refine m_iadd dX12_addSigns_43 (by omega) ?_
      refine m_iload dX12_addSigns_44 rfl ?_
      refine m_iload dX12_addSigns_46 rfl ?_
      refine m_iconst dX12_addSigns_48 (by decide) ?_
      refine m_isub dX12_addSigns_49 (by omega) ?_
      refine m_iload dX12_addSigns_50 rfl ?_
      refine m_isub dX12_addSigns_52 (by omega) ?_
      refine m_ishr dX12_addSigns_53 ?_
      refine m_iconst dX12_addSigns_54 (by decide) ?_
      refine m_iand dX12_addSigns_55 ?_
      refine m_iast dX12_addSigns_56 ho (by omega) (by omega) ?_
      refine m_iinc dX12_addSigns_57 rfl (by decide) rfl rfl (by omega) ?_
      refine m_goto (tgt := 32) dX12_addSigns_60 (by decide) ?_
      have hr2 := rwL_push (x := sgS c i) (v := (l.length : Int) + i) hr (by simp)
      rw [List.append_assoc, ← rng_map] at hr2
      rw [← es]
      exact ih (i + 1) _ (by omega) (by omega) (fun x hx => by rw [upI_o hx]; exact hF x hx) hr2
theorem y_addSigns {o N : Nat} {ch : Int} {l : List Int} (ho : shX nm no o = (20, N)) (hN : N ≤ 100) (hc : 97 ≤ ch ∧ ch ≤ 122) (hl : l.length + 4 ≤ N) (hr : rwL I o l) (hT : ∀ j : Nat, j < 26 → I 125 j = sgnT j) : SI g d mX12_addSigns [vr 100, vr o, vi (l.length : Int), vi ch] (shX nm no) (RX nm no) I (fun r J => r = ((l ++ slF (ch - 97).toNat).length : Int) ∧ (∀ x, x ≠ o → J x = I x) ∧ rwL J o (l ++ slF (ch - 97).toNat)) := by
  intro Q h
  refine C_of rfl (Nat.le_of_ble_eq_true rfl) rfl ?_
  refine m_aload_n dX12_addSigns_0 rfl ?_
  refine m_gr (z := 40) dX12_addSigns_1 fl_X12_90 oX_100 rfl rfl rX_100_40 ?_
  refine m_iload_n dX12_addSigns_4 rfl ?_
  refine m_bipush dX12_addSigns_5 rfl (by decide) ?_
  refine m_isub dX12_addSigns_7 (by omega) ?_
  refine m_iald dX12_addSigns_8 sX_125 (by omega) (by omega) ?_
  rw [show ch - 97 = ((ch - 97).toNat : Int) by omega, hT _ (by omega)]
  refine m_istore dX12_addSigns_9 (by decide) rfl rfl ?_
  refine m_iconst dX12_addSigns_11 (by decide) ?_
  refine m_istore dX12_addSigns_12 (by decide) rfl rfl ?_
  refine y_as_len (c := (ch - 97).toNat) (by omega) rfl ?_ _ 0 (Nat.lt_succ_self _) (by omega)
  refine m_iconst dX12_addSigns_29 (by decide) ?_
  refine m_istore dX12_addSigns_30 (by decide) rfl rfl ?_
  exact y_as_put ho (by omega) rfl hl hN (fun J a b => h _ J ⟨rfl, a, b⟩) _ 0 I (Nat.lt_succ_self _) (by omega) (fun _ _ => rfl) (by simpa using hr)
end
