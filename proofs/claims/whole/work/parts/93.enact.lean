/-! ORDERS: <init>; LAW: enact; force -/
section
variable {g : GH} {d nm no : Nat} {I : II}
theorem nwS_s {sh : SH} {o t n : Nat} : nwS sh o t n o = (t, n) := if_pos rfl
theorem nwS_o {sh : SH} {o t n x : Nat} (h : x ≠ o) : nwS sh o t n x = sh x := if_neg h
theorem nwR_s {R : RR} {o : Nat} {j : Int} : nwR R o o j = none := if_pos rfl
theorem nwR_o {R : RR} {o x : Nat} (h : x ≠ o) : nwR R o x = R x := funext fun _ => if_neg h
theorem nwI_o {I : II} {o x : Nat} (h : x ≠ o) : nwI I o x = I x := funext fun _ => if_neg h
section
variable {sh : SH} {R : RR} {q a b c : Nat}
abbrev nOs (sh : SH) (a b c : Nat) : SH := nwS (nwS (nwS sh a 20 5) b 20 5) c 20 8
abbrev nOr (R : RR) (q a b c : Nat) : RR := upR (nwR (upR (nwR (upR (nwR R a) q 0 (some a)) b) q 1 (some b)) c) q 2 (some c)
abbrev nOi (I : II) (q a b c : Nat) (r : Int → Int) : II := fgI (nwI (nwI (nwI I a) b) c) q a b c r
theorem nO_at (hq : (sh q).1 = 5 + 1) (hD : dsO q a b c) : OrdAt (nOs sh a b c) (nOr R q a b c) q a b c := by
  obtain ⟨d0, d1, d2, d3, d4, d5, d6, d7⟩ := hD
  unfold nOs nOr
  refine ⟨by rw [nwS_o d4, nwS_o d3, nwS_o d2]; exact hq, ?_, ?_, upR_s, by rw [nwS_o d6, nwS_o d5, nwS_s], by rw [nwS_o d7, nwS_s], nwS_s⟩
  · rw [upR_j (by decide), nwR_o d4, upR_j (by decide), nwR_o d3, upR_s]
  · rw [upR_j (by decide), nwR_o d4, upR_s]
theorem x_init5 (hG : GvI g) (hd : 3 ≤ d) (hq : (sh q).1 = 5 + 1) (ha : (sh a).1 = 0) (hb : (sh b).1 = 0) (hc : (sh c).1 = 0) (r1 : 16 ≤ a ∧ a < 1000) (r2 : 16 ≤ b ∧ b < 1000) (r3 : 16 ≤ c ∧ c < 1000) (hD : dsO q a b c) : SP g d mX5_init 3 18 [vr q] sh R I none (nOs sh a b c) (nOr R q a b c) (nOi I q a b c (fun j => (gX g 2).2 j.toNat)) := by
  have d2 : q ≠ a := hD.2.2.1
  have d3 : q ≠ b := hD.2.2.2.1
  have d4 : q ≠ c := hD.2.2.2.2.1
  have d5 : a ≠ b := hD.2.2.2.2.2.1
  have d6 : a ≠ c := hD.2.2.2.2.2.2.1
  have d7 : b ≠ c := hD.2.2.2.2.2.2.2
  intro Q h
  refine C_of rfl (Nat.le_of_ble_eq_true rfl) rfl ?_
  refine m_aload_n dX5_init_0 rfl ?_
  refine m_objInit dX5_init_1 lk_X5_3 (by omega) (Nat.le_of_ble_eq_true rfl) ?_
  refine m_aload_n dX5_init_4 rfl ?_
  refine m_iconst dX5_init_5 (by decide) ?_
  refine m_newa (k := 0) a dX5_init_6 rfl aw_int ⟨by decide, rfl, rfl, by decide⟩ (by omega) (by omega) ha (by omega) (by omega) (by decide) ?_
  refine m_putrF (k := 0) dX5_init_8 fl_X5_9 (by first | exact hq | (rw [nwS_o d2]; exact hq) | (rw [nwS_o d3, nwS_o d2]; exact hq) | (rw [nwS_o d4, nwS_o d3, nwS_o d2]; exact hq)) rfl rfl rfl rfl (Or.inr ⟨_, rfl⟩) ?_
  refine m_aload_n dX5_init_11 rfl ?_
  refine m_iconst dX5_init_12 (by decide) ?_
  refine m_newa (k := 0) b dX5_init_13 rfl aw_int ⟨by decide, rfl, rfl, by decide⟩ (by omega) (by omega) (by rw [nwS_o d5.symm]; exact hb) (by omega) (by omega) (by decide) ?_
  refine m_putrF (k := 1) dX5_init_15 fl_X5_15 (by first | exact hq | (rw [nwS_o d2]; exact hq) | (rw [nwS_o d3, nwS_o d2]; exact hq) | (rw [nwS_o d4, nwS_o d3, nwS_o d2]; exact hq)) rfl rfl rfl rfl (Or.inr ⟨_, rfl⟩) ?_
  refine m_aload_n dX5_init_18 rfl ?_
  refine m_bipush dX5_init_19 rfl (by decide) ?_
  refine m_newa (k := 0) c dX5_init_21 rfl aw_int ⟨by decide, rfl, rfl, by decide⟩ (by omega) (by omega) (by rw [nwS_o d7.symm, nwS_o d6.symm]; exact hc) (by omega) (by omega) (by decide) ?_
  refine m_putrF (k := 2) dX5_init_23 fl_X5_18 (by first | exact hq | (rw [nwS_o d2]; exact hq) | (rw [nwS_o d3, nwS_o d2]; exact hq) | (rw [nwS_o d4, nwS_o d3, nwS_o d2]; exact hq)) rfl rfl rfl rfl (Or.inr ⟨_, rfl⟩) ?_
  refine m_aload_n dX5_init_26 rfl ?_
  refine m_Vv [] dX5_init_27 lk_X5_21 rfl (by first | exact hq | (rw [nwS_o d2]; exact hq) | (rw [nwS_o d3, nwS_o d2]; exact hq) | (rw [nwS_o d4, nwS_o d3, nwS_o d2]; exact hq)) rfl (Nat.le_of_ble_eq_true rfl) (by omega) (x_forget hG (by omega) (nO_at hq hD)) ?_
  refine m_vret dX5_init_30 rfl ?_
  exact h
end
theorem shX_enact {nm no : Nat} (hm : nm ≤ 24) (hno : no < 6) : nOs (nwS (shX nm no) (300 + (no + 1)) 6 0) (310 + (no + 1)) (320 + (no + 1)) (330 + (no + 1)) = shX nm (no + 1) := by
  unfold nOs
  funext k
  by_cases e3 : k = 330 + (no + 1)
  · rw [e3, nwS_s]; exact (sX_ordK (Nat.le_refl _) hm (by omega)).symm
  rw [nwS_o e3]
  by_cases e2 : k = 320 + (no + 1)
  · rw [e2, nwS_s]; exact (sX_ordP (Nat.le_refl _) hm (by omega)).symm
  rw [nwS_o e2]
  by_cases e1 : k = 310 + (no + 1)
  · rw [e1, nwS_s]; exact (sX_ordR (Nat.le_refl _) hm (by omega)).symm
  rw [nwS_o e1]
  by_cases e0 : k = 300 + (no + 1)
  · rw [e0, nwS_s]
    unfold shX
    rw [if_neg (by omega), if_neg (by omega), if_neg (by omega), if_pos (by omega)]
  rw [nwS_o e0]
  have f0 : (300 ≤ k ∧ k ≤ 300 + no) = (300 ≤ k ∧ k ≤ 300 + (no + 1)) := propext (by omega)
  have f1 : (310 ≤ k ∧ k ≤ 310 + no) = (310 ≤ k ∧ k ≤ 310 + (no + 1)) := propext (by omega)
  have f2 : (320 ≤ k ∧ k ≤ 320 + no) = (320 ≤ k ∧ k ≤ 320 + (no + 1)) := propext (by omega)
  have f3 : (330 ≤ k ∧ k ≤ 330 + no) = (330 ≤ k ∧ k ≤ 330 + (no + 1)) := propext (by omega)
  unfold shX
  simp only [f0, f1, f2, f3]
theorem RX_enact {nm no : Nat} (hno : no < 6) : upR (nOr (nwR (upR (RX nm no) 42 (no : Int) (some (300 + no))) (300 + (no + 1))) (300 + (no + 1)) (310 + (no + 1)) (320 + (no + 1)) (330 + (no + 1))) 37 2 (some (300 + (no + 1))) = RX nm (no + 1) := by
  unfold nOr
  funext x j
  by_cases h37 : x = 37
  · subst h37
    by_cases e : j = 2
    · subst e; rw [upR_s]; rfl
    · rw [upR_j e, upR_o (by omega), nwR_o (by omega), upR_o (by omega), nwR_o (by omega), upR_o (by omega), nwR_o (by omega), nwR_o (by omega), upR_o (by decide)]
      unfold RX
      rw [if_neg (show ¬ ((37 : Nat) = 37 ∧ j = 2) from fun z => e z.2), if_neg (show ¬ ((37 : Nat) = 37 ∧ j = 2) from fun z => e z.2)]
      rfl
  rw [upR_o h37]
  by_cases hq : x = 300 + (no + 1)
  · rw [hq]
    by_cases j2 : j = 2
    · rw [j2, upR_s]
      have z := rX_ord (nm := nm) (Nat.le_refl (no + 1)) 2 (by decide)
      rw [show 300 + (no + 1) + 10 + 10 * 2 = 330 + (no + 1) by omega] at z
      exact z.symm
    rw [upR_j j2, nwR_o (by omega)]
    by_cases j1 : j = 1
    · rw [j1, upR_s]
      have z := rX_ord (nm := nm) (Nat.le_refl (no + 1)) 1 (by decide)
      rw [show 300 + (no + 1) + 10 + 10 * 1 = 320 + (no + 1) by omega] at z
      exact z.symm
    rw [upR_j j1, nwR_o (by omega)]
    by_cases j0 : j = 0
    · rw [j0, upR_s]
      have z := rX_ord (nm := nm) (Nat.le_refl (no + 1)) 0 (by decide)
      rw [show 300 + (no + 1) + 10 + 10 * 0 = 310 + (no + 1) by omega] at z
      exact z.symm
    rw [upR_j j0, nwR_o (by omega), nwR_s]
    unfold RX
    by_cases jn : j < 0
    · rw [if_pos jn]
    · rw [if_neg jn, if_neg (by omega), if_neg (by omega), if_neg (by omega), if_neg (by omega), if_pos (by omega), if_neg (by omega)]
  rw [upR_o hq]
  by_cases h3 : x = 330 + (no + 1)
  · rw [h3, nwR_s]
    unfold RX
    by_cases jn : j < 0
    · rw [if_pos jn]
    · rw [if_neg jn, if_neg (by omega), if_neg (by omega), if_neg (by omega), if_neg (by omega), if_neg (by omega), if_neg (by omega)]
  rw [nwR_o h3, upR_o hq]
  by_cases h2 : x = 320 + (no + 1)
  · rw [h2, nwR_s]
    unfold RX
    by_cases jn : j < 0
    · rw [if_pos jn]
    · rw [if_neg jn, if_neg (by omega), if_neg (by omega), if_neg (by omega), if_neg (by omega), if_neg (by omega), if_neg (by omega)]
  rw [nwR_o h2, upR_o hq]
  by_cases h1 : x = 310 + (no + 1)
  · rw [h1, nwR_s]
    unfold RX
    by_cases jn : j < 0
    · rw [if_pos jn]
    · rw [if_neg jn, if_neg (by omega), if_neg (by omega), if_neg (by omega), if_neg (by omega), if_neg (by omega), if_neg (by omega)]
  rw [nwR_o h1, nwR_o hq]
  by_cases h42 : x = 42
  · subst h42
    by_cases e : j = no
    · rw [e, upR_s]
      exact ((rX_forced (nm := nm) (no := no + 1) (show (0 : Int) ≤ (no : Int) by omega) (by omega)).trans (by rw [Int.toNat_natCast])).symm
    · rw [upR_j e]
      have r42 : ∀ n : Nat, RX nm n 42 j = if j < 0 then none else if j < (n : Int) then some (300 + j.toNat) else none := fun n => by
        unfold RX
        by_cases jn : j < 0
        · rw [if_pos jn, if_pos jn]
        · rw [if_neg jn, if_neg jn, if_neg (show ¬ ((42 : Nat) = 44) by decide), if_neg (show ¬ ((42 : Nat) = 45) by decide), if_pos (show (42 : Nat) = 42 from rfl)]
      rw [r42, r42]
      by_cases jn : j < 0
      · rw [if_pos jn, if_pos jn]
      · rw [if_neg jn, if_neg jn]
        by_cases jl : j < (no : Int)
        · rw [if_pos jl, if_pos (by omega)]
        · rw [if_neg jl, if_neg (by omega)]
  rw [upR_o h42]
  have f0 : (300 ≤ x ∧ x ≤ 300 + no) = (300 ≤ x ∧ x ≤ 300 + (no + 1)) := propext (by omega)
  unfold RX
  rw [if_neg (show ¬ (x = 37 ∧ j = 2) from fun z => h37 z.1), if_neg (show ¬ (x = 37 ∧ j = 2) from fun z => h37 z.1), if_neg h42, if_neg h42]
  simp only [f0]
theorem fr_ord {nm no : Nat} (hm : nm ≤ 24) (hno : no < 6) : (shX nm no (300 + (no + 1))).1 = 0 ∧ (shX nm no (310 + (no + 1))).1 = 0 ∧ (shX nm no (320 + (no + 1))).1 = 0 ∧ (shX nm no (330 + (no + 1))).1 = 0 := by
  unfold shX
  refine ⟨?_, ?_, ?_, ?_⟩ <;> rw [if_neg (by omega), if_neg (by omega), if_neg (by omega), if_neg (by omega), if_neg (by omega), if_neg (by omega), if_neg (by omega), if_neg (by omega)]
theorem x_en_loop {J : II} {t lg : Int} {Q : QT} (hm' : nm ≤ 24) (hno : no < 6) (h4 : J 37 4 = lg) (ht : 0 ≤ t ∧ t ≤ 9000) (hl : 0 ≤ lg ∧ lg ≤ 99) (hs : ∀ o, 0 ≤ o → o < 8 → 0 ≤ J 36 o ∧ J 36 o ≤ 1000000) {bc bs : Nat} (hk : ∀ l4 : Option AV, T g d mX2_enact bc bs 61 [some (vr 37), some (vr 21), some (vi t), some (vi 8), l4] [] (shX nm no) (RX nm no) (cpI J (330 + no) (knF t lg (J 36)) 8) Q) :
    ∀ (m : Nat) (i : Int) (l4 : Option AV), (8 - i).toNat < m → 0 ≤ i → i ≤ 8 → T g d mX2_enact bc bs 12 [some (vr 37), some (vr 21), some (vi t), some (vi i), l4] [] (shX nm no) (RX nm no) (cpI J (330 + no) (knF t lg (J 36)) i) Q := by
  intro m
  induction m with
  | zero => intro i l4 hm; omega
  | succ m ih =>
    intro i l4 hm h0 h1
    have ho := ord_at (nm := nm) (no := no) (k := no) (Nat.le_refl no) hm' (by omega)
    refine m_iload_n dX2_enact_12 rfl ?_
    refine m_bipush dX2_enact_13 rfl (by decide) ?_
    refine m_icmp_ge (tgt := 61) dX2_enact_15 (by decide) (fun c15 => ?_) (fun c15 => ?_)
    · have ei : i = 8 := by omega
      subst ei
      exact hk l4
    · have hb := hs i h0 (by omega)
      refine m_aload_n dX2_enact_18 rfl ?_
      refine m_gr (z := 8) dX2_enact_19 fl_X2_58 oX_21 rfl rfl rX_21_8 ?_
      refine m_iload_n dX2_enact_22 rfl ?_
      refine m_iald dX2_enact_23 sX_36 (by omega) (by omega) ?_
      rw [cpI_o (by omega)]
      refine m_istore dX2_enact_24 (by decide) rfl rfl ?_
      refine m_aload_n dX2_enact_26 rfl ?_
      refine m_gr (z := 2) dX2_enact_27 fl_X2_22 oX_37 rfl rfl rX_draft ?_
      refine m_gr (z := 2) dX2_enact_30 fl_X2_62 ho.1 rfl rfl ho.2.2.2.1 ?_
      refine m_iload_n dX2_enact_33 rfl ?_
      refine m_iload dX2_enact_34 rfl ?_
      refine m_ldc (a := 1000000) dX2_enact_36 kc_X2_65 rfl ?_
      refine m_icmp_ne (tgt := 45) dX2_enact_38 (by decide) (fun c38 => ?_) (fun c38 => ?_)
      · have hx := kn_bd ht hl hb.1 (show J 36 i < 1000000 by omega)
        refine m_iload_n dX2_enact_45 rfl ?_
        refine m_aload_n dX2_enact_46 rfl ?_
        refine m_gi (z := 4) dX2_enact_47 fl_X2_25 oX_37 rfl rfl ?_
        rw [cpI_o (by omega), h4]
        refine m_iload dX2_enact_50 rfl ?_
        refine m_imul dX2_enact_52 (by omega) ?_
        refine m_iadd dX2_enact_53 (by omega) ?_
        refine m_iast dX2_enact_54 ho.2.2.2.2.2.2 (by omega) (by omega) ?_
        first
        | rw [show t + lg * J 36 i = knF t lg (J 36) i from (if_neg (by omega)).symm]
        | rw [show (-1 : Int) = knF t lg (J 36) i from (if_pos (by omega)).symm]
        refine m_iinc dX2_enact_55 rfl (by decide) rfl rfl (by omega) ?_
        refine m_goto (tgt := 12) dX2_enact_58 (by decide) ?_
        rw [cpI_up h0]
        exact ih (i + 1) _ (by omega) (by omega) (by omega)
      · refine m_iconst dX2_enact_41 (by decide) ?_
        refine m_goto (tgt := 54) dX2_enact_42 (by decide) ?_
        refine m_iast dX2_enact_54 ho.2.2.2.2.2.2 (by omega) (by omega) ?_
        first
        | rw [show t + lg * J 36 i = knF t lg (J 36) i from (if_neg (by omega)).symm]
        | rw [show (-1 : Int) = knF t lg (J 36) i from (if_pos (by omega)).symm]
        refine m_iinc dX2_enact_55 rfl (by decide) rfl rfl (by omega) ?_
        refine m_goto (tgt := 12) dX2_enact_58 (by decide) ?_
        rw [cpI_up h0]
        exact ih (i + 1) _ (by omega) (by omega) (by omega)
def ENP (no : Nat) (t : Int) (I J : II) : Prop := (∀ x, x ≠ 36 → x ≠ 37 → x ≠ 330 + no → x ≠ 300 + (no + 1) → x ≠ 310 + (no + 1) → x ≠ 320 + (no + 1) → x ≠ 330 + (no + 1) → J x = I x) ∧ (∀ j : Int, j ≠ 3 → J 37 j = I 37 j) ∧ J 37 3 = (no : Int) + 1 ∧ ∃ s, solX I 1 (f_ishl 1 (I 21 9) - 1) 0 s ∧ ∀ o : Int, 0 ≤ o → o < 8 → J (330 + no) o = knF t (I 37 4) s o
theorem x_enact (hG : GvI g) (hm : nm ≤ 24) (hno : no < 6) (h3 : I 37 3 = no) {t : Int} (hN : NetI I) (ht : 0 ≤ t ∧ t ≤ 9000) (hl : 0 ≤ I 37 4 ∧ I 37 4 ≤ 99) (hd : 5 ≤ d) : ∀ Q : QT, (∀ J, ENP no t I J → Q (some (vi no)) (shX nm (no + 1)) (RX nm (no + 1)) J) → C g d mX2_enact 4 26 [vr 37, vr 21, vi t] (shX nm no) (RX nm no) I Q := by
  intro Q h
  refine C_of rfl (Nat.le_of_ble_eq_true rfl) rfl ?_
  refine m_aload_n dX2_enact_0 rfl ?_
  refine m_iconst dX2_enact_1 (by decide) ?_
  refine m_iconst dX2_enact_2 (by decide) ?_
  refine m_aload_n dX2_enact_3 rfl ?_
  refine m_Vi [] dX2_enact_4 lk_X2_48 rfl oX_21 rfl (Nat.le_of_ble_eq_true rfl) (by omega) (x_allWires hN) ?_
  refine m_VV [_, _, _] dX2_enact_7 lk_X2_54 rfl oX_21 rfl (Nat.le_of_ble_eq_true rfl) (by omega) (x_measureTo (by omega) hN (by decide) (by have := (bt_all (n := I 21 9) (j := 0) hN.1.1 hN.1.2 (by decide)).1; omega) (by decide)) ?_
  intro I7 q7
  refine m_iconst dX2_enact_10 (by decide) ?_
  refine m_istore_n dX2_enact_11 (by decide) rfl rfl ?_
  have j37 : I7 37 = I 37 := q7.1 37 (by decide)
  have hkk : ∀ l4 : Option AV, T g d mX2_enact 4 26 61 [some (vr 37), some (vr 21), some (vi t), some (vi 8), l4] [] (shX nm no) (RX nm no) (cpI I7 (330 + no) (knF t (I 37 4) (I7 36)) 8) Q := fun l4 => by
    generalize hM : cpI I7 (330 + no) (knF t (I 37 4) (I7 36)) 8 = M
    have mo : ∀ x, x ≠ 330 + no → M x = I7 x := fun x hx => by rw [← hM]; exact cpI_o hx
    have mk : ∀ o : Int, 0 ≤ o → o < 8 → M (330 + no) o = knF t (I 37 4) (I7 36) o := fun o o0 o1 => by rw [← hM]; exact cpI_in o0 o1
    have m3 : M 37 3 = no := by rw [mo 37 (by omega), j37]; exact h3
    obtain ⟨fr0, fr1, fr2, fr3⟩ := fr_ord (nm := nm) (no := no) hm hno
    have hdr : dsO (300 + (no + 1)) (310 + (no + 1)) (320 + (no + 1)) (330 + (no + 1)) := ds_draft (by omega)
    refine m_aload_n dX2_enact_61 rfl ?_
    refine m_gr (z := 1) dX2_enact_62 fl_X2_18 oX_37 rfl rfl rX_37_1 ?_
    refine m_aload_n dX2_enact_65 rfl ?_
    refine m_gi (z := 3) dX2_enact_66 fl_X2_29 oX_37 rfl rfl ?_
    rw [m3]
    refine m_aload_n dX2_enact_69 rfl ?_
    refine m_gr (z := 2) dX2_enact_70 fl_X2_22 oX_37 rfl rfl rX_draft ?_
    refine m_aast dX2_enact_73 sX_42 (Or.inr ⟨rfl, rfl⟩) (sX_ord (Nat.le_refl no) hm) (by omega) (by omega) ?_
    refine m_aload_n dX2_enact_74 rfl ?_
    refine m_new (c := 5) (300 + (no + 1)) dX2_enact_75 (by decide) ⟨nw_X2_9, ia_X5, iw_X5⟩ fr0 (by omega) (by omega) (show clN 5 ≤ _ by decide) ?_
    refine m_dup dX2_enact_78 (fun _ z => by cases z) ?_
    refine m_Ivb [] dX2_enact_79 lk_X2_11 rfl rfl (Nat.le_of_ble_eq_true rfl) (by omega) (by decide) (by decide) (x_init5 (a := 310 + (no + 1)) (b := 320 + (no + 1)) (c := 330 + (no + 1)) hG (by omega) (by rw [nwS_s]) (by rw [nwS_o (by omega)]; exact fr1) (by rw [nwS_o (by omega)]; exact fr2) (by rw [nwS_o (by omega)]; exact fr3) (by omega) (by omega) (by omega) hdr) ?_
    refine m_putr (k := 2) dX2_enact_82 fl_X2_22 (by unfold nOs; rw [nwS_o (by omega), nwS_o (by omega), nwS_o (by omega), nwS_o (by omega)]; rfl) rfl rfl (Or.inl ⟨_, rfl⟩) ?_
    rw [show ((2 : Nat) : Int) = 2 from rfl, RX_enact hno, shX_enact hm hno]
    have n37 : nOi (nwI M (300 + (no + 1))) (300 + (no + 1)) (310 + (no + 1)) (320 + (no + 1)) (330 + (no + 1)) (fun j => (gX g 2).2 j.toNat) 37 = M 37 := by
      unfold nOi; rw [fg_o (by omega) (by omega) (by omega) (by omega), nwI_o (by omega), nwI_o (by omega), nwI_o (by omega), nwI_o (by omega)]
    refine m_aload_n dX2_enact_85 rfl ?_
    refine m_dup dX2_enact_86 (fun _ z => by cases z) ?_
    refine m_gi (z := 3) dX2_enact_87 fl_X2_29 oX_37 rfl rfl ?_
    rw [n37, m3]
    refine m_iconst dX2_enact_90 (by decide) ?_
    refine m_iadd dX2_enact_91 (by omega) ?_
    refine m_pi (z := 3) dX2_enact_92 fl_X2_29 oX_37 rfl rfl rfl ?_
    refine m_aload_n dX2_enact_95 rfl ?_
    refine m_gi (z := 3) dX2_enact_96 fl_X2_29 oX_37 rfl rfl ?_
    rw [upI_s]
    refine m_iconst dX2_enact_99 (by decide) ?_
    refine m_isub dX2_enact_100 (by omega) ?_
    refine m_iret dX2_enact_101 rfl ?_
    rw [show (no : Int) + 1 - 1 = no by omega]
    refine h _ ⟨fun x x1 x2 x3 x4 x5 x6 x7 => ?_, fun j hj => ?_, upI_s, I7 36, q7.2, fun o o0 o1 => ?_⟩
    · rw [upI_o x2]
      unfold nOi
      rw [fg_o x4 x5 x6 x7, nwI_o x7, nwI_o x6, nwI_o x5, nwI_o x4, mo x x3]; exact q7.1 x x1
    · rw [upI_j hj, n37, mo 37 (by omega), j37]
    · rw [upI_o (show 330 + no ≠ 37 by omega)]
      unfold nOi
      rw [fg_o (by omega) (by omega) (by omega) (by omega), nwI_o (by omega), nwI_o (by omega), nwI_o (by omega), nwI_o (by omega)]; exact mk o o0 o1
  have z := x_en_loop (g := g) (d := d) (nm := nm) (no := no) (J := I7) (t := t) (lg := I 37 4) (Q := Q) hm hno (by rw [j37]) ht hl (fun o o0 o1 => q7.2.1.2.1 o o0 o1) hkk 9 0 none (by decide) (by decide) (by decide)
  rw [cpI_0] at z
  exact z
end
