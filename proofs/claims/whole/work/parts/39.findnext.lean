/-! POST: findNext, findNexts, nextNow -/
def OrdI (I : II) (q : Nat) : Prop := (0 ≤ I q 3 ∧ I q 3 < 32) ∧ (0 ≤ I q 4 ∧ I q 4 ≤ 99) ∧ (0 ≤ I q 5 ∧ I q 5 ≤ 99) ∧ (0 ≤ I q 6 ∧ I q 6 ≤ 23) ∧ (0 ≤ I q 7 ∧ I q 7 ≤ 23) ∧ ∀ k, 0 ≤ k → k < 5 → (0 ≤ I (orw q 0) k ∧ I (orw q 0) k ≤ 9) ∧ (0 ≤ I (orw q 1) k ∧ I (orw q 1) k ≤ 99)
def LawI (I : II) (no : Nat) : Prop := I 37 3 = no ∧ no ≤ 6 ∧ ∀ n : Int, OrdI I (oid no n)
theorem oid_ge (no : Nat) (n : Int) : oid no n = 38 ∨ 300 ≤ oid no n := by unfold oid; split; right; omega; left; rfl
theorem gbF_eq {I J : II} (e : ∀ x, 300 ≤ x → J x = I x) (o t : Int) : ∀ n : Nat, gbF J o t n = gbF I o t n
  | 0 => rfl
  | n + 1 => by unfold gbF; rw [e _ (by omega), gbF_eq e o t n]
theorem goX_eq {I J : II} (e : ∀ x, 300 ≤ x → J x = I x) (no : Nat) (o t : Int) : goX J no o t = goX I no o t := by unfold goX; rw [gbF_eq e]
theorem orw_ge (q j : Nat) (h : q = 38 ∨ 300 ≤ q) (hj : j < 3) : (39 ≤ orw q j ∧ orw q j < 42) ∨ 300 ≤ orw q j := by
  unfold orw
  split <;> omega
/-- memory that is the same but for the messages and the row of ways -/
def FrM (I J : II) : Prop := ∀ x, ¬ (200 ≤ x ∧ x < 300) → x ≠ 36 → J x = I x
theorem lawI_of {I J : II} {no : Nat} (h : LawI I no) (e : FrM I J) : LawI J no := by
  refine ⟨by rw [e 37 (by omega) (by omega)]; exact h.1, h.2.1, fun n => ?_⟩
  have h1 := h.2.2 n
  have q := oid_ge no n
  unfold OrdI at h1 ⊢
  have a := orw_ge (oid no n) 0 q (by omega)
  have b := orw_ge (oid no n) 1 q (by omega)
  rw [e (oid no n) (by omega) (by omega), e (orw (oid no n) 0) (by omega) (by omega), e (orw (oid no n) 1) (by omega) (by omega)]
  exact h1
theorem netI_fr {I J : II} (h : NetI I) (e : FrM I J) : NetI J := by
  unfold NetI
  rw [e 21 (by omega) (by omega), e 24 (by omega) (by omega), e 25 (by omega) (by omega), e 26 (by omega) (by omega), e 27 (by omega) (by omega), e 22 (by omega) (by omega), e 23 (by omega) (by omega)]
  exact h
theorem nx_fr {I J : II} {n to o r : Int} {U : Int → Prop} (e : FrM I J) (h : isNx (J 21 9) (J 24) (J 25) (Kt J n) U to o r) : isNx (I 21 9) (I 24) (I 25) (Kt I n) U to o r := by
  unfold Kt at h ⊢
  rw [e 21 (by omega) (by omega), e 24 (by omega) (by omega), e 25 (by omega) (by omega), e 26 (by omega) (by omega)] at h
  exact h
/-- the words that message q takes on a wire, by the orders that its office knows -/
def wdX (I : II) (no q : Nat) : Int := wsX I (goX I no (I q 6) (I 43 5)) (I q 1) (I q 2)
noncomputable def nxX (I : II) (no q : Nat) (up : Int) : Int := nxF (I 21 9) (I 24) (I 25) (I 26) (fun v => bt up v) (I q 6) (I q 0) (wdX I no q)
/-- what a message keeps of its NEXT is right -/
def CacI (I : II) (q : Nat) : Prop := I q 12 = -1 ∨ ((-1 ≤ I q 11 ∧ I q 11 < I 21 9) ∧ I q 11 = nxF (I 21 9) (I 24) (I 25) (I 26) (fun v => bt (I q 12) v) (I q 13) (I q 0) (I q 14) ∧ ∀ v : Int, I 21 9 ≤ v → v < 12 → ¬ bt (I q 12) v)
theorem wsX_bd {I : II} {q : Nat} {n k : Int} (h : 1 ≤ n ∧ n ≤ 99) : 1 ≤ wsX I q n k ∧ wsX I q n k ≤ 198 := by unfold wsX; split <;> omega
theorem isNx_bd {W : Int} {A B K : Int → Int} {U : Int → Prop} {to o v : Int} (h : isNx W A B K U to o v) (hW : 0 ≤ W) : -1 ≤ v ∧ v < W := by
  obtain ⟨s, -, ⟨-, e⟩ | ⟨-, e, -⟩⟩ := h <;> omega
section
variable {g : GH} {d nm no : Nat} {I : II}
theorem x_findNext {i : Nat} {up : Int} (hd : 4 ≤ d) (hi : i < nm) (hm : nm ≤ 24) (hup : 0 ≤ up) (hN : NetI I) (hL : LawI I no) (hS : MsgS I (200 + i)) (ho : 0 ≤ I (200 + i) 6 ∧ I (200 + i) 6 < 8) (hne : I (200 + i) 6 ≠ I (200 + i) 0) (hC : CacI I (200 + i)) : SV g d mX6_findNext [vr 43, vr (200 + i), vi up] (shX nm no) (RX nm no) I (fun I' => (∀ x, x ≠ 36 → x ≠ 200 + i → I' x = I x) ∧ (∀ j : Int, j ≤ 10 → I' (200 + i) j = I (200 + i) j) ∧ I' (200 + i) 12 = up ∧ I' (200 + i) 13 = I (200 + i) 6 ∧ I' (200 + i) 14 = wdX I no (200 + i) ∧ I' (200 + i) 11 = nxX I no (200 + i) up ∧ (-1 ≤ I' (200 + i) 11 ∧ I' (200 + i) 11 < I 21 9)) := by
  have hq := sX_msg (no := no) hi hm
  obtain ⟨s1, s2, s3, s4, s5⟩ := hS
  have hoi : OrdI I (goX I no (I (200 + i) 6) (I 43 5)) := hL.2.2 (gbF I (I (200 + i) 6) (I 43 5) no)
  have hat : OrdAt (shX nm no) (RX nm no) (goX I no (I (200 + i) 6) (I 43 5)) _ _ _ := ord_id (nm := nm) (no := no) hm hL.2.1 (gbF I (I (200 + i) 6) (I 43 5) no)
  have hwb := wsX_bd (I := I) (q := goX I no (I (200 + i) 6) (I 43 5)) (k := I (200 + i) 2) s2
  intro Q h
  refine C_of rfl (Nat.le_of_ble_eq_true rfl) rfl ?_
  refine m_aload_n dX6_findNext_0 rfl ?_
  refine m_gr (z := 1) dX6_findNext_1 fl_X6_24 oX_43 rfl rfl rX_43_1 ?_
  refine m_aload_n dX6_findNext_4 rfl ?_
  refine m_gi (z := 6) dX6_findNext_5 fl_X6_45 hq rfl rfl ?_
  refine m_aload_n dX6_findNext_8 rfl ?_
  refine m_gi (z := 5) dX6_findNext_9 fl_X6_39 oX_43 rfl rfl ?_
  refine m_Vr [_, _] dX6_findNext_12 lk_X6_48 rfl oX_37 rfl (Nat.le_of_ble_eq_true rfl) (by omega) (x_goneBy (by omega) hm hL.2.1 hL.1 ho.1 ho.2) ?_
  refine m_aload_n dX6_findNext_15 rfl ?_
  refine m_gi (z := 1) dX6_findNext_16 fl_X6_33 hq rfl rfl ?_
  refine m_aload_n dX6_findNext_19 rfl ?_
  refine m_gi (z := 2) dX6_findNext_20 fl_X6_36 hq rfl rfl ?_
  refine m_Vi [_, _] dX6_findNext_23 lk_X6_127 rfl hat.1 rfl (Nat.le_of_ble_eq_true rfl) (by omega) (x_wordsSent (by omega) hat hoi.1.1 s3.1 (by omega) (by omega)) ?_
  refine m_istore_n dX6_findNext_26 (by decide) rfl rfl ?_
  refine m_aload_n dX6_findNext_27 rfl ?_
  refine m_gi (z := 12) dX6_findNext_28 fl_X6_130 hq rfl rfl ?_
  refine m_iload_n dX6_findNext_31 rfl ?_
  refine m_icmp_ne (tgt := 55) dX6_findNext_32 (by decide) (fun c32 => ?_) (fun c32 => ?_)
  · refine m_aload_n dX6_findNext_55 rfl ?_
    refine m_iload_n dX6_findNext_56 rfl ?_
    refine m_pi (z := 12) dX6_findNext_57 fl_X6_130 hq rfl rfl rfl ?_
    refine m_aload_n dX6_findNext_60 rfl ?_
    refine m_aload_n dX6_findNext_61 rfl ?_
    refine m_gi (z := 6) dX6_findNext_62 fl_X6_45 hq rfl rfl ?_
    rw [upI_j (show (6 : Int) ≠ 12 by decide)]
    refine m_pi (z := 13) dX6_findNext_65 fl_X6_133 hq rfl rfl rfl ?_
    refine m_aload_n dX6_findNext_68 rfl ?_
    refine m_iload_n dX6_findNext_69 rfl ?_
    refine m_pi (z := 14) dX6_findNext_70 fl_X6_136 hq rfl rfl rfl ?_
    refine m_aload_n dX6_findNext_73 rfl ?_
    refine m_aload_n dX6_findNext_74 rfl ?_
    refine m_gr (z := 0) dX6_findNext_75 fl_X6_20 oX_43 rfl rfl rX_43_0 ?_
    refine m_aload_n dX6_findNext_78 rfl ?_
    refine m_gi (z := 6) dX6_findNext_79 fl_X6_45 hq rfl rfl ?_
    rw [upI_j (show (6 : Int) ≠ 14 by decide), upI_j (show (6 : Int) ≠ 13 by decide), upI_j (show (6 : Int) ≠ 12 by decide)]
    refine m_aload_n dX6_findNext_82 rfl ?_
    refine m_gi (z := 0) dX6_findNext_83 fl_X6_29 hq rfl rfl ?_
    rw [upI_j (show (0 : Int) ≠ 14 by decide), upI_j (show (0 : Int) ≠ 13 by decide), upI_j (show (0 : Int) ≠ 12 by decide)]
    refine m_iload_n dX6_findNext_86 rfl ?_
    refine m_iload_n dX6_findNext_87 rfl ?_
    refine m_VI [_, _, _, _] dX6_findNext_88 lk_X6_139 rfl oX_21 rfl (Nat.le_of_ble_eq_true rfl) (by omega) (x_wireTowards (by omega) (netI_fr hN (fun x hx _ => by rw [upI_o (by omega), upI_o (by omega), upI_o (by omega)])) (by omega) hup s1 ho hne) ?_
    intro r88 I88 q88
    obtain ⟨he, hx⟩ := q88
    have hx2 : isNx (I 21 9) (I 24) (I 25) (Kt I (wdX I no (200 + i))) (fun v => bt up v) (I (200 + i) 0) (I (200 + i) 6) r88 := nx_fr (fun x hx _ => by rw [upI_o (by omega), upI_o (by omega), upI_o (by omega)]) hx
    have hb := isNx_bd hx2 hN.1.1
    have hnx : nxX I no (200 + i) up = r88 := nxF_eq (netOK hN (show 1 ≤ wdX I no (200 + i) from hwb.1)) s1 ho hx2
    refine m_pi (z := 11) dX6_findNext_91 fl_X6_124 hq rfl rfl rfl ?_
    refine m_vret dX6_findNext_94 rfl ?_
    refine h _ ⟨fun x hx1 hx3 => by rw [upI_o hx3, he x hx1, upI_o hx3, upI_o hx3, upI_o hx3], fun j hj => ?_, ?_, ?_, ?_, by rw [upI_s, hnx], by rw [upI_s]; exact hb⟩
    · rw [upI_j (by omega), he _ (by omega), upI_j (by omega), upI_j (by omega), upI_j (by omega)]
    · rw [upI_j (by omega), he _ (by omega), upI_j (by omega), upI_j (by omega), upI_s]
    · rw [upI_j (by omega), he _ (by omega), upI_j (by omega), upI_s]
    · rw [upI_j (by omega), he _ (by omega), upI_s]
      rfl
  · refine m_aload_n dX6_findNext_35 rfl ?_
    refine m_gi (z := 13) dX6_findNext_36 fl_X6_133 hq rfl rfl ?_
    refine m_aload_n dX6_findNext_39 rfl ?_
    refine m_gi (z := 6) dX6_findNext_40 fl_X6_45 hq rfl rfl ?_
    refine m_icmp_ne (tgt := 55) dX6_findNext_43 (by decide) (fun c43 => ?_) (fun c43 => ?_)
    · refine m_aload_n dX6_findNext_55 rfl ?_
      refine m_iload_n dX6_findNext_56 rfl ?_
      refine m_pi (z := 12) dX6_findNext_57 fl_X6_130 hq rfl rfl rfl ?_
      refine m_aload_n dX6_findNext_60 rfl ?_
      refine m_aload_n dX6_findNext_61 rfl ?_
      refine m_gi (z := 6) dX6_findNext_62 fl_X6_45 hq rfl rfl ?_
      rw [upI_j (show (6 : Int) ≠ 12 by decide)]
      refine m_pi (z := 13) dX6_findNext_65 fl_X6_133 hq rfl rfl rfl ?_
      refine m_aload_n dX6_findNext_68 rfl ?_
      refine m_iload_n dX6_findNext_69 rfl ?_
      refine m_pi (z := 14) dX6_findNext_70 fl_X6_136 hq rfl rfl rfl ?_
      refine m_aload_n dX6_findNext_73 rfl ?_
      refine m_aload_n dX6_findNext_74 rfl ?_
      refine m_gr (z := 0) dX6_findNext_75 fl_X6_20 oX_43 rfl rfl rX_43_0 ?_
      refine m_aload_n dX6_findNext_78 rfl ?_
      refine m_gi (z := 6) dX6_findNext_79 fl_X6_45 hq rfl rfl ?_
      rw [upI_j (show (6 : Int) ≠ 14 by decide), upI_j (show (6 : Int) ≠ 13 by decide), upI_j (show (6 : Int) ≠ 12 by decide)]
      refine m_aload_n dX6_findNext_82 rfl ?_
      refine m_gi (z := 0) dX6_findNext_83 fl_X6_29 hq rfl rfl ?_
      rw [upI_j (show (0 : Int) ≠ 14 by decide), upI_j (show (0 : Int) ≠ 13 by decide), upI_j (show (0 : Int) ≠ 12 by decide)]
      refine m_iload_n dX6_findNext_86 rfl ?_
      refine m_iload_n dX6_findNext_87 rfl ?_
      refine m_VI [_, _, _, _] dX6_findNext_88 lk_X6_139 rfl oX_21 rfl (Nat.le_of_ble_eq_true rfl) (by omega) (x_wireTowards (by omega) (netI_fr hN (fun x hx _ => by rw [upI_o (by omega), upI_o (by omega), upI_o (by omega)])) (by omega) hup s1 ho hne) ?_
      intro r88 I88 q88
      obtain ⟨he, hx⟩ := q88
      have hx2 : isNx (I 21 9) (I 24) (I 25) (Kt I (wdX I no (200 + i))) (fun v => bt up v) (I (200 + i) 0) (I (200 + i) 6) r88 := nx_fr (fun x hx _ => by rw [upI_o (by omega), upI_o (by omega), upI_o (by omega)]) hx
      have hb := isNx_bd hx2 hN.1.1
      have hnx : nxX I no (200 + i) up = r88 := nxF_eq (netOK hN (show 1 ≤ wdX I no (200 + i) from hwb.1)) s1 ho hx2
      refine m_pi (z := 11) dX6_findNext_91 fl_X6_124 hq rfl rfl rfl ?_
      refine m_vret dX6_findNext_94 rfl ?_
      refine h _ ⟨fun x hx1 hx3 => by rw [upI_o hx3, he x hx1, upI_o hx3, upI_o hx3, upI_o hx3], fun j hj => ?_, ?_, ?_, ?_, by rw [upI_s, hnx], by rw [upI_s]; exact hb⟩
      · rw [upI_j (by omega), he _ (by omega), upI_j (by omega), upI_j (by omega), upI_j (by omega)]
      · rw [upI_j (by omega), he _ (by omega), upI_j (by omega), upI_j (by omega), upI_s]
      · rw [upI_j (by omega), he _ (by omega), upI_j (by omega), upI_s]
      · rw [upI_j (by omega), he _ (by omega), upI_s]
        rfl
    · refine m_aload_n dX6_findNext_46 rfl ?_
      refine m_gi (z := 14) dX6_findNext_47 fl_X6_136 hq rfl rfl ?_
      refine m_iload_n dX6_findNext_50 rfl ?_
      refine m_icmp_ne (tgt := 55) dX6_findNext_51 (by decide) (fun c51 => ?_) (fun c51 => ?_)
      · refine m_aload_n dX6_findNext_55 rfl ?_
        refine m_iload_n dX6_findNext_56 rfl ?_
        refine m_pi (z := 12) dX6_findNext_57 fl_X6_130 hq rfl rfl rfl ?_
        refine m_aload_n dX6_findNext_60 rfl ?_
        refine m_aload_n dX6_findNext_61 rfl ?_
        refine m_gi (z := 6) dX6_findNext_62 fl_X6_45 hq rfl rfl ?_
        rw [upI_j (show (6 : Int) ≠ 12 by decide)]
        refine m_pi (z := 13) dX6_findNext_65 fl_X6_133 hq rfl rfl rfl ?_
        refine m_aload_n dX6_findNext_68 rfl ?_
        refine m_iload_n dX6_findNext_69 rfl ?_
        refine m_pi (z := 14) dX6_findNext_70 fl_X6_136 hq rfl rfl rfl ?_
        refine m_aload_n dX6_findNext_73 rfl ?_
        refine m_aload_n dX6_findNext_74 rfl ?_
        refine m_gr (z := 0) dX6_findNext_75 fl_X6_20 oX_43 rfl rfl rX_43_0 ?_
        refine m_aload_n dX6_findNext_78 rfl ?_
        refine m_gi (z := 6) dX6_findNext_79 fl_X6_45 hq rfl rfl ?_
        rw [upI_j (show (6 : Int) ≠ 14 by decide), upI_j (show (6 : Int) ≠ 13 by decide), upI_j (show (6 : Int) ≠ 12 by decide)]
        refine m_aload_n dX6_findNext_82 rfl ?_
        refine m_gi (z := 0) dX6_findNext_83 fl_X6_29 hq rfl rfl ?_
        rw [upI_j (show (0 : Int) ≠ 14 by decide), upI_j (show (0 : Int) ≠ 13 by decide), upI_j (show (0 : Int) ≠ 12 by decide)]
        refine m_iload_n dX6_findNext_86 rfl ?_
        refine m_iload_n dX6_findNext_87 rfl ?_
        refine m_VI [_, _, _, _] dX6_findNext_88 lk_X6_139 rfl oX_21 rfl (Nat.le_of_ble_eq_true rfl) (by omega) (x_wireTowards (by omega) (netI_fr hN (fun x hx _ => by rw [upI_o (by omega), upI_o (by omega), upI_o (by omega)])) (by omega) hup s1 ho hne) ?_
        intro r88 I88 q88
        obtain ⟨he, hx⟩ := q88
        have hx2 : isNx (I 21 9) (I 24) (I 25) (Kt I (wdX I no (200 + i))) (fun v => bt up v) (I (200 + i) 0) (I (200 + i) 6) r88 := nx_fr (fun x hx _ => by rw [upI_o (by omega), upI_o (by omega), upI_o (by omega)]) hx
        have hb := isNx_bd hx2 hN.1.1
        have hnx : nxX I no (200 + i) up = r88 := nxF_eq (netOK hN (show 1 ≤ wdX I no (200 + i) from hwb.1)) s1 ho hx2
        refine m_pi (z := 11) dX6_findNext_91 fl_X6_124 hq rfl rfl rfl ?_
        refine m_vret dX6_findNext_94 rfl ?_
        refine h _ ⟨fun x hx1 hx3 => by rw [upI_o hx3, he x hx1, upI_o hx3, upI_o hx3, upI_o hx3], fun j hj => ?_, ?_, ?_, ?_, by rw [upI_s, hnx], by rw [upI_s]; exact hb⟩
        · rw [upI_j (by omega), he _ (by omega), upI_j (by omega), upI_j (by omega), upI_j (by omega)]
        · rw [upI_j (by omega), he _ (by omega), upI_j (by omega), upI_j (by omega), upI_s]
        · rw [upI_j (by omega), he _ (by omega), upI_j (by omega), upI_s]
        · rw [upI_j (by omega), he _ (by omega), upI_s]
          rfl
      · refine m_vret dX6_findNext_54 rfl ?_
        have e1 : I (200 + i) 12 = up := by omega
        have e2 : I (200 + i) 14 = wdX I no (200 + i) := by show _ = wsX _ _ _ _; omega
        rcases hC with z | ⟨z1, z2, z3⟩
        · omega
        · refine h I ⟨fun _ _ _ => rfl, fun _ _ => rfl, e1, by omega, e2, ?_, z1⟩
          rw [z2, e1, e2, show I (200 + i) 13 = I (200 + i) 6 by omega]
          rfl
/-- message m waits on the way -/
def wtX (I : II) (m : Nat) : Prop := I (200 + m) 5 = 0 ∧ I (200 + m) 6 ≠ I (200 + m) 0
theorem wdX_fr {I J : II} {no m : Nat} (e : FrM I J) (h : ∀ j : Int, j ≤ 10 → J (200 + m) j = I (200 + m) j) : wdX J no (200 + m) = wdX I no (200 + m) := by
  unfold wdX wsX
  rw [h 6 (by omega), h 1 (by omega), h 2 (by omega), e 43 (by omega) (by omega), goX_eq (fun x hx => e x (by omega) (by omega))]
  have q := oid_ge no (gbF I (I (200 + m) 6) (I 43 5) no)
  rw [e (goX I no (I (200 + m) 6) (I 43 5)) (by unfold goX; omega) (by unfold goX; omega)]
theorem nxX_fr {I J : II} {no m : Nat} {up : Int} (e : FrM I J) (h : ∀ j : Int, j ≤ 10 → J (200 + m) j = I (200 + m) j) : nxX J no (200 + m) up = nxX I no (200 + m) up := by
  unfold nxX
  rw [wdX_fr e h, h 6 (by omega), h 0 (by omega), e 21 (by omega) (by omega), e 24 (by omega) (by omega), e 25 (by omega) (by omega), e 26 (by omega) (by omega)]
def fnI (I J : II) (nm no : Nat) (up : Int) (i : Nat) (r : Int) : Prop :=
  (∀ x, ¬ (200 ≤ x ∧ x < 200 + nm) → x ≠ 36 → J x = I x) ∧ (∀ m, m < nm → ∀ j : Int, j ≤ 10 → J (200 + m) j = I (200 + m) j) ∧ (∀ m, m < i → wtX I m → J (200 + m) 11 = nxX I no (200 + m) up ∧ J (200 + m) 14 = wdX I no (200 + m)) ∧ (∀ m, m < nm → CacI J (200 + m)) ∧
  (0 ≤ r ∧ r < 4096) ∧ ∀ v : Int, 0 ≤ v → v < 12 → (bt r v ↔ ∃ m, m < i ∧ wtX I m ∧ nxX I no (200 + m) up = v)
theorem fn_skip {I J : II} {nm no i : Nat} {up r : Int} (h : fnI I J nm no up i r) (hn : ¬ wtX I i) : fnI I J nm no up (i + 1) r := by
  obtain ⟨h1, h2, h3, h4, h5, h6⟩ := h
  refine ⟨h1, h2, fun m hm hw => ?_, h4, h5, fun v v0 v1 => (h6 v v0 v1).trans ⟨fun ⟨m, a, b⟩ => ⟨m, by omega, b⟩, fun ⟨m, a, b, c⟩ => ⟨m, ?_, b, c⟩⟩⟩
  · rcases (show m < i ∨ m = i by omega) with z | z
    · exact h3 m z hw
    · subst z; exact absurd hw hn
  · rcases (show m < i ∨ m = i by omega) with z | z
    · exact z
    · subst z; exact absurd b hn
theorem cac_fr {J J' : II} {q : Nat} (e : ∀ x, x < 28 → J' x = J x) (h : J' q = J q) (hc : CacI J q) : CacI J' q := by
  unfold CacI at hc ⊢
  rw [h, e 21 (by omega), e 24 (by omega), e 25 (by omega), e 26 (by omega)]
  exact hc
theorem fn_do {I J J' : II} {nm no i : Nat} {up r r' : Int} (h : fnI I J nm no up i r) (hi : i < nm) (hm : nm ≤ 24) (hw : wtX I i) (hN : NetI I) (hub : ∀ v : Int, I 21 9 ≤ v → v < 12 → ¬ bt up v)
    (hp : (∀ x, x ≠ 36 → x ≠ 200 + i → J' x = J x) ∧ (∀ j : Int, j ≤ 10 → J' (200 + i) j = J (200 + i) j) ∧ J' (200 + i) 12 = up ∧ J' (200 + i) 13 = J (200 + i) 6 ∧ J' (200 + i) 14 = wdX J no (200 + i) ∧ J' (200 + i) 11 = nxX J no (200 + i) up ∧ (-1 ≤ J' (200 + i) 11 ∧ J' (200 + i) 11 < J 21 9))
    (hr : (J' (200 + i) 11 = -1 ∧ r' = r) ∨ (J' (200 + i) 11 ≠ -1 ∧ r' = f_ior r (f_ishl 1 (J' (200 + i) 11)))) : fnI I J' nm no up (i + 1) r' := by
  obtain ⟨h1, h2, h3, h4, h5, h6⟩ := h
  obtain ⟨p1, p2, p3, p4, p5, p6, p7⟩ := hp
  have eF : FrM I J := fun x a b => h1 x (by omega) b
  have e21 : J 21 = I 21 := h1 21 (by omega) (by omega)
  rw [wdX_fr eF (h2 i hi)] at p5
  rw [nxX_fr eF (h2 i hi)] at p6
  have hW := hN.1
  rw [e21] at p7
  have hset : (0 ≤ r' ∧ r' < 4096) ∧ ∀ v : Int, 0 ≤ v → v < 12 → (bt r' v ↔ (bt r v ∨ (J' (200 + i) 11 = v))) := by
    rcases hr with ⟨z1, z2⟩ | ⟨z1, z2⟩
    · rw [z2]
      exact ⟨h5, fun v v0 v1 => ⟨Or.inl, fun y => y.elim id (fun q => by omega)⟩⟩
    · have b := fun v v0 => bt_or (a := r) (w := J' (200 + i) 11) (j := v) h5.1 h5.2 (by omega) (by omega) v0
      rw [z2]
      exact ⟨⟨(b 0 (by omega)).1, (b 0 (by omega)).2.1⟩, fun v v0 v1 => (b v v0).2.2.trans ⟨fun y => y.elim Or.inl (fun q => Or.inr q.symm), fun y => y.elim Or.inl (fun q => Or.inr q.symm)⟩⟩
  refine ⟨fun x a b => by rw [p1 x b (by omega)]; exact h1 x a b, fun m hm2 j hj => ?_, fun m hm2 hwm => ?_, fun m hm2 => ?_, hset.1, fun v v0 v1 => ?_⟩
  · by_cases e : m = i
    · subst e; rw [p2 j hj]; exact h2 m hm2 j hj
    · rw [p1 _ (by omega) (by omega)]; exact h2 m hm2 j hj
  · by_cases e : m = i
    · subst e; exact ⟨p6, p5⟩
    · rw [p1 _ (by omega) (by omega)]; exact h3 m (by omega) hwm
  · by_cases e : m = i
    · subst e
      refine Or.inr ⟨by rw [p1 21 (by omega) (by omega), e21]; exact p7, ?_, by rw [p3, p1 21 (by omega) (by omega), e21]; exact hub⟩
      rw [p6, p3, p4, p5, p2 0 (by omega), p1 21 (by omega) (by omega), p1 24 (by omega) (by omega), p1 25 (by omega) (by omega), p1 26 (by omega) (by omega), h2 m hi 6 (by omega), h2 m hi 0 (by omega), e21, h1 24 (by omega) (by omega), h1 25 (by omega) (by omega), h1 26 (by omega) (by omega)]
      rfl
    · exact cac_fr (fun x hx => p1 x (by omega) (by omega)) (p1 _ (by omega) (by omega)) (h4 m hm2)
  · rw [hset.2 v v0 v1, h6 v v0 v1, p6]
    constructor
    · rintro (⟨m, a, b, c⟩ | q)
      · exact ⟨m, by omega, b, c⟩
      · exact ⟨i, by omega, hw, q⟩
    · rintro ⟨m, a, b, c⟩
      rcases (show m < i ∨ m = i by omega) with z | z
      · exact Or.inl ⟨m, z, b, c⟩
      · subst z; exact Or.inr c
theorem x_fns_loop {up : Int} {Q : QT} (hd : 5 ≤ d) (hc : I 43 4 = nm) (hm : nm ≤ 24) (hup : 0 ≤ up) (hub : ∀ v : Int, I 21 9 ≤ v → v < 12 → ¬ bt up v) (hN : NetI I) (hL : LawI I no) (hS : ∀ m, m < nm → MsgS I (200 + m)) (ho : ∀ m, m < nm → 0 ≤ I (200 + m) 6 ∧ I (200 + m) 6 < 8)
    (h : ∀ r I', fnI I I' nm no up nm r → Q (some (vi r)) (shX nm no) (RX nm no) I') :
    ∀ (k i : Nat) (r : Int) (J : II) (lv : Option AV), nm - i < k → i ≤ nm → fnI I J nm no up i r → T g d mX6_findNexts 0 0 4 [some (vr 43), some (vi up), some (vi r), some (vi i), lv] [] (shX nm no) (RX nm no) J Q := by
  intro k
  induction k with
  | zero => intro i r J lv hk; omega
  | succ k ih =>
    intro i r J lv hk h1 hw
    have eF : FrM I J := fun x a b => hw.1 x (by omega) b
    have e43 : J 43 = I 43 := hw.1 43 (by omega) (by omega)
    have e434 : J 43 4 = nm := by rw [e43]; exact hc
    refine m_iload_n dX6_findNexts_4 rfl ?_
    refine m_aload_n dX6_findNexts_5 rfl ?_
    refine m_gi (z := 4) dX6_findNexts_6 fl_X6_62 oX_43 rfl rfl ?_
    refine m_icmp_ge (tgt := 63) dX6_findNexts_9 (by decide) (fun c9 => ?_) (fun c9 => ?_)
    · have ei : i = nm := by omega
      subst ei
      refine m_iload_n dX6_findNexts_63 rfl ?_
      refine m_iret dX6_findNexts_64 rfl ?_
      exact h _ _ hw
    · have hi : i < nm := by omega
      have hq := sX_msg (no := no) hi hm
      have m0 := hw.2.1 i hi 0 (by omega)
      have m5 := hw.2.1 i hi 5 (by omega)
      have m6 := hw.2.1 i hi 6 (by omega)
      have hS2 : MsgS J (200 + i) := by
        unfold MsgS
        rw [m0, hw.2.1 i hi 1 (by omega), hw.2.1 i hi 2 (by omega), hw.2.1 i hi 3 (by omega), hw.2.1 i hi 4 (by omega)]
        exact hS i hi
      have hoi := ho i hi
      refine m_aload_n dX6_findNexts_12 rfl ?_
      refine m_gr (z := 2) dX6_findNexts_13 fl_X6_11 oX_43 rfl rfl rX_43_2 ?_
      refine m_iload_n dX6_findNexts_16 rfl ?_
      refine m_al dX6_findNexts_17 sX_44 (by decide) (by omega) (by omega) (show RX nm no 44 (i : Int) = some (200 + i) by rw [rX_msg (by omega) (by omega)]; rfl) ?_
      refine m_astore dX6_findNexts_18 (by decide) rfl rfl ?_
      refine m_aload dX6_findNexts_20 rfl ?_
      refine m_Vi [] dX6_findNexts_22 lk_X6_116 rfl hq rfl (Nat.le_of_ble_eq_true rfl) (by omega) (x_waits hq) ?_
      refine m_if_ne (tgt := 31) dX6_findNexts_25 (by decide) (fun c25 => ?_) (fun c25 => ?_)
      · have z1 := bI_ne0 c25
        have hwi : wtX I i := by unfold wtX; omega
        refine m_aload_n dX6_findNexts_31 rfl ?_
        refine m_aload dX6_findNexts_32 rfl ?_
        refine m_iload_n dX6_findNexts_34 rfl ?_
        refine m_VV [_, _] dX6_findNexts_35 lk_X6_120 rfl oX_43 rfl (Nat.le_of_ble_eq_true rfl) (by omega) (x_findNext (by omega) hi hm hup (netI_fr hN eF) (lawI_of hL eF) hS2 (by omega) (by omega) (hw.2.2.2.1 i hi)) ?_
        intro I35 q35
        refine m_aload dX6_findNexts_38 rfl ?_
        refine m_gi (z := 11) dX6_findNexts_40 fl_X6_124 hq rfl rfl ?_
        refine m_iconst dX6_findNexts_43 (by decide) ?_
        refine m_icmp_eq (tgt := 57) dX6_findNexts_44 (by decide) (fun c44 => ?_) (fun c44 => ?_)
        · have HF := fn_do hw hi hm hwi hN hub q35 (Or.inl ⟨c44, rfl⟩)
          refine m_iinc dX6_findNexts_57 rfl (by decide) rfl rfl (by omega) ?_
          refine m_goto (tgt := 4) dX6_findNexts_60 (by decide) ?_
          exact ih (i + 1) _ _ _ (by omega) (by omega) HF
        · refine m_iload_n dX6_findNexts_47 rfl ?_
          refine m_iconst dX6_findNexts_48 (by decide) ?_
          refine m_aload dX6_findNexts_49 rfl ?_
          refine m_gi (z := 11) dX6_findNexts_51 fl_X6_124 hq rfl rfl ?_
          refine m_ishl dX6_findNexts_54 ?_
          refine m_ior dX6_findNexts_55 ?_
          have HF := fn_do hw hi hm hwi hN hub q35 (Or.inr ⟨c44, rfl⟩)
          refine m_istore_n dX6_findNexts_56 (by decide) rfl rfl ?_
          refine m_iinc dX6_findNexts_57 rfl (by decide) rfl rfl (by omega) ?_
          refine m_goto (tgt := 4) dX6_findNexts_60 (by decide) ?_
          exact ih (i + 1) _ _ _ (by omega) (by omega) HF
      · have z1 := bI_eq0 c25
        have HF := fn_skip hw (show ¬ wtX I i from fun z => by unfold wtX at z; omega)
        refine m_goto (tgt := 57) dX6_findNexts_28 (by decide) ?_
        refine m_iinc dX6_findNexts_57 rfl (by decide) rfl rfl (by omega) ?_
        refine m_goto (tgt := 4) dX6_findNexts_60 (by decide) ?_
        exact ih (i + 1) _ _ _ (by omega) (by omega) HF
theorem x_findNexts {up : Int} (hd : 5 ≤ d) (hc : I 43 4 = nm) (hm : nm ≤ 24) (hup : 0 ≤ up) (hub : ∀ v : Int, I 21 9 ≤ v → v < 12 → ¬ bt up v) (hN : NetI I) (hL : LawI I no) (hS : ∀ m, m < nm → MsgS I (200 + m)) (ho : ∀ m, m < nm → 0 ≤ I (200 + m) 6 ∧ I (200 + m) 6 < 8) (hC : ∀ m, m < nm → CacI I (200 + m)) : SI g d mX6_findNexts [vr 43, vi up] (shX nm no) (RX nm no) I (fun r I' => fnI I I' nm no up nm r) := by
  intro Q h
  refine C_of rfl (Nat.le_of_ble_eq_true rfl) rfl ?_
  refine m_iconst dX6_findNexts_0 (by decide) ?_
  refine m_istore_n dX6_findNexts_1 (by decide) rfl rfl ?_
  refine m_iconst dX6_findNexts_2 (by decide) ?_
  refine m_istore_n dX6_findNexts_3 (by decide) rfl rfl ?_
  exact x_fns_loop hd hc hm hup hub hN hL hS ho h (nm + 1) 0 0 I none (by omega) (by omega) ⟨fun _ _ _ => rfl, fun _ _ _ _ => rfl, fun m z => by omega, hC, by omega, fun v v0 v1 => ⟨fun z => absurd z (bt_0 v), fun ⟨m, a, b⟩ => by omega⟩⟩
/-- nextNow: NEXT of a message where it waits -/
theorem x_nextNow {i : Nat} (hd : 5 ≤ d) (hi : i < nm) (hm : nm ≤ 24) (hN : NetI I) (hL : LawI I no) (h1 : StI I 28 29 30 31 12) (h2 : StI I 32 33 34 35 6) (hS : MsgS I (200 + i)) (ho : 0 ≤ I (200 + i) 6 ∧ I (200 + i) 6 < 8) (hC : CacI I (200 + i)) : SI g d mX6_nextNow [vr 43, vr (200 + i)] (shX nm no) (RX nm no) I (fun r I' => (¬ wtX I i ∧ r = -1 ∧ I' = I) ∨ (wtX I i ∧ ∃ up, (0 ≤ up ∧ up < 4096) ∧ (∀ v, 0 ≤ v → v < 12 → (bt up v ↔ upX I (I 43 5) v)) ∧ r = nxX I no (200 + i) up ∧ (∀ x, x ≠ 36 → x ≠ 200 + i → I' x = I x) ∧ (∀ j : Int, j ≤ 10 → I' (200 + i) j = I (200 + i) j) ∧ CacI I' (200 + i))) := by
  have hq := sX_msg (no := no) hi hm
  intro Q h
  refine C_of rfl (Nat.le_of_ble_eq_true rfl) rfl ?_
  refine m_aload_n dX6_nextNow_0 rfl ?_
  refine m_Vi [] dX6_nextNow_1 lk_X6_116 rfl hq rfl (Nat.le_of_ble_eq_true rfl) (by omega) (x_waits hq) ?_
  refine m_if_ne (tgt := 9) dX6_nextNow_4 (by decide) (fun c4 => ?_) (fun c4 => ?_)
  · have z1 := bI_ne0 c4
    refine m_aload_n dX6_nextNow_9 rfl ?_
    refine m_aload_n dX6_nextNow_10 rfl ?_
    refine m_aload_n dX6_nextNow_11 rfl ?_
    refine m_gr (z := 0) dX6_nextNow_12 fl_X6_20 oX_43 rfl rfl rX_43_0 ?_
    refine m_aload_n dX6_nextNow_15 rfl ?_
    refine m_gi (z := 5) dX6_nextNow_16 fl_X6_39 oX_43 rfl rfl ?_
    refine m_VI [_] dX6_nextNow_19 lk_X6_65 rfl oX_21 rfl (Nat.le_of_ble_eq_true rfl) (by omega) (x_upIn (by omega) hN h1 h2) ?_
    intro r19 I19 q19
    obtain ⟨rfl, b1, b2⟩ := q19
    refine m_VV [_, _] dX6_nextNow_22 lk_X6_120 rfl oX_43 rfl (Nat.le_of_ble_eq_true rfl) (by omega) (x_findNext (by omega) hi hm b1.1 hN hL hS ho (by omega) hC) ?_
    intro I22 q22
    obtain ⟨p1, p2, p3, p4, p5, p6, p7⟩ := q22
    refine m_aload_n dX6_nextNow_25 rfl ?_
    refine m_gi (z := 11) dX6_nextNow_26 fl_X6_124 hq rfl rfl ?_
    refine m_iret dX6_nextNow_29 rfl ?_
    refine h _ _ (Or.inr ⟨by unfold wtX; omega, r19, b1, b2, p6, p1, p2, Or.inr ⟨by rw [p1 21 (by omega) (by omega)]; exact p7, ?_, fun v hv h12 z => by rw [p3] at z; rw [p1 21 (by omega) (by omega)] at hv; exact absurd ((b2 v (Int.le_trans hN.1.1 hv) h12).mp z).1 (Int.not_lt.mpr hv)⟩⟩)
    rw [p6, p3, p4, p5, p2 0 (by omega), p1 21 (by omega) (by omega), p1 24 (by omega) (by omega), p1 25 (by omega) (by omega), p1 26 (by omega) (by omega)]
    rfl
  · have z1 := bI_eq0 c4
    refine m_iconst dX6_nextNow_7 (by decide) ?_
    refine m_iret dX6_nextNow_8 rfl ?_
    exact h _ _ (Or.inl ⟨fun z => by unfold wtX at z; omega, rfl, rfl⟩)
end
