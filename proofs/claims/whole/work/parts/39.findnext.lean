/-! POST: findNext, findNexts, nextNow -/
def OrdI (I : II) (q : Nat) : Prop := (0 ≤ I q 3 ∧ I q 3 < 32) ∧ (0 ≤ I q 4 ∧ I q 4 ≤ 99) ∧ (0 ≤ I q 5 ∧ I q 5 ≤ 99) ∧ (0 ≤ I q 6 ∧ I q 6 ≤ 23) ∧ (0 ≤ I q 7 ∧ I q 7 ≤ 23) ∧ ∀ k, 0 ≤ k → k < 5 → (0 ≤ I (orw q 0) k ∧ I (orw q 0) k ≤ 9) ∧ (0 ≤ I (orw q 1) k ∧ I (orw q 1) k ≤ 99)
def LawI (I : II) (no : Nat) : Prop := I 37 3 = no ∧ no ≤ 6 ∧ ∀ n : Int, OrdI I (oid no n)
theorem oid_ge (no : Nat) (n : Int) : oid no n = 38 ∨ 300 ≤ oid no n := by unfold oid; split; right; omega; left; rfl
theorem gbF_eq {I J : II} (e : ∀ x, 300 ≤ x → J x = I x) (o t : Int) : ∀ n : Nat, gbF J o t n = gbF I o t n
  | 0 => rfl
  | n + 1 => by unfold gbF; rw [e _ (by omega), gbF_eq e o t n]
theorem goX_eq {I J : II} (e : ∀ x, 300 ≤ x → J x = I x) (no : Nat) (o t : Int) : goX J no o t = goX I no o t := by unfold goX; rw [gbF_eq e]
theorem orw_ge (q j : Nat) (h : q = 38 ∨ 300 ≤ q) (hj : j < 3) : (39 ≤ orw q j ∧ orw q j < 42) ∨ 300 ≤ orw q j := by
  unfold orw
  split <;> omega
/-- memory that is the same but for the messages and the row of ways -/
def FrM (I J : II) : Prop := ∀ x, ¬ (200 ≤ x ∧ x < 300) → x ≠ 36 → J x = I x
theorem lawI_of {I J : II} {no : Nat} (h : LawI I no) (e : FrM I J) : LawI J no := by
  refine ⟨by rw [e 37 (by omega) (by omega)]; exact h.1, h.2.1, fun n => ?_⟩
  have h1 := h.2.2 n
  have q := oid_ge no n
  unfold OrdI at h1 ⊢
  have a := orw_ge (oid no n) 0 q (by omega)
  have b := orw_ge (oid no n) 1 q (by omega)
  rw [e (oid no n) (by omega) (by omega), e (orw (oid no n) 0) (by omega) (by omega), e (orw (oid no n) 1) (by omega) (by omega)]
  exact h1
theorem netI_fr {I J : II} (h : NetI I) (e : FrM I J) : NetI J := by
  unfold NetI
  rw [e 21 (by omega) (by omega), e 24 (by omega) (by omega), e 25 (by omega) (by omega), e 26 (by omega) (by omega), e 27 (by omega) (by omega), e 22 (by omega) (by omega), e 23 (by omega) (by omega)]
  exact h
theorem nx_fr {I J : II} {n to o r : Int} {U : Int → Prop} (e : FrM I J) (h : isNx (J 21 9) (J 24) (J 25) (Kt J n) U to o r) : isNx (I 21 9) (I 24) (I 25) (Kt I n) U to o r := by
  unfold Kt at h ⊢
  rw [e 21 (by omega) (by omega), e 24 (by omega) (by omega), e 25 (by omega) (by omega), e 26 (by omega) (by omega)] at h
  exact h
/-- the words that message q takes on a wire, by the orders that its office knows -/
def wdX (I : II) (no q : Nat) : Int := wsX I (goX I no (I q 6) (I 43 5)) (I q 1) (I q 2)
noncomputable def nxX (I : II) (no q : Nat) (up : Int) : Int := nxF (I 21 9) (I 24) (I 25) (I 26) (fun v => bt up v) (I q 6) (I q 0) (wdX I no q)
/-- what a message keeps of its NEXT is right -/
def CacI (I : II) (q : Nat) : Prop := I q 12 = -1 ∨ ((-1 ≤ I q 11 ∧ I q 11 < I 21 9) ∧ I q 11 = nxF (I 21 9) (I 24) (I 25) (I 26) (fun v => bt (I q 12) v) (I q 13) (I q 0) (I q 14))
theorem wsX_bd {I : II} {q : Nat} {n k : Int} (h : 1 ≤ n ∧ n ≤ 99) : 1 ≤ wsX I q n k ∧ wsX I q n k ≤ 198 := by unfold wsX; split <;> omega
theorem isNx_bd {W : Int} {A B K : Int → Int} {U : Int → Prop} {to o v : Int} (h : isNx W A B K U to o v) (hW : 0 ≤ W) : -1 ≤ v ∧ v < W := by
  obtain ⟨s, -, ⟨-, e⟩ | ⟨-, e, -⟩⟩ := h <;> omega
section
variable {g : GH} {d nm no : Nat} {I : II}
theorem x_findNext {i : Nat} {up : Int} (hd : 4 ≤ d) (hi : i < nm) (hm : nm ≤ 24) (hup : 0 ≤ up) (hN : NetI I) (hL : LawI I no) (hS : MsgS I (200 + i)) (ho : 0 ≤ I (200 + i) 6 ∧ I (200 + i) 6 < 8) (hne : I (200 + i) 6 ≠ I (200 + i) 0) (hC : CacI I (200 + i)) : SV g d mX6_findNext [vr 43, vr (200 + i), vi up] (shX nm no) (RX nm no) I (fun I' => (∀ x, x ≠ 36 → x ≠ 200 + i → I' x = I x) ∧ (∀ j : Int, j ≤ 10 → I' (200 + i) j = I (200 + i) j) ∧ I' (200 + i) 12 = up ∧ I' (200 + i) 13 = I (200 + i) 6 ∧ I' (200 + i) 14 = wdX I no (200 + i) ∧ I' (200 + i) 11 = nxX I no (200 + i) up ∧ (-1 ≤ I' (200 + i) 11 ∧ I' (200 + i) 11 < I 21 9)) := by
  have hq := sX_msg (no := no) hi hm
  obtain ⟨s1, s2, s3, s4, s5⟩ := hS
  have hoi : OrdI I (goX I no (I (200 + i) 6) (I 43 5)) := hL.2.2 (gbF I (I (200 + i) 6) (I 43 5) no)
  have hat : OrdAt (shX nm no) (RX nm no) (goX I no (I (200 + i) 6) (I 43 5)) _ _ _ := ord_id (nm := nm) (no := no) hm hL.2.1 (gbF I (I (200 + i) 6) (I 43 5) no)
  have hwb := wsX_bd (I := I) (q := goX I no (I (200 + i) 6) (I 43 5)) (k := I (200 + i) 2) s2
  intro Q h
  refine C_of rfl (Nat.le_of_ble_eq_true rfl) rfl ?_
  refine m_aload_n dX6_findNext_0 rfl ?_
  refine m_gr (z := 1) dX6_findNext_1 fl_X6_24 oX_43 rfl rfl rX_43_1 ?_
  refine m_aload_n dX6_findNext_4 rfl ?_
  refine m_gi (z := 6) dX6_findNext_5 fl_X6_45 hq rfl rfl ?_
  refine m_aload_n dX6_findNext_8 rfl ?_
  refine m_gi (z := 5) dX6_findNext_9 fl_X6_39 oX_43 rfl rfl ?_
  refine m_Vr [_, _] dX6_findNext_12 lk_X6_48 rfl oX_37 rfl (Nat.le_of_ble_eq_true rfl) (by omega) (x_goneBy (by omega) hm hL.2.1 hL.1 ho.1 ho.2) ?_
  refine m_aload_n dX6_findNext_15 rfl ?_
  refine m_gi (z := 1) dX6_findNext_16 fl_X6_33 hq rfl rfl ?_
  refine m_aload_n dX6_findNext_19 rfl ?_
  refine m_gi (z := 2) dX6_findNext_20 fl_X6_36 hq rfl rfl ?_
  refine m_Vi [_, _] dX6_findNext_23 lk_X6_127 rfl hat.1 rfl (Nat.le_of_ble_eq_true rfl) (by omega) (x_wordsSent (by omega) hat hoi.1.1 s3.1 (by omega) (by omega)) ?_
  refine m_istore_n dX6_findNext_26 (by decide) rfl rfl ?_
  refine m_aload_n dX6_findNext_27 rfl ?_
  refine m_gi (z := 12) dX6_findNext_28 fl_X6_130 hq rfl rfl ?_
  refine m_iload_n dX6_findNext_31 rfl ?_
  refine m_icmp_ne (tgt := 55) dX6_findNext_32 (by decide) (fun c32 => ?_) (fun c32 => ?_)
  · refine m_aload_n dX6_findNext_55 rfl ?_
    refine m_iload_n dX6_findNext_56 rfl ?_
    refine m_pi (z := 12) dX6_findNext_57 fl_X6_130 hq rfl rfl rfl ?_
    refine m_aload_n dX6_findNext_60 rfl ?_
    refine m_aload_n dX6_findNext_61 rfl ?_
    refine m_gi (z := 6) dX6_findNext_62 fl_X6_45 hq rfl rfl ?_
    rw [upI_j (show (6 : Int) ≠ 12 by decide)]
    refine m_pi (z := 13) dX6_findNext_65 fl_X6_133 hq rfl rfl rfl ?_
    refine m_aload_n dX6_findNext_68 rfl ?_
    refine m_iload_n dX6_findNext_69 rfl ?_
    refine m_pi (z := 14) dX6_findNext_70 fl_X6_136 hq rfl rfl rfl ?_
    refine m_aload_n dX6_findNext_73 rfl ?_
    refine m_aload_n dX6_findNext_74 rfl ?_
    refine m_gr (z := 0) dX6_findNext_75 fl_X6_20 oX_43 rfl rfl rX_43_0 ?_
    refine m_aload_n dX6_findNext_78 rfl ?_
    refine m_gi (z := 6) dX6_findNext_79 fl_X6_45 hq rfl rfl ?_
    rw [upI_j (show (6 : Int) ≠ 14 by decide), upI_j (show (6 : Int) ≠ 13 by decide), upI_j (show (6 : Int) ≠ 12 by decide)]
    refine m_aload_n dX6_findNext_82 rfl ?_
    refine m_gi (z := 0) dX6_findNext_83 fl_X6_29 hq rfl rfl ?_
    rw [upI_j (show (0 : Int) ≠ 14 by decide), upI_j (show (0 : Int) ≠ 13 by decide), upI_j (show (0 : Int) ≠ 12 by decide)]
    refine m_iload_n dX6_findNext_86 rfl ?_
    refine m_iload_n dX6_findNext_87 rfl ?_
    refine m_VI [_, _, _, _] dX6_findNext_88 lk_X6_139 rfl oX_21 rfl (Nat.le_of_ble_eq_true rfl) (by omega) (x_wireTowards (by omega) (netI_fr hN (fun x hx _ => by rw [upI_o (by omega), upI_o (by omega), upI_o (by omega)])) (by omega) hup s1 ho hne) ?_
    intro r88 I88 q88
    obtain ⟨he, hx⟩ := q88
    have hx2 : isNx (I 21 9) (I 24) (I 25) (Kt I (wdX I no (200 + i))) (fun v => bt up v) (I (200 + i) 0) (I (200 + i) 6) r88 := nx_fr (fun x hx _ => by rw [upI_o (by omega), upI_o (by omega), upI_o (by omega)]) hx
    have hb := isNx_bd hx2 hN.1.1
    have hnx : nxX I no (200 + i) up = r88 := nxF_eq (netOK hN (show 1 ≤ wdX I no (200 + i) from hwb.1)) s1 ho hx2
    refine m_pi (z := 11) dX6_findNext_91 fl_X6_124 hq rfl rfl rfl ?_
    refine m_vret dX6_findNext_94 rfl ?_
    refine h _ ⟨fun x hx1 hx3 => by rw [upI_o hx3, he x hx1, upI_o hx3, upI_o hx3, upI_o hx3], fun j hj => ?_, ?_, ?_, ?_, by rw [upI_s, hnx], by rw [upI_s]; exact hb⟩
    · rw [upI_j (by omega), he _ (by omega), upI_j (by omega), upI_j (by omega), upI_j (by omega)]
    · rw [upI_j (by omega), he _ (by omega), upI_j (by omega), upI_j (by omega), upI_s]
    · rw [upI_j (by omega), he _ (by omega), upI_j (by omega), upI_s]
    · rw [upI_j (by omega), he _ (by omega), upI_s]
      rfl
  · refine m_aload_n dX6_findNext_35 rfl ?_
    refine m_gi (z := 13) dX6_findNext_36 fl_X6_133 hq rfl rfl ?_
    refine m_aload_n dX6_findNext_39 rfl ?_
    refine m_gi (z := 6) dX6_findNext_40 fl_X6_45 hq rfl rfl ?_
    refine m_icmp_ne (tgt := 55) dX6_findNext_43 (by decide) (fun c43 => ?_) (fun c43 => ?_)
    · refine m_aload_n dX6_findNext_55 rfl ?_
      refine m_iload_n dX6_findNext_56 rfl ?_
      refine m_pi (z := 12) dX6_findNext_57 fl_X6_130 hq rfl rfl rfl ?_
      refine m_aload_n dX6_findNext_60 rfl ?_
      refine m_aload_n dX6_findNext_61 rfl ?_
      refine m_gi (z := 6) dX6_findNext_62 fl_X6_45 hq rfl rfl ?_
      rw [upI_j (show (6 : Int) ≠ 12 by decide)]
      refine m_pi (z := 13) dX6_findNext_65 fl_X6_133 hq rfl rfl rfl ?_
      refine m_aload_n dX6_findNext_68 rfl ?_
      refine m_iload_n dX6_findNext_69 rfl ?_
      refine m_pi (z := 14) dX6_findNext_70 fl_X6_136 hq rfl rfl rfl ?_
      refine m_aload_n dX6_findNext_73 rfl ?_
      refine m_aload_n dX6_findNext_74 rfl ?_
      refine m_gr (z := 0) dX6_findNext_75 fl_X6_20 oX_43 rfl rfl rX_43_0 ?_
      refine m_aload_n dX6_findNext_78 rfl ?_
      refine m_gi (z := 6) dX6_findNext_79 fl_X6_45 hq rfl rfl ?_
      rw [upI_j (show (6 : Int) ≠ 14 by decide), upI_j (show (6 : Int) ≠ 13 by decide), upI_j (show (6 : Int) ≠ 12 by decide)]
      refine m_aload_n dX6_findNext_82 rfl ?_
      refine m_gi (z := 0) dX6_findNext_83 fl_X6_29 hq rfl rfl ?_
      rw [upI_j (show (0 : Int) ≠ 14 by decide), upI_j (show (0 : Int) ≠ 13 by decide), upI_j (show (0 : Int) ≠ 12 by decide)]
      refine m_iload_n dX6_findNext_86 rfl ?_
      refine m_iload_n dX6_findNext_87 rfl ?_
      refine m_VI [_, _, _, _] dX6_findNext_88 lk_X6_139 rfl oX_21 rfl (Nat.le_of_ble_eq_true rfl) (by omega) (x_wireTowards (by omega) (netI_fr hN (fun x hx _ => by rw [upI_o (by omega), upI_o (by omega), upI_o (by omega)])) (by omega) hup s1 ho hne) ?_
      intro r88 I88 q88
      obtain ⟨he, hx⟩ := q88
      have hx2 : isNx (I 21 9) (I 24) (I 25) (Kt I (wdX I no (200 + i))) (fun v => bt up v) (I (200 + i) 0) (I (200 + i) 6) r88 := nx_fr (fun x hx _ => by rw [upI_o (by omega), upI_o (by omega), upI_o (by omega)]) hx
      have hb := isNx_bd hx2 hN.1.1
      have hnx : nxX I no (200 + i) up = r88 := nxF_eq (netOK hN (show 1 ≤ wdX I no (200 + i) from hwb.1)) s1 ho hx2
      refine m_pi (z := 11) dX6_findNext_91 fl_X6_124 hq rfl rfl rfl ?_
      refine m_vret dX6_findNext_94 rfl ?_
      refine h _ ⟨fun x hx1 hx3 => by rw [upI_o hx3, he x hx1, upI_o hx3, upI_o hx3, upI_o hx3], fun j hj => ?_, ?_, ?_, ?_, by rw [upI_s, hnx], by rw [upI_s]; exact hb⟩
      · rw [upI_j (by omega), he _ (by omega), upI_j (by omega), upI_j (by omega), upI_j (by omega)]
      · rw [upI_j (by omega), he _ (by omega), upI_j (by omega), upI_j (by omega), upI_s]
      · rw [upI_j (by omega), he _ (by omega), upI_j (by omega), upI_s]
      · rw [upI_j (by omega), he _ (by omega), upI_s]
        rfl
    · refine m_aload_n dX6_findNext_46 rfl ?_
      refine m_gi (z := 14) dX6_findNext_47 fl_X6_136 hq rfl rfl ?_
      refine m_iload_n dX6_findNext_50 rfl ?_
      refine m_icmp_ne (tgt := 55) dX6_findNext_51 (by decide) (fun c51 => ?_) (fun c51 => ?_)
      · refine m_aload_n dX6_findNext_55 rfl ?_
        refine m_iload_n dX6_findNext_56 rfl ?_
        refine m_pi (z := 12) dX6_findNext_57 fl_X6_130 hq rfl rfl rfl ?_
        refine m_aload_n dX6_findNext_60 rfl ?_
        refine m_aload_n dX6_findNext_61 rfl ?_
        refine m_gi (z := 6) dX6_findNext_62 fl_X6_45 hq rfl rfl ?_
        rw [upI_j (show (6 : Int) ≠ 12 by decide)]
        refine m_pi (z := 13) dX6_findNext_65 fl_X6_133 hq rfl rfl rfl ?_
        refine m_aload_n dX6_findNext_68 rfl ?_
        refine m_iload_n dX6_findNext_69 rfl ?_
        refine m_pi (z := 14) dX6_findNext_70 fl_X6_136 hq rfl rfl rfl ?_
        refine m_aload_n dX6_findNext_73 rfl ?_
        refine m_aload_n dX6_findNext_74 rfl ?_
        refine m_gr (z := 0) dX6_findNext_75 fl_X6_20 oX_43 rfl rfl rX_43_0 ?_
        refine m_aload_n dX6_findNext_78 rfl ?_
        refine m_gi (z := 6) dX6_findNext_79 fl_X6_45 hq rfl rfl ?_
        rw [upI_j (show (6 : Int) ≠ 14 by decide), upI_j (show (6 : Int) ≠ 13 by decide), upI_j (show (6 : Int) ≠ 12 by decide)]
        refine m_aload_n dX6_findNext_82 rfl ?_
        refine m_gi (z := 0) dX6_findNext_83 fl_X6_29 hq rfl rfl ?_
        rw [upI_j (show (0 : Int) ≠ 14 by decide), upI_j (show (0 : Int) ≠ 13 by decide), upI_j (show (0 : Int) ≠ 12 by decide)]
        refine m_iload_n dX6_findNext_86 rfl ?_
        refine m_iload_n dX6_findNext_87 rfl ?_
        refine m_VI [_, _, _, _] dX6_findNext_88 lk_X6_139 rfl oX_21 rfl (Nat.le_of_ble_eq_true rfl) (by omega) (x_wireTowards (by omega) (netI_fr hN (fun x hx _ => by rw [upI_o (by omega), upI_o (by omega), upI_o (by omega)])) (by omega) hup s1 ho hne) ?_
        intro r88 I88 q88
        obtain ⟨he, hx⟩ := q88
        have hx2 : isNx (I 21 9) (I 24) (I 25) (Kt I (wdX I no (200 + i))) (fun v => bt up v) (I (200 + i) 0) (I (200 + i) 6) r88 := nx_fr (fun x hx _ => by rw [upI_o (by omega), upI_o (by omega), upI_o (by omega)]) hx
        have hb := isNx_bd hx2 hN.1.1
        have hnx : nxX I no (200 + i) up = r88 := nxF_eq (netOK hN (show 1 ≤ wdX I no (200 + i) from hwb.1)) s1 ho hx2
        refine m_pi (z := 11) dX6_findNext_91 fl_X6_124 hq rfl rfl rfl ?_
        refine m_vret dX6_findNext_94 rfl ?_
        refine h _ ⟨fun x hx1 hx3 => by rw [upI_o hx3, he x hx1, upI_o hx3, upI_o hx3, upI_o hx3], fun j hj => ?_, ?_, ?_, ?_, by rw [upI_s, hnx], by rw [upI_s]; exact hb⟩
        · rw [upI_j (by omega), he _ (by omega), upI_j (by omega), upI_j (by omega), upI_j (by omega)]
        · rw [upI_j (by omega), he _ (by omega), upI_j (by omega), upI_j (by omega), upI_s]
        · rw [upI_j (by omega), he _ (by omega), upI_j (by omega), upI_s]
        · rw [upI_j (by omega), he _ (by omega), upI_s]
          rfl
      · refine m_vret dX6_findNext_54 rfl ?_
        have e1 : I (200 + i) 12 = up := by omega
        have e2 : I (200 + i) 14 = wdX I no (200 + i) := by show _ = wsX _ _ _ _; omega
        rcases hC with z | ⟨z1, z2⟩
        · omega
        · refine h I ⟨fun _ _ _ => rfl, fun _ _ => rfl, e1, by omega, e2, ?_, z1⟩
          rw [z2, e1, e2, show I (200 + i) 13 = I (200 + i) 6 by omega]
          rfl
end
