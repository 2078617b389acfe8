/-! THE REFERENCE: nextFor, firstOf, isBusy, sendFrom -/
section
variable {g : GH} {d nm no : Nat} {I J : II} {no2 : Nat} {t : Int} {A B SPD DB : Int → Int} {U OP : Int → Prop} {NX : Int → Int → Int → Int} {WS : Int → Int → Int → Int} {RK : Int → Int → Int} {NT : Int → Prop} {TO WD KD HI : Nat → Int} {D : MV}
/-- what the reference's minute rests on, in words that the class's minute has too -/
def MdI (I : II) (nm no2 : Nat) (t : Int) (A B SPD DB : Int → Int) (U OP : Int → Prop) (NX : Int → Int → Int → Int) (WS : Int → Int → Int → Int) (RK : Int → Int → Int) (NT : Int → Prop) (TO WD KD HI : Nat → Int) : Prop :=
  (NetM I ∧ LnI I no2 ∧ I 103 = A ∧ I 104 = B ∧ I 105 = SPD ∧ I 106 = DB ∧ I 100 13 = nm ∧ nm ≤ 24 ∧ 0 ≤ t ∧ t ≤ 9000) ∧
  (∀ v, 0 ≤ v → v < I 100 3 → (upM I t v ↔ U v)) ∧ (∀ o, 0 ≤ o → o < 8 → ((I 101 o ≤ t % 1440 ∧ t % 1440 ≤ I 102 o) ↔ OP o)) ∧
  (∀ o, 0 ≤ o → o < 8 → ∀ n k, 1 ≤ n → n ≤ 99 → 0 ≤ k → k < 5 → wsO I (obF (I 117) o t no2) n k = WS o n k) ∧
  (∀ o, 0 ≤ o → o < 8 → ∀ k, 0 ≤ k → k < 5 → lsO I (obF (I 117) o t no2) 0 k (rkD k) = RK o k) ∧
  (∀ o, 0 ≤ o → o < 8 → (ngO I (obF (I 117) o t no2) (t % 1440 / 60) ↔ NT o)) ∧
  (∀ o to n r, 0 ≤ o → o < 8 → 0 ≤ to → to < 8 → o ≠ to → 1 ≤ n → n ≤ 198 → isNx (I 100 3) (I 103) (I 104) (KtM I n) (upM I t) to o r → r = NX o to n) ∧
  (∀ m : Nat, m < nm → (I 109 (6 * m + 1) = TO m ∧ I 109 (6 * m + 2) = WD m ∧ I 109 (6 * m + 3) = KD m ∧ I 109 (6 * m + 4) = HI m) ∧ (0 ≤ TO m ∧ TO m < 8) ∧ (1 ≤ WD m ∧ WD m ≤ 99) ∧ (0 ≤ KD m ∧ KD m < 5))
def FrG (I J : II) : Prop := ∀ x, x ≠ 110 → x ≠ 112 → J x = I x
theorem FrG_rf {I : II} : FrG I I := fun _ _ _ => rfl
theorem FrG_tr {I J K : II} (h : FrG I J) (h2 : FrG J K) : FrG I K := fun x a b => (h2 x a b).trans (h x a b)
theorem FrG_112 {I J : II} (h : Fr112 I J) : FrG I J := fun x _ b => h x b
theorem MdI_fr (h : FrG I J) (hM : MdI I nm no2 t A B SPD DB U OP NX WS RK NT TO WD KD HI) : MdI J nm no2 t A B SPD DB U OP NX WS RK NT TO WD KD HI := by
  unfold MdI NetM LnI upM wsO twO lsO ngO lnV KtM at *
  rw [h 100 (by decide) (by decide), h 101 (by decide) (by decide), h 102 (by decide) (by decide), h 103 (by decide) (by decide), h 104 (by decide) (by decide), h 105 (by decide) (by decide), h 106 (by decide) (by decide), h 107 (by decide) (by decide), h 108 (by decide) (by decide), h 109 (by decide) (by decide), h 115 (by decide) (by decide), h 116 (by decide) (by decide), h 117 (by decide) (by decide)]
  exact hM
/-- message m, as the reference has it, in normal form -/
def stM (J : II) (m : Nat) : Int → Int := mk6 (J 110 (6 * m)) (J 110 (6 * m + 1)) (J 110 (6 * m + 2)) (if J 110 (6 * m) = 1 then J 110 (6 * m + 3) else -1) (J 110 (6 * m + 4)) (J 110 (6 * m + 5))
theorem stM_at {m : Nat} {x : Int → Int} (h : stM J m = x) : J 110 (6 * m) = x 0 ∧ J 110 (6 * m + 1) = x 1 ∧ J 110 (6 * m + 2) = x 2 ∧ (x 0 = 1 → J 110 (6 * m + 3) = x 3) ∧ J 110 (6 * m + 4) = x 4 ∧ J 110 (6 * m + 5) = x 5 := by
  subst h
  refine ⟨rfl, rfl, rfl, fun z => ?_, rfl, rfl⟩
  have z' : J 110 (6 * m) = 1 := z
  show _ = (if J 110 (6 * m) = 1 then J 110 (6 * m + 3) else -1)
  rw [if_pos z']
theorem stM_fr {m : Nat} (h : J 110 = I 110) : stM J m = stM I m := by unfold stM; rw [h]
def StD (J : II) (nm : Nat) (D : MV) : Prop := ∀ m : Nat, m < nm → stM J m = D m
def DmI (D : MV) (nm : Nat) (W : Int) (A B : Int → Int) (tt : Int) : Prop := ∀ m : Nat, m < nm → MsgD W A B tt (D m)
theorem y_nextFor {m : Nat} {tt : Int} (hd : 3 ≤ d) (hM : MdI I nm no2 t A B SPD DB U OP NX WS RK NT TO WD KD HI) (hD : StD I nm D) (hm : DmI D nm (I 100 3) A B tt) (hmn : m < nm) : SI g d mX12_nextFor [vr 100, vi m, vi t] (shX nm no) (RX nm no) I (fun r J => r = (if D m 0 = 0 ∧ D m 1 ≠ TO m then nxtM NX WS TO WD KD m (D m) else -1) ∧ Fr112 I J) := by
  obtain ⟨e0, e1, e2, e3, e4, e5⟩ := stM_at (hD m hmn)
  have hx := hm m hmn
  obtain ⟨⟨eT, eW, eK, eH⟩, hT⟩ := hM.2.2.2.2.2.2.2 m hmn
  have ob := obF_bd (I 117) (D m 1) t no2
  have hWS := hM.2.2.2.1 (D m 1) hx.2.1.1 hx.2.1.2 (WD m) (KD m) hT.2.1.1 hT.2.1.2 hT.2.2.1 hT.2.2.2
  have h24 := hM.1.2.2.2.2.2.2.2.1
  have hws : 1 ≤ WS (D m 1) (WD m) (KD m) ∧ WS (D m 1) (WD m) (KD m) ≤ 198 := by
    rw [← hWS]; unfold wsO
    by_cases z : twO I (obF (I 117) (D m 1) t no2) (KD m)
    · rw [cif_t z]; omega
    · rw [cif_f z]; omega
  intro Q h
  refine C_of rfl (Nat.le_of_ble_eq_true rfl) rfl ?_
  refine m_bipush dX12_nextFor_0 rfl (by decide) ?_
  refine m_iload_n dX12_nextFor_2 rfl ?_
  refine m_imul dX12_nextFor_3 (by omega) ?_
  refine m_istore_n dX12_nextFor_4 (by decide) rfl rfl ?_
  refine m_aload_n dX12_nextFor_5 rfl ?_
  refine m_gr (z := 15) dX12_nextFor_6 fl_X12_42 oX_100 rfl rfl rX_100_15 ?_
  refine m_iload_n dX12_nextFor_9 rfl ?_
  refine m_iald dX12_nextFor_10 sX_110 (by omega) (by omega) ?_
  rw [e0]
  refine m_if_ne (tgt := 33) dX12_nextFor_11 (by decide) (fun c11 => ?_) (fun c11 => ?_)
  · refine m_iconst dX12_nextFor_33 (by decide) ?_
    refine m_iret dX12_nextFor_34 rfl ?_
    exact h _ _ ⟨by rw [if_neg (by omega)], fun _ _ => rfl⟩
  · refine m_aload_n dX12_nextFor_14 rfl ?_
    refine m_gr (z := 15) dX12_nextFor_15 fl_X12_42 oX_100 rfl rfl rX_100_15 ?_
    refine m_iload_n dX12_nextFor_18 rfl ?_
    refine m_iconst dX12_nextFor_19 (by decide) ?_
    refine m_iadd dX12_nextFor_20 (by omega) ?_
    refine m_iald dX12_nextFor_21 sX_110 (by omega) (by omega) ?_
    rw [e1]
    refine m_aload_n dX12_nextFor_22 rfl ?_
    refine m_gr (z := 14) dX12_nextFor_23 fl_X12_39 oX_100 rfl rfl rX_100_14 ?_
    refine m_iload_n dX12_nextFor_26 rfl ?_
    refine m_iconst dX12_nextFor_27 (by decide) ?_
    refine m_iadd dX12_nextFor_28 (by omega) ?_
    refine m_iald dX12_nextFor_29 sX_109 (by omega) (by omega) ?_
    rw [eT]
    refine m_icmp_ne (tgt := 35) dX12_nextFor_30 (by decide) (fun c30 => ?_) (fun c30 => ?_)
    · refine m_aload_n dX12_nextFor_35 rfl ?_
      refine m_gr (z := 15) dX12_nextFor_36 fl_X12_42 oX_100 rfl rfl rX_100_15 ?_
      refine m_iload_n dX12_nextFor_39 rfl ?_
      refine m_iconst dX12_nextFor_40 (by decide) ?_
      refine m_iadd dX12_nextFor_41 (by omega) ?_
      refine m_iald dX12_nextFor_42 sX_110 (by omega) (by omega) ?_
      rw [e1]
      refine m_istore dX12_nextFor_43 (by decide) rfl rfl ?_
      refine m_aload_n dX12_nextFor_45 rfl ?_
      refine m_iload dX12_nextFor_46 rfl ?_
      refine m_aload_n dX12_nextFor_48 rfl ?_
      refine m_gr (z := 14) dX12_nextFor_49 fl_X12_39 oX_100 rfl rfl rX_100_14 ?_
      refine m_iload_n dX12_nextFor_52 rfl ?_
      refine m_iconst dX12_nextFor_53 (by decide) ?_
      refine m_iadd dX12_nextFor_54 (by omega) ?_
      refine m_iald dX12_nextFor_55 sX_109 (by omega) (by omega) ?_
      rw [eT]
      refine m_aload_n dX12_nextFor_56 rfl ?_
      refine m_aload_n dX12_nextFor_57 rfl ?_
      refine m_gr (z := 14) dX12_nextFor_58 fl_X12_39 oX_100 rfl rfl rX_100_14 ?_
      refine m_iload_n dX12_nextFor_61 rfl ?_
      refine m_iconst dX12_nextFor_62 (by decide) ?_
      refine m_iadd dX12_nextFor_63 (by omega) ?_
      refine m_iald dX12_nextFor_64 sX_109 (by omega) (by omega) ?_
      rw [eW]
      refine m_aload_n dX12_nextFor_65 rfl ?_
      refine m_gr (z := 14) dX12_nextFor_66 fl_X12_39 oX_100 rfl rfl rX_100_14 ?_
      refine m_iload_n dX12_nextFor_69 rfl ?_
      refine m_iconst dX12_nextFor_70 (by decide) ?_
      refine m_iadd dX12_nextFor_71 (by omega) ?_
      refine m_iald dX12_nextFor_72 sX_109 (by omega) (by omega) ?_
      rw [eK]
      refine m_aload_n dX12_nextFor_73 rfl ?_
      refine m_iload dX12_nextFor_74 rfl ?_
      refine m_iload_n dX12_nextFor_76 rfl ?_
      refine m_Vi [_, _] dX12_nextFor_77 lk_X12_157 rfl oX_100 rfl (Nat.le_of_ble_eq_true rfl) (by omega) (y_ordersOf hM.1.2.1.1 hM.1.2.1.2.1 hx.2.1) ?_
      refine m_Vi [_, _, _] dX12_nextFor_80 lk_X12_180 rfl oX_100 rfl (Nat.le_of_ble_eq_true rfl) (by omega) (y_wordsOf (by omega) hM.1.2.1 ⟨by omega, by omega⟩ ⟨by omega, by omega⟩) ?_
      rw [hWS]
      refine m_iload_n dX12_nextFor_83 rfl ?_
      refine m_VI [_, _, _, _] dX12_nextFor_84 lk_X12_184 rfl oX_100 rfl (Nat.le_of_ble_eq_true rfl) (by omega) (y_nextOf (by omega) hM.1.1 ⟨by omega, by omega⟩ hT.1 hx.2.1 (by omega)) ?_
      intro r84 I84 q84
      refine m_iret dX12_nextFor_87 rfl ?_
      refine h _ _ ⟨?_, q84.2⟩
      rw [if_pos ⟨by omega, by omega⟩]
      exact hM.2.2.2.2.2.2.1 _ _ _ _ hx.2.1.1 hx.2.1.2 hT.1.1 hT.1.2 (by omega) (by omega) (by omega) q84.1
    · refine m_iconst dX12_nextFor_33 (by decide) ?_
      refine m_iret dX12_nextFor_34 rfl ?_
      exact h _ _ ⟨by rw [if_neg (by omega)], fun _ _ => rfl⟩
theorem y_bs_loop {v o : Int} {Q : QT} (hc : I 100 13 = nm) (h24 : nm ≤ 24) (hD : StD I nm D) (h : Q (some (vi (bP (busy nm D v o)))) (shX nm no) (RX nm no) I) : ∀ (k m : Nat) (f : Int), nm - m < k → m ≤ nm → isB f (busy m D v o) → T g d mX12_isBusy 0 0 5 [some (vr 100), some (vi v), some (vi o), some (vi f), some (vi m)] [] (shX nm no) (RX nm no) I Q := by
  intro k
  induction k with
  | zero => intro m f hk; omega
  | succ k ih =>
    intro m f hk hmn hf
    have hf1 := hf.1
    refine m_iload dX12_isBusy_5 rfl ?_
    refine m_aload_n dX12_isBusy_7 rfl ?_
    refine m_gi (z := 13) dX12_isBusy_8 fl_X12_130 oX_100 rfl rfl ?_
    refine m_icmp_ge (tgt := 76) dX12_isBusy_11 (by decide) (fun c11 => ?_) (fun c11 => ?_)
    · have em : m = nm := by omega
      subst em
      refine m_iload_n dX12_isBusy_76 rfl ?_
      refine m_zret dX12_isBusy_77 rfl hf1 ?_
      rw [hf.bp]
      exact h
    · obtain ⟨e0, e1, e2, e3, e4, e5⟩ := stM_at (hD m (by omega))
      refine m_iload_n dX12_isBusy_14 rfl ?_
      refine m_tif_ne (tgt := 64) (M := 69) dX12_isBusy_15 (by decide) (fun c15 hM15 => by
          refine m_iconst dX12_isBusy_64 (by decide) ?_
          refine m_goto (tgt := 69) dX12_isBusy_65 (by decide) ?_
          exact hM15
        ) (fun c15 hM15 => by
          refine m_aload_n dX12_isBusy_18 rfl ?_
          refine m_gr (z := 15) dX12_isBusy_19 fl_X12_42 oX_100 rfl rfl rX_100_15 ?_
          refine m_bipush dX12_isBusy_22 rfl (by decide) ?_
          refine m_iload dX12_isBusy_24 rfl ?_
          refine m_imul dX12_isBusy_26 (by omega) ?_
          refine m_iald dX12_isBusy_27 sX_110 (by omega) (by omega) ?_
          rw [e0]
          refine m_iconst dX12_isBusy_28 (by decide) ?_
          refine m_ticmp_ne (tgt := 68) (M := 69) dX12_isBusy_29 (by decide) (fun c29 hM29 => by
              refine m_iconst dX12_isBusy_68 (by decide) ?_
              exact hM29
            ) (fun c29 hM29 => by
              refine m_aload_n dX12_isBusy_32 rfl ?_
              refine m_gr (z := 15) dX12_isBusy_33 fl_X12_42 oX_100 rfl rfl rX_100_15 ?_
              refine m_bipush dX12_isBusy_36 rfl (by decide) ?_
              refine m_iload dX12_isBusy_38 rfl ?_
              refine m_imul dX12_isBusy_40 (by omega) ?_
              refine m_iconst dX12_isBusy_41 (by decide) ?_
              refine m_iadd dX12_isBusy_42 (by omega) ?_
              refine m_iald dX12_isBusy_43 sX_110 (by omega) (by omega) ?_
              rw [e2]
              refine m_iload_n dX12_isBusy_44 rfl ?_
              refine m_ticmp_ne (tgt := 68) (M := 69) dX12_isBusy_45 (by decide) (fun c45 hM45 => by
                  refine m_iconst dX12_isBusy_68 (by decide) ?_
                  exact hM45
                ) (fun c45 hM45 => by
                  refine m_aload_n dX12_isBusy_48 rfl ?_
                  refine m_gr (z := 15) dX12_isBusy_49 fl_X12_42 oX_100 rfl rfl rX_100_15 ?_
                  refine m_bipush dX12_isBusy_52 rfl (by decide) ?_
                  refine m_iload dX12_isBusy_54 rfl ?_
                  refine m_imul dX12_isBusy_56 (by omega) ?_
                  refine m_iconst dX12_isBusy_57 (by decide) ?_
                  refine m_iadd dX12_isBusy_58 (by omega) ?_
                  refine m_iald dX12_isBusy_59 sX_110 (by omega) (by omega) ?_
                  rw [e1]
                  refine m_iload_n dX12_isBusy_60 rfl ?_
                  refine m_ticmp_ne (tgt := 68) (M := 69) dX12_isBusy_61 (by decide) (fun c61 hM61 => by
                      refine m_iconst dX12_isBusy_68 (by decide) ?_
                      exact hM61
                    ) (fun c61 hM61 => by
                      refine m_iconst dX12_isBusy_64 (by decide) ?_
                      refine m_goto (tgt := 69) dX12_isBusy_65 (by decide) ?_
                      exact hM61
                    ) ?_
                  exact hM45
                ) ?_
              exact hM29
            ) ?_
          exact hM15
        ) ?_
      refine m_top (bI (f = 1 ∨ (D m 0 = 1 ∧ D m 2 = v ∧ D m 1 = o))) (by unfold bI; (repeat' split) <;> first | rfl | omega) ?_
      refine m_istore_n dX12_isBusy_69 (by decide) rfl rfl ?_
      refine m_iinc dX12_isBusy_70 rfl (by decide) rfl rfl (by omega) ?_
      refine m_goto (tgt := 5) dX12_isBusy_73 (by decide) ?_
      refine ih (m + 1) _ (by omega) (by omega) (isB_bI ?_)
      constructor
      · rintro (z | z)
        · obtain ⟨j, j1, j2⟩ := hf.2.mp z
          exact ⟨j, by omega, j2⟩
        · exact ⟨m, by omega, z⟩
      · rintro ⟨j, j1, j2⟩
        rcases (show j < m ∨ j = m by omega) with q | q
        · exact Or.inl (hf.2.mpr ⟨j, q, j2⟩)
        · subst q; exact Or.inr j2
theorem y_isBusy {v o : Int} (hc : I 100 13 = nm) (h24 : nm ≤ 24) (hD : StD I nm D) : SP g d mX12_isBusy 0 0 [vr 100, vi v, vi o] (shX nm no) (RX nm no) I (some (vi (bP (busy nm D v o)))) (shX nm no) (RX nm no) I := by
  intro Q h
  refine C_of rfl (Nat.le_of_ble_eq_true rfl) rfl ?_
  refine m_iconst dX12_isBusy_0 (by decide) ?_
  refine m_istore_n dX12_isBusy_1 (by decide) rfl rfl ?_
  refine m_iconst dX12_isBusy_2 (by decide) ?_
  refine m_istore dX12_isBusy_3 (by decide) rfl rfl ?_
  exact y_bs_loop hc h24 hD h _ 0 0 (Nat.lt_succ_self _) (by omega) (isB_0 (fun ⟨j, j1, _⟩ => by omega))
theorem pick_yes {o v : Int} {m : Nat} (hc : cand NX WS NT TO WD KD D o v m) (hb : (pick NX WS RK NT TO WD KD HI D o v m = -1 ∨ RK o (KD m) < RK o (KD (pick NX WS RK NT TO WD KD HI D o v m).toNat) ∨ (RK o (KD m) = RK o (KD (pick NX WS RK NT TO WD KD HI D o v m).toNat) ∧ HI m < HI (pick NX WS RK NT TO WD KD HI D o v m).toNat))) : pick NX WS RK NT TO WD KD HI D o v (m + 1) = m := by
  show cif _ _ _ = _
  exact cif_t ⟨hc, hb⟩
theorem pick_no {o v : Int} {m : Nat} (hc : ¬ (cand NX WS NT TO WD KD D o v m ∧ (pick NX WS RK NT TO WD KD HI D o v m = -1 ∨ RK o (KD m) < RK o (KD (pick NX WS RK NT TO WD KD HI D o v m).toNat) ∨ (RK o (KD m) = RK o (KD (pick NX WS RK NT TO WD KD HI D o v m).toNat) ∧ HI m < HI (pick NX WS RK NT TO WD KD HI D o v m).toNat)))) : pick NX WS RK NT TO WD KD HI D o v (m + 1) = pick NX WS RK NT TO WD KD HI D o v m := by
  show cif _ _ _ = _
  exact cif_f hc
theorem y_first_loop {o v q tt : Int} {Q : QT} (hd : 4 ≤ d) (hM : MdI I nm no2 t A B SPD DB U OP NX WS RK NT TO WD KD HI) (hD : StD I nm D) (hm : DmI D nm (I 100 3) A B tt) (ho : 0 ≤ o ∧ o < 8) (hv : 0 ≤ v) (hq : q = obF (I 117) o t no2) (h : ∀ L, Fr112 I L → Q (some (vi (pick NX WS RK NT TO WD KD HI D o v nm))) (shX nm no) (RX nm no) L) : ∀ (k m : Nat) (L : II) (l7 l8 l9 l10 : Option AV), nm - m < k → m ≤ nm → Fr112 I L → T g d mX12_firstOf 0 0 14 [some (vr 100), some (vi o), some (vi v), some (vi t), some (vi q), some (vi (pick NX WS RK NT TO WD KD HI D o v m)), some (vi m), l7, l8, l9, l10] [] (shX nm no) (RX nm no) L Q := by
  have obb := obF_bd (I 117) o t no2
  have h24 := hM.1.2.2.2.2.2.2.2.1
  intro k
  induction k with
  | zero => intro m L l7 l8 l9 l10 hk; omega
  | succ k ih =>
    intro m L l7 l8 l9 l10 hk hmn hL
    have hb := pick_bd (NX := NX) (WS := WS) (RK := RK) (NT := NT) (TO := TO) (WD := WD) (KD := KD) (HI := HI) D o v m
    have c13 : L 100 13 = nm := by rw [hL 100 (by decide)]; exact hM.1.2.2.2.2.2.2.1
    by_cases hend : m = nm
    · subst hend
      refine m_iload dX12_firstOf_14 rfl ?_
      refine m_aload_n dX12_firstOf_16 rfl ?_
      refine m_gi (z := 13) dX12_firstOf_17 fl_X12_130 oX_100 rfl rfl ?_
      rw [c13]
      refine m_icmp_ge (tgt := 207) dX12_firstOf_20 (by decide) (fun c20 => ?_) (fun c20 => ?_)
      · refine m_iload dX12_firstOf_207 rfl ?_
        refine m_iret dX12_firstOf_209 rfl ?_
        exact h L hL
      · exact absurd (Int.le_refl _) c20
    · obtain ⟨e0, e1, e2, e3, e4, e5⟩ := stM_at (hD m (by omega))
      have hx := hm m (by omega)
      obtain ⟨⟨eT, eW, eK, eH⟩, hT2⟩ := hM.2.2.2.2.2.2.2 m (by omega)
      have K0 : ∀ (L : II) (l9 l10 : Option AV) (a7 : Int) (l8 : Option AV), Fr112 I L → pick NX WS RK NT TO WD KD HI D o v (m + 1) = pick NX WS RK NT TO WD KD HI D o v m → T g d mX12_firstOf 0 0 92 [some (vr 100), some (vi o), some (vi v), some (vi t), some (vi q), some (vi (pick NX WS RK NT TO WD KD HI D o v m)), some (vi m), some (vi a7), l8, l9, l10] [vi 0] (shX nm no) (RX nm no) L Q := by
        intro L l9 l10 a7 l8 hL ep
        refine m_istore dX12_firstOf_92 (by decide) rfl rfl ?_
        refine m_iload dX12_firstOf_94 rfl ?_
        refine m_if_eq (tgt := 187) dX12_firstOf_96 (by decide) (fun c96 => ?_) (fun c96 => ?_)
        · refine m_iload dX12_firstOf_187 rfl ?_
          refine m_if_eq (tgt := 197) dX12_firstOf_189 (by decide) (fun c189 => ?_) (fun c189 => ?_)
          · refine m_iload dX12_firstOf_197 rfl ?_
            refine m_istore dX12_firstOf_199 (by decide) rfl rfl ?_
            refine m_iinc dX12_firstOf_201 rfl (by decide) rfl rfl (by omega) ?_
            refine m_goto (tgt := 14) dX12_firstOf_204 (by decide) ?_
            rw [← ep]
            exact ih (m + 1) L _ _ _ _ (by omega) (by omega) hL
          · exact absurd rfl c189
        · exact absurd rfl c96
      have K1 : ∀ (L : II) (l9 l10 : Option AV) (l8 : Option AV), Fr112 I L → cand NX WS NT TO WD KD D o v m → T g d mX12_firstOf 0 0 92 [some (vr 100), some (vi o), some (vi v), some (vi t), some (vi q), some (vi (pick NX WS RK NT TO WD KD HI D o v m)), some (vi m), some (vi (6 * (m : Int))), l8, l9, l10] [vi 1] (shX nm no) (RX nm no) L Q := by
        intro L l9 l10 l8 hL hcd
        have hML := MdI_fr (FrG_112 hL) hM
        have l117 : L 117 = I 117 := hL 117 (by decide)
        obtain ⟨⟨lT1, lT2, lT3, lT4⟩, -⟩ := hML.2.2.2.2.2.2.2 m (by omega)
        have hR1 := hML.2.2.2.2.1 o ho.1 ho.2 (KD m) hT2.2.2.1 hT2.2.2.2
        rw [l117, ← hq] at hR1
        refine m_istore dX12_firstOf_92 (by decide) rfl rfl ?_
        refine m_iload dX12_firstOf_94 rfl ?_
        refine m_if_eq (tgt := 187) dX12_firstOf_96 (by decide) (fun c96 => ?_) (fun c96 => ?_)
        · exact absurd c96 (by decide)
        · refine m_iload dX12_firstOf_99 rfl ?_
          refine m_iconst dX12_firstOf_101 (by decide) ?_
          refine m_icmp_eq (tgt := 187) dX12_firstOf_102 (by decide) (fun c102 => ?_) (fun c102 => ?_)
          · have hbet : (pick NX WS RK NT TO WD KD HI D o v m = -1 ∨ RK o (KD m) < RK o (KD (pick NX WS RK NT TO WD KD HI D o v m).toNat) ∨ (RK o (KD m) = RK o (KD (pick NX WS RK NT TO WD KD HI D o v m).toNat) ∧ HI m < HI (pick NX WS RK NT TO WD KD HI D o v m).toNat)) := Or.inl c102
            refine m_iload dX12_firstOf_187 rfl ?_
            refine m_if_eq (tgt := 197) dX12_firstOf_189 (by decide) (fun c189 => ?_) (fun c189 => ?_)
            · refine m_iload dX12_firstOf_197 rfl ?_
              refine m_istore dX12_firstOf_199 (by decide) rfl rfl ?_
              refine m_iinc dX12_firstOf_201 rfl (by decide) rfl rfl (by omega) ?_
              refine m_goto (tgt := 14) dX12_firstOf_204 (by decide) ?_
              have z := fun l7 l8 l9 l10 => ih (m + 1) L l7 l8 l9 l10 (by omega) (by omega) hL
              first
              | exact absurd c189 (by decide)
              | (have e9 := pick_yes (RK := RK) (HI := HI) hcd hbet; rw [e9] at z; exact z _ _ _ _)
              | (have z0 := bI_ne0 c189
                 have e9 := pick_yes (RK := RK) (HI := HI) hcd (Or.inr (by rw [epn, Int.toNat_natCast]; exact z0)); rw [e9] at z; exact z _ _ _ _)
              | (have z0 := bI_eq0 c189
                 have e9 := pick_no (RK := RK) (HI := HI) (NX := NX) (WS := WS) (NT := NT) (TO := TO) (WD := WD) (KD := KD) (D := D) (o := o) (v := v) (m := m) (fun y => by
                   rcases y.2 with y | y
                   · exact c102 y
                   · rw [epn, Int.toNat_natCast] at y; exact z0 y)
                 rw [e9, epn] at z; exact z _ _ _ _)
            · refine m_iload dX12_firstOf_192 rfl ?_
              refine m_goto (tgt := 199) dX12_firstOf_194 (by decide) ?_
              refine m_istore dX12_firstOf_199 (by decide) rfl rfl ?_
              refine m_iinc dX12_firstOf_201 rfl (by decide) rfl rfl (by omega) ?_
              refine m_goto (tgt := 14) dX12_firstOf_204 (by decide) ?_
              have z := fun l7 l8 l9 l10 => ih (m + 1) L l7 l8 l9 l10 (by omega) (by omega) hL
              first
              | exact absurd c189 (by decide)
              | (have e9 := pick_yes (RK := RK) (HI := HI) hcd hbet; rw [e9] at z; exact z _ _ _ _)
              | (have z0 := bI_ne0 c189
                 have e9 := pick_yes (RK := RK) (HI := HI) hcd (Or.inr (by rw [epn, Int.toNat_natCast]; exact z0)); rw [e9] at z; exact z _ _ _ _)
              | (have z0 := bI_eq0 c189
                 have e9 := pick_no (RK := RK) (HI := HI) (NX := NX) (WS := WS) (NT := NT) (TO := TO) (WD := WD) (KD := KD) (D := D) (o := o) (v := v) (m := m) (fun y => by
                   rcases y.2 with y | y
                   · exact c102 y
                   · rw [epn, Int.toNat_natCast] at y; exact z0 y)
                 rw [e9, epn] at z; exact z _ _ _ _)
          · obtain ⟨pn, epn⟩ : ∃ pn : Nat, pick NX WS RK NT TO WD KD HI D o v m = pn := ⟨(pick NX WS RK NT TO WD KD HI D o v m).toNat, by omega⟩
            obtain ⟨⟨fT, fW, fK, fH⟩, fT2⟩ := hML.2.2.2.2.2.2.2 pn (by omega)
            have hR2 := hML.2.2.2.2.1 o ho.1 ho.2 (KD pn) fT2.2.2.1 fT2.2.2.2
            rw [l117, ← hq] at hR2
            have hE : ∀ x y : Prop, x = y → (x ↔ y) := fun x y e => by rw [e]
            refine m_aload_n dX12_firstOf_105 rfl ?_
            refine m_iload dX12_firstOf_106 rfl ?_
            refine m_aload_n dX12_firstOf_108 rfl ?_
            refine m_gr (z := 14) dX12_firstOf_109 fl_X12_39 oX_100 rfl rfl rX_100_14 ?_
            refine m_iload dX12_firstOf_112 rfl ?_
            refine m_iconst dX12_firstOf_114 (by decide) ?_
            refine m_iadd dX12_firstOf_115 (by omega) ?_
            refine m_iald dX12_firstOf_116 sX_109 (by omega) (by omega) ?_
            rw [lT3]
            refine m_Vi [_, _] dX12_firstOf_117 lk_X12_196 rfl oX_100 rfl (Nat.le_of_ble_eq_true rfl) (by omega) (y_rankOf (by omega) hML.1.2.1 ⟨by omega, by omega⟩) ?_
            rw [hR1]
            refine m_istore dX12_firstOf_120 (by decide) rfl rfl ?_
            refine m_aload_n dX12_firstOf_122 rfl ?_
            refine m_iload dX12_firstOf_123 rfl ?_
            refine m_aload_n dX12_firstOf_125 rfl ?_
            refine m_gr (z := 14) dX12_firstOf_126 fl_X12_39 oX_100 rfl rfl rX_100_14 ?_
            refine m_bipush dX12_firstOf_129 rfl (by decide) ?_
            refine m_iload dX12_firstOf_131 rfl ?_
            refine m_imul dX12_firstOf_133 (by omega) ?_
            refine m_iconst dX12_firstOf_134 (by decide) ?_
            refine m_iadd dX12_firstOf_135 (by omega) ?_
            refine m_iald dX12_firstOf_136 sX_109 (by omega) (by omega) ?_
            rw [epn, fK]
            refine m_Vi [_, _] dX12_firstOf_137 lk_X12_196 rfl oX_100 rfl (Nat.le_of_ble_eq_true rfl) (by omega) (y_rankOf (by omega) hML.1.2.1 ⟨by omega, by omega⟩) ?_
            rw [hR2]
            refine m_istore dX12_firstOf_140 (by decide) rfl rfl ?_
            refine m_iload dX12_firstOf_142 rfl ?_
            refine m_iload dX12_firstOf_144 rfl ?_
            refine m_ticmp_lt (tgt := 180) (M := 185) dX12_firstOf_146 (by decide) (fun c146 hM146 => by
                refine m_iconst dX12_firstOf_180 (by decide) ?_
                refine m_goto (tgt := 185) dX12_firstOf_181 (by decide) ?_
                exact hM146
              ) (fun c146 hM146 => by
                refine m_iload dX12_firstOf_149 rfl ?_
                refine m_iload dX12_firstOf_151 rfl ?_
                refine m_ticmp_ne (tgt := 184) (M := 185) dX12_firstOf_153 (by decide) (fun c153 hM153 => by
                    refine m_iconst dX12_firstOf_184 (by decide) ?_
                    exact hM153
                  ) (fun c153 hM153 => by
                    refine m_aload_n dX12_firstOf_156 rfl ?_
                    refine m_gr (z := 14) dX12_firstOf_157 fl_X12_39 oX_100 rfl rfl rX_100_14 ?_
                    refine m_iload dX12_firstOf_160 rfl ?_
                    refine m_iconst dX12_firstOf_162 (by decide) ?_
                    refine m_iadd dX12_firstOf_163 (by omega) ?_
                    refine m_iald dX12_firstOf_164 sX_109 (by omega) (by omega) ?_
                    rw [lT4]
                    refine m_aload_n dX12_firstOf_165 rfl ?_
                    refine m_gr (z := 14) dX12_firstOf_166 fl_X12_39 oX_100 rfl rfl rX_100_14 ?_
                    refine m_bipush dX12_firstOf_169 rfl (by decide) ?_
                    refine m_iload dX12_firstOf_171 rfl ?_
                    refine m_imul dX12_firstOf_173 (by omega) ?_
                    refine m_iconst dX12_firstOf_174 (by decide) ?_
                    refine m_iadd dX12_firstOf_175 (by omega) ?_
                    refine m_iald dX12_firstOf_176 sX_109 (by omega) (by omega) ?_
                    rw [fH]
                    refine m_ticmp_ge (tgt := 184) (M := 185) dX12_firstOf_177 (by decide) (fun c177 hM177 => by
                        refine m_iconst dX12_firstOf_184 (by decide) ?_
                        exact hM177
                      ) (fun c177 hM177 => by
                        refine m_iconst dX12_firstOf_180 (by decide) ?_
                        refine m_goto (tgt := 185) dX12_firstOf_181 (by decide) ?_
                        exact hM177
                      ) ?_
                    exact hM153
                  ) ?_
                exact hM146
              ) ?_
            refine m_top (bI (RK o (KD m) < RK o (KD pn) ∨ (RK o (KD m) = RK o (KD pn) ∧ HI m < HI pn))) (by unfold bI; (repeat' split) <;> first | rfl | omega) ?_
            refine m_istore dX12_firstOf_185 (by decide) rfl rfl ?_
            refine m_iload dX12_firstOf_187 rfl ?_
            refine m_if_eq (tgt := 197) dX12_firstOf_189 (by decide) (fun c189 => ?_) (fun c189 => ?_)
            · refine m_iload dX12_firstOf_197 rfl ?_
              refine m_istore dX12_firstOf_199 (by decide) rfl rfl ?_
              refine m_iinc dX12_firstOf_201 rfl (by decide) rfl rfl (by omega) ?_
              refine m_goto (tgt := 14) dX12_firstOf_204 (by decide) ?_
              have z := fun l7 l8 l9 l10 => ih (m + 1) L l7 l8 l9 l10 (by omega) (by omega) hL
              first
              | exact absurd c189 (by decide)
              | (have e9 := pick_yes (RK := RK) (HI := HI) hcd hbet; rw [e9] at z; exact z _ _ _ _)
              | (have z0 := bI_ne0 c189
                 have e9 := pick_yes (RK := RK) (HI := HI) hcd (Or.inr (by rw [epn, Int.toNat_natCast]; exact z0)); rw [e9] at z; exact z _ _ _ _)
              | (have z0 := bI_eq0 c189
                 have e9 := pick_no (RK := RK) (HI := HI) (NX := NX) (WS := WS) (NT := NT) (TO := TO) (WD := WD) (KD := KD) (D := D) (o := o) (v := v) (m := m) (fun y => by
                   rcases y.2 with y | y
                   · exact c102 y
                   · rw [epn, Int.toNat_natCast] at y; exact z0 y)
                 rw [e9, epn] at z; exact z _ _ _ _)
            · refine m_iload dX12_firstOf_192 rfl ?_
              refine m_goto (tgt := 199) dX12_firstOf_194 (by decide) ?_
              refine m_istore dX12_firstOf_199 (by decide) rfl rfl ?_
              refine m_iinc dX12_firstOf_201 rfl (by decide) rfl rfl (by omega) ?_
              refine m_goto (tgt := 14) dX12_firstOf_204 (by decide) ?_
              have z := fun l7 l8 l9 l10 => ih (m + 1) L l7 l8 l9 l10 (by omega) (by omega) hL
              first
              | exact absurd c189 (by decide)
              | (have e9 := pick_yes (RK := RK) (HI := HI) hcd hbet; rw [e9] at z; exact z _ _ _ _)
              | (have z0 := bI_ne0 c189
                 have e9 := pick_yes (RK := RK) (HI := HI) hcd (Or.inr (by rw [epn, Int.toNat_natCast]; exact z0)); rw [e9] at z; exact z _ _ _ _)
              | (have z0 := bI_eq0 c189
                 have e9 := pick_no (RK := RK) (HI := HI) (NX := NX) (WS := WS) (NT := NT) (TO := TO) (WD := WD) (KD := KD) (D := D) (o := o) (v := v) (m := m) (fun y => by
                   rcases y.2 with y | y
                   · exact c102 y
                   · rw [epn, Int.toNat_natCast] at y; exact z0 y)
                 rw [e9, epn] at z; exact z _ _ _ _)
      refine m_iload dX12_firstOf_14 rfl ?_
      refine m_aload_n dX12_firstOf_16 rfl ?_
      refine m_gi (z := 13) dX12_firstOf_17 fl_X12_130 oX_100 rfl rfl ?_
      rw [c13]
      refine m_icmp_ge (tgt := 207) dX12_firstOf_20 (by decide) (fun c20 => ?_) (fun c20 => ?_)
      · exact absurd (show m = nm by omega) hend
      · refine m_bipush dX12_firstOf_23 rfl (by decide) ?_
        refine m_iload dX12_firstOf_25 rfl ?_
        refine m_imul dX12_firstOf_27 (by omega) ?_
        refine m_istore dX12_firstOf_28 (by decide) rfl rfl ?_
        refine m_aload_n dX12_firstOf_30 rfl ?_
        refine m_gr (z := 15) dX12_firstOf_31 fl_X12_42 oX_100 rfl rfl rX_100_15 ?_
        refine m_iload dX12_firstOf_34 rfl ?_
        refine m_iald dX12_firstOf_36 sX_110 (by omega) (by omega) ?_
        rw [hL 110 (by decide), e0]
        refine m_if_ne (tgt := 91) dX12_firstOf_37 (by decide) (fun c37 => ?_) (fun c37 => ?_)
        · have hn : ¬ cand NX WS NT TO WD KD D o v m := fun z => c37 z.1
          refine m_iconst dX12_firstOf_91 (by decide) ?_
          first | exact K0 _ _ _ _ _ hL (pick_no (fun z => hn z.1)) | exact K0 _ _ _ _ _ hL2 (pick_no (fun z => hn z.1))
        · refine m_aload_n dX12_firstOf_40 rfl ?_
          refine m_gr (z := 15) dX12_firstOf_41 fl_X12_42 oX_100 rfl rfl rX_100_15 ?_
          refine m_iload dX12_firstOf_44 rfl ?_
          refine m_iconst dX12_firstOf_46 (by decide) ?_
          refine m_iadd dX12_firstOf_47 (by omega) ?_
          refine m_iald dX12_firstOf_48 sX_110 (by omega) (by omega) ?_
          rw [hL 110 (by decide), e1]
          refine m_iload_n dX12_firstOf_49 rfl ?_
          refine m_icmp_ne (tgt := 91) dX12_firstOf_50 (by decide) (fun c50 => ?_) (fun c50 => ?_)
          · have hn : ¬ cand NX WS NT TO WD KD D o v m := fun z => c50 z.2.1
            refine m_iconst dX12_firstOf_91 (by decide) ?_
            first | exact K0 _ _ _ _ _ hL (pick_no (fun z => hn z.1)) | exact K0 _ _ _ _ _ hL2 (pick_no (fun z => hn z.1))
          · refine m_aload_n dX12_firstOf_53 rfl ?_
            refine m_iload dX12_firstOf_54 rfl ?_
            refine m_iload_n dX12_firstOf_56 rfl ?_
            refine m_VI [_, _] dX12_firstOf_57 lk_X12_190 rfl oX_100 rfl (Nat.le_of_ble_eq_true rfl) (by omega) (y_nextFor (D := D) (by omega) (MdI_fr (FrG_112 hL) hM) (fun j hj => by rw [stM_fr (hL 110 (by decide))]; exact hD j hj) (by rw [hL 100 (by decide)]; exact hm) (by omega)) ?_
            intro r57 I57 q57
            obtain ⟨rfl, w1⟩ := q57
            have hL2 : Fr112 I I57 := fun x hx => (w1 x hx).trans (hL x hx)
            have hM2 := MdI_fr (FrG_112 hL2) hM
            have m117 : I57 117 = I 117 := hL2 117 (by decide)
            obtain ⟨⟨gT, gW, gK, gH⟩, -⟩ := hM2.2.2.2.2.2.2.2 m (by omega)
            refine m_iload_n dX12_firstOf_60 rfl ?_
            refine m_icmp_ne (tgt := 91) dX12_firstOf_61 (by decide) (fun c61 => ?_) (fun c61 => ?_)
            · have hn : ¬ cand NX WS NT TO WD KD D o v m := fun z => by
                rw [if_pos ⟨z.1, z.2.2.1⟩] at c61
                exact c61 z.2.2.2.1
              refine m_iconst dX12_firstOf_91 (by decide) ?_
              first | exact K0 _ _ _ _ _ hL (pick_no (fun z => hn z.1)) | exact K0 _ _ _ _ _ hL2 (pick_no (fun z => hn z.1))
            · have hcc : D m 1 ≠ TO m ∧ nxtM NX WS TO WD KD m (D m) = v := by
                by_cases y : D m 0 = 0 ∧ D m 1 ≠ TO m
                · rw [if_pos y] at c61; exact ⟨y.2, c61⟩
                · rw [if_neg y] at c61; omega
              refine m_aload_n dX12_firstOf_64 rfl ?_
              refine m_gr (z := 14) dX12_firstOf_65 fl_X12_39 oX_100 rfl rfl rX_100_14 ?_
              refine m_iload dX12_firstOf_68 rfl ?_
              refine m_iconst dX12_firstOf_70 (by decide) ?_
              refine m_iadd dX12_firstOf_71 (by omega) ?_
              refine m_iald dX12_firstOf_72 sX_109 (by omega) (by omega) ?_
              rw [gK]
              refine m_iconst dX12_firstOf_73 (by decide) ?_
              refine m_icmp_ne (tgt := 87) dX12_firstOf_74 (by decide) (fun c74 => ?_) (fun c74 => ?_)
              · have hcd : cand NX WS NT TO WD KD D o v m := ⟨c37, c50, hcc.1, hcc.2, Or.inl c74⟩
                refine m_iconst dX12_firstOf_87 (by decide) ?_
                refine m_goto (tgt := 92) dX12_firstOf_88 (by decide) ?_
                exact K1 _ _ _ _ hL2 hcd
              · refine m_aload_n dX12_firstOf_77 rfl ?_
                refine m_iload dX12_firstOf_78 rfl ?_
                refine m_iload_n dX12_firstOf_80 rfl ?_
                refine m_Vi [_, _] dX12_firstOf_81 lk_X12_193 rfl oX_100 rfl (Nat.le_of_ble_eq_true rfl) (by omega) (y_isNight (by omega) hM2.1.2.1 ⟨by omega, by omega⟩ hM.1.2.2.2.2.2.2.2.2.1) ?_
                refine m_if_eq (tgt := 91) dX12_firstOf_84 (by decide) (fun c84 => ?_) (fun c84 => ?_)
                · have hn : ¬ cand NX WS NT TO WD KD D o v m := fun z => by
                    rcases z.2.2.2.2 with y | y
                    · exact y c74
                    · exact bP_eq0 c84 ((hM2.2.2.2.2.2.1 o ho.1 ho.2).mpr (by exact y) |> fun y => by rw [m117, ← hq] at y; exact y)
                  refine m_iconst dX12_firstOf_91 (by decide) ?_
                  first | exact K0 _ _ _ _ _ hL (pick_no (fun z => hn z.1)) | exact K0 _ _ _ _ _ hL2 (pick_no (fun z => hn z.1))
                · have hcd : cand NX WS NT TO WD KD D o v m := ⟨c37, c50, hcc.1, hcc.2, Or.inr ((hM2.2.2.2.2.2.1 o ho.1 ho.2).mp (by rw [m117, ← hq]; exact bP_ne0 c84))⟩
                  refine m_iconst dX12_firstOf_87 (by decide) ?_
                  refine m_goto (tgt := 92) dX12_firstOf_88 (by decide) ?_
                  exact K1 _ _ _ _ hL2 hcd
theorem y_firstOf {o v tt : Int} (hd : 4 ≤ d) (hM : MdI I nm no2 t A B SPD DB U OP NX WS RK NT TO WD KD HI) (hD : StD I nm D) (hm : DmI D nm (I 100 3) A B tt) (ho : 0 ≤ o ∧ o < 8) (hv : 0 ≤ v) : SI g d mX12_firstOf [vr 100, vi o, vi v, vi t] (shX nm no) (RX nm no) I (fun r L => r = pick NX WS RK NT TO WD KD HI D o v nm ∧ Fr112 I L) := by
  intro Q h
  refine C_of rfl (Nat.le_of_ble_eq_true rfl) rfl ?_
  refine m_aload_n dX12_firstOf_0 rfl ?_
  refine m_iload_n dX12_firstOf_1 rfl ?_
  refine m_iload_n dX12_firstOf_2 rfl ?_
  refine m_Vi [_, _] dX12_firstOf_3 lk_X12_157 rfl oX_100 rfl (Nat.le_of_ble_eq_true rfl) (by omega) (y_ordersOf hM.1.2.1.1 hM.1.2.1.2.1 ho) ?_
  refine m_istore dX12_firstOf_6 (by decide) rfl rfl ?_
  refine m_iconst dX12_firstOf_8 (by decide) ?_
  refine m_istore dX12_firstOf_9 (by decide) rfl rfl ?_
  refine m_iconst dX12_firstOf_11 (by decide) ?_
  refine m_istore dX12_firstOf_12 (by decide) rfl rfl ?_
  exact y_first_loop hd hM hD hm ho hv rfl (fun L hL => h _ L ⟨rfl, hL⟩) (nm + 1) 0 I _ _ _ _ (by omega) (by omega) (fun _ _ => rfl)
theorem y_sendFrom {o v tt : Int} (hd : 5 ≤ d) (hM : MdI I nm no2 t A B SPD DB U OP NX WS RK NT TO WD KD HI) (hD : StD I nm D) (hm : DmI D nm (I 100 3) A B tt) (ho : 0 ≤ o ∧ o < 8) (hv : 0 ≤ v ∧ v < I 100 3) : SV g d mX12_sendFrom [vr 100, vi v, vi o, vi t] (shX nm no) (RX nm no) I (fun J => FrG I J ∧ StD J nm (sendF nm t A B SPD DB NX WS RK NT TO WD KD HI D o v)) := by
  have h24 := hM.1.2.2.2.2.2.2.2.1
  have ht0 := hM.1.2.2.2.2.2.2.2.2
  have hW := hM.1.1.1
  have hvk := hM.1.1.2.2.2 v hv.1 hv.2
  intro Q h
  refine C_of rfl (Nat.le_of_ble_eq_true rfl) rfl ?_
  refine m_aload_n dX12_sendFrom_0 rfl ?_
  refine m_iload_n dX12_sendFrom_1 rfl ?_
  refine m_iload_n dX12_sendFrom_2 rfl ?_
  refine m_Vi [_, _] dX12_sendFrom_3 lk_X12_199 rfl oX_100 rfl (Nat.le_of_ble_eq_true rfl) (by omega) (y_isBusy (D := D) hM.1.2.2.2.2.2.2.1 h24 hD) ?_
  refine m_if_ne (tgt := 32) dX12_sendFrom_6 (by decide) (fun c6 => ?_) (fun c6 => ?_)
  · have z6 := bP_ne0 c6
    have hsf : sendF nm t A B SPD DB NX WS RK NT TO WD KD HI D o v = D := cif_t (Or.inl z6)
    refine m_vret dX12_sendFrom_32 rfl ?_
    rw [hsf] at h
    exact h I ⟨FrG_rf, hD⟩
  · have z6 := bP_eq0 (show _ = (0 : Int) by omega)
    refine m_aload_n dX12_sendFrom_9 rfl ?_
    refine m_gr (z := 7) dX12_sendFrom_10 fl_X12_25 oX_100 rfl rfl rX_100_7 ?_
    refine m_iload_n dX12_sendFrom_13 rfl ?_
    refine m_zald dX12_sendFrom_14 sX_106 (by omega) (by omega) ?_
    rw [hM.1.2.2.2.2.2.1]
    refine m_if_ne (tgt := 33) dX12_sendFrom_15 (by decide) (fun c15 => ?_) (fun c15 => ?_)
    · refine m_aload_n dX12_sendFrom_33 rfl ?_
      refine m_iload_n dX12_sendFrom_34 rfl ?_
      refine m_iload_n dX12_sendFrom_35 rfl ?_
      refine m_iload_n dX12_sendFrom_36 rfl ?_
      refine m_VI [_, _, _] dX12_sendFrom_37 lk_X12_202 rfl oX_100 rfl (Nat.le_of_ble_eq_true rfl) (by omega) (y_firstOf (D := D) (by omega) hM hD hm ho hv.1) ?_
      intro r37 I37 q37
      obtain ⟨rfl, w1⟩ := q37
      have pb := pick_bd (NX := NX) (WS := WS) (RK := RK) (NT := NT) (TO := TO) (WD := WD) (KD := KD) (HI := HI) D o v nm
      refine m_istore dX12_sendFrom_40 (by decide) rfl rfl ?_
      refine m_iload dX12_sendFrom_42 rfl ?_
      refine m_iconst dX12_sendFrom_44 (by decide) ?_
      refine m_icmp_eq (tgt := 117) dX12_sendFrom_45 (by decide) (fun c45 => ?_) (fun c45 => ?_)
      · have hsf : sendF nm t A B SPD DB NX WS RK NT TO WD KD HI D o v = D := by
          unfold sendF
          rw [cif_f (by first | exact hnb | exact (fun z => z.elim z6 (fun y => c15 y.1))), if_pos c45]
        refine m_vret dX12_sendFrom_117 rfl ?_
        first
        | (rw [hsf] at h; exact h I37 ⟨FrG_112 w1, fun j hj => by rw [stM_fr (w1 110 (by decide))]; exact hD j hj⟩)
        | (refine h _ ⟨fun x a b => by rw [upI_o a, upI_o a, upI_o a]; exact w1 x b, fun j hj => ?_⟩
           have hsf : sendF nm t A B SPD DB NX WS RK NT TO WD KD HI D o v = upD D pn (mk6 1 (D pn 1) v (t + (WS o (WD pn) (KD pn) + SPD v - 1) / SPD v) (D pn 4) (D pn 5)) := (by
             unfold sendF
             rw [cif_f (by first | exact hnb | exact (fun z => z.elim z6 (fun y => c15 y.1))), if_neg c45, epn, Int.toNat_natCast])
           rw [hsf]
           by_cases e : j = pn
           · subst e
             rw [upD_s]
             unfold stM
             have r0 : upI (upI (upI I37 110 (6 * (j : Int)) 1) 110 (6 * (j : Int) + 2) v) 110 (6 * (j : Int) + 3) (t + (WS o (WD j) (KD j) + SPD v - 1) / SPD v) 110 (6 * (j : Int)) = 1 := by rw [upI_j (by omega), upI_j (by omega), upI_s]
             rw [r0, if_pos rfl, upI_s, upI_j (show 6 * (j : Int) + 1 ≠ 6 * (j : Int) + 3 by omega), upI_j (show 6 * (j : Int) + 1 ≠ 6 * (j : Int) + 2 by omega), upI_j (show 6 * (j : Int) + 1 ≠ 6 * (j : Int) by omega), upI_j (show 6 * (j : Int) + 2 ≠ 6 * (j : Int) + 3 by omega), upI_s, upI_j (show 6 * (j : Int) + 4 ≠ 6 * (j : Int) + 3 by omega), upI_j (show 6 * (j : Int) + 4 ≠ 6 * (j : Int) + 2 by omega), upI_j (show 6 * (j : Int) + 4 ≠ 6 * (j : Int) by omega), upI_j (show 6 * (j : Int) + 5 ≠ 6 * (j : Int) + 3 by omega), upI_j (show 6 * (j : Int) + 5 ≠ 6 * (j : Int) + 2 by omega), upI_j (show 6 * (j : Int) + 5 ≠ 6 * (j : Int) by omega), e1, e4, e5]
           · rw [upD_n e, ← hD2 j hj]
             unfold stM
             rw [upI_j (show 6 * (j : Int) ≠ 6 * (pn : Int) + 3 by omega), upI_j (show 6 * (j : Int) ≠ 6 * (pn : Int) + 2 by omega), upI_j (show 6 * (j : Int) ≠ 6 * (pn : Int) by omega), upI_j (show 6 * (j : Int) + 1 ≠ 6 * (pn : Int) + 3 by omega), upI_j (show 6 * (j : Int) + 1 ≠ 6 * (pn : Int) + 2 by omega), upI_j (show 6 * (j : Int) + 1 ≠ 6 * (pn : Int) by omega), upI_j (show 6 * (j : Int) + 2 ≠ 6 * (pn : Int) + 3 by omega), upI_j (show 6 * (j : Int) + 2 ≠ 6 * (pn : Int) + 2 by omega), upI_j (show 6 * (j : Int) + 2 ≠ 6 * (pn : Int) by omega), upI_j (show 6 * (j : Int) + 3 ≠ 6 * (pn : Int) + 3 by omega), upI_j (show 6 * (j : Int) + 3 ≠ 6 * (pn : Int) + 2 by omega), upI_j (show 6 * (j : Int) + 3 ≠ 6 * (pn : Int) by omega), upI_j (show 6 * (j : Int) + 4 ≠ 6 * (pn : Int) + 3 by omega), upI_j (show 6 * (j : Int) + 4 ≠ 6 * (pn : Int) + 2 by omega), upI_j (show 6 * (j : Int) + 4 ≠ 6 * (pn : Int) by omega), upI_j (show 6 * (j : Int) + 5 ≠ 6 * (pn : Int) + 3 by omega), upI_j (show 6 * (j : Int) + 5 ≠ 6 * (pn : Int) + 2 by omega), upI_j (show 6 * (j : Int) + 5 ≠ 6 * (pn : Int) by omega)])
      · obtain ⟨pn, epn⟩ : ∃ pn : Nat, pick NX WS RK NT TO WD KD HI D o v nm = pn := ⟨(pick NX WS RK NT TO WD KD HI D o v nm).toNat, by omega⟩
        have hD2 : StD I37 nm D := fun j hj => by rw [stM_fr (w1 110 (by decide))]; exact hD j hj
        obtain ⟨e0, e1, e2, e3, e4, e5⟩ := stM_at (hD2 pn (by omega))
        rw [epn]
        have hG3 : FrG I (upI (upI I37 110 (6 * (pn : Int)) 1) 110 (6 * (pn : Int) + 2) v) := fun x a b => by rw [upI_o a, upI_o a]; exact w1 x b
        have hM3 := MdI_fr hG3 hM
        obtain ⟨⟨fT, fW, fK, fH⟩, fT2⟩ := hM3.2.2.2.2.2.2.2 pn (by omega)
        have gW : I37 109 (6 * (pn : Int) + 2) = WD pn := fW
        have gK : I37 109 (6 * (pn : Int) + 3) = KD pn := fK
        have ob3 := obF_bd ((upI (upI I37 110 (6 * (pn : Int)) 1) 110 (6 * (pn : Int) + 2) v) 117) o t no2
        have hWS := hM3.2.2.2.1 o ho.1 ho.2 (WD pn) (KD pn) fT2.2.1.1 fT2.2.1.2 fT2.2.2.1 fT2.2.2.2
        have hws : 1 ≤ WS o (WD pn) (KD pn) ∧ WS o (WD pn) (KD pn) ≤ 198 := by
          rw [← hWS]; unfold wsO
          by_cases z : twO (upI (upI I37 110 (6 * (pn : Int)) 1) 110 (6 * (pn : Int) + 2) v) (obF ((upI (upI I37 110 (6 * (pn : Int)) 1) 110 (6 * (pn : Int) + 2) v) 117) o t no2) (KD pn)
          · rw [cif_t z]; omega
          · rw [cif_f z]; omega
        have hkk := tk_bd (n := WS o (WD pn) (KD pn)) (s := I 105 v) hws.1 hvk.2.2.2.1.1
        rw [hM.1.2.2.2.2.1] at hkk
        refine m_bipush dX12_sendFrom_48 rfl (by decide) ?_
        refine m_iload dX12_sendFrom_50 rfl ?_
        refine m_imul dX12_sendFrom_52 (by omega) ?_
        refine m_istore dX12_sendFrom_53 (by decide) rfl rfl ?_
        refine m_aload_n dX12_sendFrom_55 rfl ?_
        refine m_gr (z := 15) dX12_sendFrom_56 fl_X12_42 oX_100 rfl rfl rX_100_15 ?_
        refine m_iload dX12_sendFrom_59 rfl ?_
        refine m_iconst dX12_sendFrom_61 (by decide) ?_
        refine m_iast dX12_sendFrom_62 sX_110 (by omega) (by omega) ?_
        refine m_aload_n dX12_sendFrom_63 rfl ?_
        refine m_gr (z := 15) dX12_sendFrom_64 fl_X12_42 oX_100 rfl rfl rX_100_15 ?_
        refine m_iload dX12_sendFrom_67 rfl ?_
        refine m_iconst dX12_sendFrom_69 (by decide) ?_
        refine m_iadd dX12_sendFrom_70 (by omega) ?_
        refine m_iload_n dX12_sendFrom_71 rfl ?_
        refine m_iast dX12_sendFrom_72 sX_110 (by omega) (by omega) ?_
        refine m_aload_n dX12_sendFrom_73 rfl ?_
        refine m_gr (z := 15) dX12_sendFrom_74 fl_X12_42 oX_100 rfl rfl rX_100_15 ?_
        refine m_iload dX12_sendFrom_77 rfl ?_
        refine m_iconst dX12_sendFrom_79 (by decide) ?_
        refine m_iadd dX12_sendFrom_80 (by omega) ?_
        refine m_iload_n dX12_sendFrom_81 rfl ?_
        refine m_aload_n dX12_sendFrom_82 rfl ?_
        refine m_iload_n dX12_sendFrom_83 rfl ?_
        refine m_aload_n dX12_sendFrom_84 rfl ?_
        refine m_aload_n dX12_sendFrom_85 rfl ?_
        refine m_gr (z := 14) dX12_sendFrom_86 fl_X12_39 oX_100 rfl rfl rX_100_14 ?_
        refine m_iload dX12_sendFrom_89 rfl ?_
        refine m_iconst dX12_sendFrom_91 (by decide) ?_
        refine m_iadd dX12_sendFrom_92 (by omega) ?_
        refine m_iald dX12_sendFrom_93 sX_109 (by omega) (by omega) ?_
        rw [upI_o (show (109 : Nat) ≠ 110 by omega), upI_o (show (109 : Nat) ≠ 110 by omega)]
        rw [gW]
        refine m_aload_n dX12_sendFrom_94 rfl ?_
        refine m_gr (z := 14) dX12_sendFrom_95 fl_X12_39 oX_100 rfl rfl rX_100_14 ?_
        refine m_iload dX12_sendFrom_98 rfl ?_
        refine m_iconst dX12_sendFrom_100 (by decide) ?_
        refine m_iadd dX12_sendFrom_101 (by omega) ?_
        refine m_iald dX12_sendFrom_102 sX_109 (by omega) (by omega) ?_
        rw [upI_o (show (109 : Nat) ≠ 110 by omega), upI_o (show (109 : Nat) ≠ 110 by omega)]
        rw [gK]
        refine m_aload_n dX12_sendFrom_103 rfl ?_
        refine m_iload_n dX12_sendFrom_104 rfl ?_
        refine m_iload_n dX12_sendFrom_105 rfl ?_
        refine m_Vi [_, _] dX12_sendFrom_106 lk_X12_157 rfl oX_100 rfl (Nat.le_of_ble_eq_true rfl) (by omega) (y_ordersOf hM3.1.2.1.1 hM3.1.2.1.2.1 ho) ?_
        refine m_Vi [_, _, _] dX12_sendFrom_109 lk_X12_180 rfl oX_100 rfl (Nat.le_of_ble_eq_true rfl) (by omega) (y_wordsOf (by omega) hM3.1.2.1 ⟨by omega, by omega⟩ ⟨by omega, by omega⟩) ?_
        rw [hWS]
        refine m_Vi [_, _] dX12_sendFrom_112 lk_X12_171 rfl oX_100 rfl (Nat.le_of_ble_eq_true rfl) (by omega) (y_takes ⟨by omega, by omega⟩ (by rw [hM3.1.2.2.2.2.1, ← hM.1.2.2.2.2.1]; exact hvk.2.2.2.1) ⟨by omega, by omega⟩) ?_
        rw [hM3.1.2.2.2.2.1]
        refine m_iadd dX12_sendFrom_115 (by omega) ?_
        refine m_iast dX12_sendFrom_116 sX_110 (by omega) (by omega) ?_
        refine m_vret dX12_sendFrom_117 rfl ?_
        first
        | (rw [hsf] at h; exact h I37 ⟨FrG_112 w1, fun j hj => by rw [stM_fr (w1 110 (by decide))]; exact hD j hj⟩)
        | (refine h _ ⟨fun x a b => by rw [upI_o a, upI_o a, upI_o a]; exact w1 x b, fun j hj => ?_⟩
           have hsf : sendF nm t A B SPD DB NX WS RK NT TO WD KD HI D o v = upD D pn (mk6 1 (D pn 1) v (t + (WS o (WD pn) (KD pn) + SPD v - 1) / SPD v) (D pn 4) (D pn 5)) := (by
             unfold sendF
             rw [cif_f (by first | exact hnb | exact (fun z => z.elim z6 (fun y => c15 y.1))), if_neg c45, epn, Int.toNat_natCast])
           rw [hsf]
           by_cases e : j = pn
           · subst e
             rw [upD_s]
             unfold stM
             have r0 : upI (upI (upI I37 110 (6 * (j : Int)) 1) 110 (6 * (j : Int) + 2) v) 110 (6 * (j : Int) + 3) (t + (WS o (WD j) (KD j) + SPD v - 1) / SPD v) 110 (6 * (j : Int)) = 1 := by rw [upI_j (by omega), upI_j (by omega), upI_s]
             rw [r0, if_pos rfl, upI_s, upI_j (show 6 * (j : Int) + 1 ≠ 6 * (j : Int) + 3 by omega), upI_j (show 6 * (j : Int) + 1 ≠ 6 * (j : Int) + 2 by omega), upI_j (show 6 * (j : Int) + 1 ≠ 6 * (j : Int) by omega), upI_j (show 6 * (j : Int) + 2 ≠ 6 * (j : Int) + 3 by omega), upI_s, upI_j (show 6 * (j : Int) + 4 ≠ 6 * (j : Int) + 3 by omega), upI_j (show 6 * (j : Int) + 4 ≠ 6 * (j : Int) + 2 by omega), upI_j (show 6 * (j : Int) + 4 ≠ 6 * (j : Int) by omega), upI_j (show 6 * (j : Int) + 5 ≠ 6 * (j : Int) + 3 by omega), upI_j (show 6 * (j : Int) + 5 ≠ 6 * (j : Int) + 2 by omega), upI_j (show 6 * (j : Int) + 5 ≠ 6 * (j : Int) by omega), e1, e4, e5]
           · rw [upD_n e, ← hD2 j hj]
             unfold stM
             rw [upI_j (show 6 * (j : Int) ≠ 6 * (pn : Int) + 3 by omega), upI_j (show 6 * (j : Int) ≠ 6 * (pn : Int) + 2 by omega), upI_j (show 6 * (j : Int) ≠ 6 * (pn : Int) by omega), upI_j (show 6 * (j : Int) + 1 ≠ 6 * (pn : Int) + 3 by omega), upI_j (show 6 * (j : Int) + 1 ≠ 6 * (pn : Int) + 2 by omega), upI_j (show 6 * (j : Int) + 1 ≠ 6 * (pn : Int) by omega), upI_j (show 6 * (j : Int) + 2 ≠ 6 * (pn : Int) + 3 by omega), upI_j (show 6 * (j : Int) + 2 ≠ 6 * (pn : Int) + 2 by omega), upI_j (show 6 * (j : Int) + 2 ≠ 6 * (pn : Int) by omega), upI_j (show 6 * (j : Int) + 3 ≠ 6 * (pn : Int) + 3 by omega), upI_j (show 6 * (j : Int) + 3 ≠ 6 * (pn : Int) + 2 by omega), upI_j (show 6 * (j : Int) + 3 ≠ 6 * (pn : Int) by omega), upI_j (show 6 * (j : Int) + 4 ≠ 6 * (pn : Int) + 3 by omega), upI_j (show 6 * (j : Int) + 4 ≠ 6 * (pn : Int) + 2 by omega), upI_j (show 6 * (j : Int) + 4 ≠ 6 * (pn : Int) by omega), upI_j (show 6 * (j : Int) + 5 ≠ 6 * (pn : Int) + 3 by omega), upI_j (show 6 * (j : Int) + 5 ≠ 6 * (pn : Int) + 2 by omega), upI_j (show 6 * (j : Int) + 5 ≠ 6 * (pn : Int) by omega)])
    · have hdb : DB v = 0 := by omega
      refine m_aload_n dX12_sendFrom_18 rfl ?_
      refine m_iload_n dX12_sendFrom_19 rfl ?_
      refine m_aload_n dX12_sendFrom_20 rfl ?_
      refine m_iload_n dX12_sendFrom_21 rfl ?_
      refine m_iload_n dX12_sendFrom_22 rfl ?_
      refine m_Vi [_, _] dX12_sendFrom_23 lk_X12_168 rfl oX_100 rfl (Nat.le_of_ble_eq_true rfl) (by omega) (y_otherEnd ⟨by omega, by omega⟩) ?_
      rw [hM.1.2.2.1, hM.1.2.2.2.1]
      refine m_Vi [_, _] dX12_sendFrom_26 lk_X12_199 rfl oX_100 rfl (Nat.le_of_ble_eq_true rfl) (by omega) (y_isBusy (D := D) hM.1.2.2.2.2.2.2.1 h24 hD) ?_
      refine m_if_eq (tgt := 33) dX12_sendFrom_29 (by decide) (fun c29 => ?_) (fun c29 => ?_)
      · have z29 := bP_eq0 c29
        have hnb : ¬ (busy nm D v o ∨ (DB v = 0 ∧ busy nm D v (othF A B v o))) := fun z => z.elim z6 (fun y => z29 y.2)
        refine m_aload_n dX12_sendFrom_33 rfl ?_
        refine m_iload_n dX12_sendFrom_34 rfl ?_
        refine m_iload_n dX12_sendFrom_35 rfl ?_
        refine m_iload_n dX12_sendFrom_36 rfl ?_
        refine m_VI [_, _, _] dX12_sendFrom_37 lk_X12_202 rfl oX_100 rfl (Nat.le_of_ble_eq_true rfl) (by omega) (y_firstOf (D := D) (by omega) hM hD hm ho hv.1) ?_
        intro r37 I37 q37
        obtain ⟨rfl, w1⟩ := q37
        have pb := pick_bd (NX := NX) (WS := WS) (RK := RK) (NT := NT) (TO := TO) (WD := WD) (KD := KD) (HI := HI) D o v nm
        refine m_istore dX12_sendFrom_40 (by decide) rfl rfl ?_
        refine m_iload dX12_sendFrom_42 rfl ?_
        refine m_iconst dX12_sendFrom_44 (by decide) ?_
        refine m_icmp_eq (tgt := 117) dX12_sendFrom_45 (by decide) (fun c45 => ?_) (fun c45 => ?_)
        · have hsf : sendF nm t A B SPD DB NX WS RK NT TO WD KD HI D o v = D := by
            unfold sendF
            rw [cif_f (by first | exact hnb | exact (fun z => z.elim z6 (fun y => c15 y.1))), if_pos c45]
          refine m_vret dX12_sendFrom_117 rfl ?_
          first
          | (rw [hsf] at h; exact h I37 ⟨FrG_112 w1, fun j hj => by rw [stM_fr (w1 110 (by decide))]; exact hD j hj⟩)
          | (refine h _ ⟨fun x a b => by rw [upI_o a, upI_o a, upI_o a]; exact w1 x b, fun j hj => ?_⟩
             have hsf : sendF nm t A B SPD DB NX WS RK NT TO WD KD HI D o v = upD D pn (mk6 1 (D pn 1) v (t + (WS o (WD pn) (KD pn) + SPD v - 1) / SPD v) (D pn 4) (D pn 5)) := (by
               unfold sendF
               rw [cif_f (by first | exact hnb | exact (fun z => z.elim z6 (fun y => c15 y.1))), if_neg c45, epn, Int.toNat_natCast])
             rw [hsf]
             by_cases e : j = pn
             · subst e
               rw [upD_s]
               unfold stM
               have r0 : upI (upI (upI I37 110 (6 * (j : Int)) 1) 110 (6 * (j : Int) + 2) v) 110 (6 * (j : Int) + 3) (t + (WS o (WD j) (KD j) + SPD v - 1) / SPD v) 110 (6 * (j : Int)) = 1 := by rw [upI_j (by omega), upI_j (by omega), upI_s]
               rw [r0, if_pos rfl, upI_s, upI_j (show 6 * (j : Int) + 1 ≠ 6 * (j : Int) + 3 by omega), upI_j (show 6 * (j : Int) + 1 ≠ 6 * (j : Int) + 2 by omega), upI_j (show 6 * (j : Int) + 1 ≠ 6 * (j : Int) by omega), upI_j (show 6 * (j : Int) + 2 ≠ 6 * (j : Int) + 3 by omega), upI_s, upI_j (show 6 * (j : Int) + 4 ≠ 6 * (j : Int) + 3 by omega), upI_j (show 6 * (j : Int) + 4 ≠ 6 * (j : Int) + 2 by omega), upI_j (show 6 * (j : Int) + 4 ≠ 6 * (j : Int) by omega), upI_j (show 6 * (j : Int) + 5 ≠ 6 * (j : Int) + 3 by omega), upI_j (show 6 * (j : Int) + 5 ≠ 6 * (j : Int) + 2 by omega), upI_j (show 6 * (j : Int) + 5 ≠ 6 * (j : Int) by omega), e1, e4, e5]
             · rw [upD_n e, ← hD2 j hj]
               unfold stM
               rw [upI_j (show 6 * (j : Int) ≠ 6 * (pn : Int) + 3 by omega), upI_j (show 6 * (j : Int) ≠ 6 * (pn : Int) + 2 by omega), upI_j (show 6 * (j : Int) ≠ 6 * (pn : Int) by omega), upI_j (show 6 * (j : Int) + 1 ≠ 6 * (pn : Int) + 3 by omega), upI_j (show 6 * (j : Int) + 1 ≠ 6 * (pn : Int) + 2 by omega), upI_j (show 6 * (j : Int) + 1 ≠ 6 * (pn : Int) by omega), upI_j (show 6 * (j : Int) + 2 ≠ 6 * (pn : Int) + 3 by omega), upI_j (show 6 * (j : Int) + 2 ≠ 6 * (pn : Int) + 2 by omega), upI_j (show 6 * (j : Int) + 2 ≠ 6 * (pn : Int) by omega), upI_j (show 6 * (j : Int) + 3 ≠ 6 * (pn : Int) + 3 by omega), upI_j (show 6 * (j : Int) + 3 ≠ 6 * (pn : Int) + 2 by omega), upI_j (show 6 * (j : Int) + 3 ≠ 6 * (pn : Int) by omega), upI_j (show 6 * (j : Int) + 4 ≠ 6 * (pn : Int) + 3 by omega), upI_j (show 6 * (j : Int) + 4 ≠ 6 * (pn : Int) + 2 by omega), upI_j (show 6 * (j : Int) + 4 ≠ 6 * (pn : Int) by omega), upI_j (show 6 * (j : Int) + 5 ≠ 6 * (pn : Int) + 3 by omega), upI_j (show 6 * (j : Int) + 5 ≠ 6 * (pn : Int) + 2 by omega), upI_j (show 6 * (j : Int) + 5 ≠ 6 * (pn : Int) by omega)])
        · obtain ⟨pn, epn⟩ : ∃ pn : Nat, pick NX WS RK NT TO WD KD HI D o v nm = pn := ⟨(pick NX WS RK NT TO WD KD HI D o v nm).toNat, by omega⟩
          have hD2 : StD I37 nm D := fun j hj => by rw [stM_fr (w1 110 (by decide))]; exact hD j hj
          obtain ⟨e0, e1, e2, e3, e4, e5⟩ := stM_at (hD2 pn (by omega))
          rw [epn]
          have hG3 : FrG I (upI (upI I37 110 (6 * (pn : Int)) 1) 110 (6 * (pn : Int) + 2) v) := fun x a b => by rw [upI_o a, upI_o a]; exact w1 x b
          have hM3 := MdI_fr hG3 hM
          obtain ⟨⟨fT, fW, fK, fH⟩, fT2⟩ := hM3.2.2.2.2.2.2.2 pn (by omega)
          have gW : I37 109 (6 * (pn : Int) + 2) = WD pn := fW
          have gK : I37 109 (6 * (pn : Int) + 3) = KD pn := fK
          have ob3 := obF_bd ((upI (upI I37 110 (6 * (pn : Int)) 1) 110 (6 * (pn : Int) + 2) v) 117) o t no2
          have hWS := hM3.2.2.2.1 o ho.1 ho.2 (WD pn) (KD pn) fT2.2.1.1 fT2.2.1.2 fT2.2.2.1 fT2.2.2.2
          have hws : 1 ≤ WS o (WD pn) (KD pn) ∧ WS o (WD pn) (KD pn) ≤ 198 := by
            rw [← hWS]; unfold wsO
            by_cases z : twO (upI (upI I37 110 (6 * (pn : Int)) 1) 110 (6 * (pn : Int) + 2) v) (obF ((upI (upI I37 110 (6 * (pn : Int)) 1) 110 (6 * (pn : Int) + 2) v) 117) o t no2) (KD pn)
            · rw [cif_t z]; omega
            · rw [cif_f z]; omega
          have hkk := tk_bd (n := WS o (WD pn) (KD pn)) (s := I 105 v) hws.1 hvk.2.2.2.1.1
          rw [hM.1.2.2.2.2.1] at hkk
          refine m_bipush dX12_sendFrom_48 rfl (by decide) ?_
          refine m_iload dX12_sendFrom_50 rfl ?_
          refine m_imul dX12_sendFrom_52 (by omega) ?_
          refine m_istore dX12_sendFrom_53 (by decide) rfl rfl ?_
          refine m_aload_n dX12_sendFrom_55 rfl ?_
          refine m_gr (z := 15) dX12_sendFrom_56 fl_X12_42 oX_100 rfl rfl rX_100_15 ?_
          refine m_iload dX12_sendFrom_59 rfl ?_
          refine m_iconst dX12_sendFrom_61 (by decide) ?_
          refine m_iast dX12_sendFrom_62 sX_110 (by omega) (by omega) ?_
          refine m_aload_n dX12_sendFrom_63 rfl ?_
          refine m_gr (z := 15) dX12_sendFrom_64 fl_X12_42 oX_100 rfl rfl rX_100_15 ?_
          refine m_iload dX12_sendFrom_67 rfl ?_
          refine m_iconst dX12_sendFrom_69 (by decide) ?_
          refine m_iadd dX12_sendFrom_70 (by omega) ?_
          refine m_iload_n dX12_sendFrom_71 rfl ?_
          refine m_iast dX12_sendFrom_72 sX_110 (by omega) (by omega) ?_
          refine m_aload_n dX12_sendFrom_73 rfl ?_
          refine m_gr (z := 15) dX12_sendFrom_74 fl_X12_42 oX_100 rfl rfl rX_100_15 ?_
          refine m_iload dX12_sendFrom_77 rfl ?_
          refine m_iconst dX12_sendFrom_79 (by decide) ?_
          refine m_iadd dX12_sendFrom_80 (by omega) ?_
          refine m_iload_n dX12_sendFrom_81 rfl ?_
          refine m_aload_n dX12_sendFrom_82 rfl ?_
          refine m_iload_n dX12_sendFrom_83 rfl ?_
          refine m_aload_n dX12_sendFrom_84 rfl ?_
          refine m_aload_n dX12_sendFrom_85 rfl ?_
          refine m_gr (z := 14) dX12_sendFrom_86 fl_X12_39 oX_100 rfl rfl rX_100_14 ?_
          refine m_iload dX12_sendFrom_89 rfl ?_
          refine m_iconst dX12_sendFrom_91 (by decide) ?_
          refine m_iadd dX12_sendFrom_92 (by omega) ?_
          refine m_iald dX12_sendFrom_93 sX_109 (by omega) (by omega) ?_
          rw [upI_o (show (109 : Nat) ≠ 110 by omega), upI_o (show (109 : Nat) ≠ 110 by omega)]
          rw [gW]
          refine m_aload_n dX12_sendFrom_94 rfl ?_
          refine m_gr (z := 14) dX12_sendFrom_95 fl_X12_39 oX_100 rfl rfl rX_100_14 ?_
          refine m_iload dX12_sendFrom_98 rfl ?_
          refine m_iconst dX12_sendFrom_100 (by decide) ?_
          refine m_iadd dX12_sendFrom_101 (by omega) ?_
          refine m_iald dX12_sendFrom_102 sX_109 (by omega) (by omega) ?_
          rw [upI_o (show (109 : Nat) ≠ 110 by omega), upI_o (show (109 : Nat) ≠ 110 by omega)]
          rw [gK]
          refine m_aload_n dX12_sendFrom_103 rfl ?_
          refine m_iload_n dX12_sendFrom_104 rfl ?_
          refine m_iload_n dX12_sendFrom_105 rfl ?_
          refine m_Vi [_, _] dX12_sendFrom_106 lk_X12_157 rfl oX_100 rfl (Nat.le_of_ble_eq_true rfl) (by omega) (y_ordersOf hM3.1.2.1.1 hM3.1.2.1.2.1 ho) ?_
          refine m_Vi [_, _, _] dX12_sendFrom_109 lk_X12_180 rfl oX_100 rfl (Nat.le_of_ble_eq_true rfl) (by omega) (y_wordsOf (by omega) hM3.1.2.1 ⟨by omega, by omega⟩ ⟨by omega, by omega⟩) ?_
          rw [hWS]
          refine m_Vi [_, _] dX12_sendFrom_112 lk_X12_171 rfl oX_100 rfl (Nat.le_of_ble_eq_true rfl) (by omega) (y_takes ⟨by omega, by omega⟩ (by rw [hM3.1.2.2.2.2.1, ← hM.1.2.2.2.2.1]; exact hvk.2.2.2.1) ⟨by omega, by omega⟩) ?_
          rw [hM3.1.2.2.2.2.1]
          refine m_iadd dX12_sendFrom_115 (by omega) ?_
          refine m_iast dX12_sendFrom_116 sX_110 (by omega) (by omega) ?_
          refine m_vret dX12_sendFrom_117 rfl ?_
          first
          | (rw [hsf] at h; exact h I37 ⟨FrG_112 w1, fun j hj => by rw [stM_fr (w1 110 (by decide))]; exact hD j hj⟩)
          | (refine h _ ⟨fun x a b => by rw [upI_o a, upI_o a, upI_o a]; exact w1 x b, fun j hj => ?_⟩
             have hsf : sendF nm t A B SPD DB NX WS RK NT TO WD KD HI D o v = upD D pn (mk6 1 (D pn 1) v (t + (WS o (WD pn) (KD pn) + SPD v - 1) / SPD v) (D pn 4) (D pn 5)) := (by
               unfold sendF
               rw [cif_f (by first | exact hnb | exact (fun z => z.elim z6 (fun y => c15 y.1))), if_neg c45, epn, Int.toNat_natCast])
             rw [hsf]
             by_cases e : j = pn
             · subst e
               rw [upD_s]
               unfold stM
               have r0 : upI (upI (upI I37 110 (6 * (j : Int)) 1) 110 (6 * (j : Int) + 2) v) 110 (6 * (j : Int) + 3) (t + (WS o (WD j) (KD j) + SPD v - 1) / SPD v) 110 (6 * (j : Int)) = 1 := by rw [upI_j (by omega), upI_j (by omega), upI_s]
               rw [r0, if_pos rfl, upI_s, upI_j (show 6 * (j : Int) + 1 ≠ 6 * (j : Int) + 3 by omega), upI_j (show 6 * (j : Int) + 1 ≠ 6 * (j : Int) + 2 by omega), upI_j (show 6 * (j : Int) + 1 ≠ 6 * (j : Int) by omega), upI_j (show 6 * (j : Int) + 2 ≠ 6 * (j : Int) + 3 by omega), upI_s, upI_j (show 6 * (j : Int) + 4 ≠ 6 * (j : Int) + 3 by omega), upI_j (show 6 * (j : Int) + 4 ≠ 6 * (j : Int) + 2 by omega), upI_j (show 6 * (j : Int) + 4 ≠ 6 * (j : Int) by omega), upI_j (show 6 * (j : Int) + 5 ≠ 6 * (j : Int) + 3 by omega), upI_j (show 6 * (j : Int) + 5 ≠ 6 * (j : Int) + 2 by omega), upI_j (show 6 * (j : Int) + 5 ≠ 6 * (j : Int) by omega), e1, e4, e5]
             · rw [upD_n e, ← hD2 j hj]
               unfold stM
               rw [upI_j (show 6 * (j : Int) ≠ 6 * (pn : Int) + 3 by omega), upI_j (show 6 * (j : Int) ≠ 6 * (pn : Int) + 2 by omega), upI_j (show 6 * (j : Int) ≠ 6 * (pn : Int) by omega), upI_j (show 6 * (j : Int) + 1 ≠ 6 * (pn : Int) + 3 by omega), upI_j (show 6 * (j : Int) + 1 ≠ 6 * (pn : Int) + 2 by omega), upI_j (show 6 * (j : Int) + 1 ≠ 6 * (pn : Int) by omega), upI_j (show 6 * (j : Int) + 2 ≠ 6 * (pn : Int) + 3 by omega), upI_j (show 6 * (j : Int) + 2 ≠ 6 * (pn : Int) + 2 by omega), upI_j (show 6 * (j : Int) + 2 ≠ 6 * (pn : Int) by omega), upI_j (show 6 * (j : Int) + 3 ≠ 6 * (pn : Int) + 3 by omega), upI_j (show 6 * (j : Int) + 3 ≠ 6 * (pn : Int) + 2 by omega), upI_j (show 6 * (j : Int) + 3 ≠ 6 * (pn : Int) by omega), upI_j (show 6 * (j : Int) + 4 ≠ 6 * (pn : Int) + 3 by omega), upI_j (show 6 * (j : Int) + 4 ≠ 6 * (pn : Int) + 2 by omega), upI_j (show 6 * (j : Int) + 4 ≠ 6 * (pn : Int) by omega), upI_j (show 6 * (j : Int) + 5 ≠ 6 * (pn : Int) + 3 by omega), upI_j (show 6 * (j : Int) + 5 ≠ 6 * (pn : Int) + 2 by omega), upI_j (show 6 * (j : Int) + 5 ≠ 6 * (pn : Int) by omega)])
      · have z29 := bP_ne0 c29
        have hsf : sendF nm t A B SPD DB NX WS RK NT TO WD KD HI D o v = D := cif_t (Or.inr ⟨hdb, z29⟩)
        refine m_vret dX12_sendFrom_32 rfl ?_
        rw [hsf] at h
        exact h I ⟨FrG_rf, hD⟩
end
