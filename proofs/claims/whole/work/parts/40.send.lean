/-! POST: chosen, sendFrom -/
/-- what the memory says of the messages is what the mathematics takes -/
def MsgE (J : II) (nm : Nat) (NX : Int → Int → Int → Int) (WS : Int → Int → Int → Int) (TO WD KD HI : Nat → Int) : Prop := ∀ m : Nat, m < nm → J (200 + m) 0 = TO m ∧ J (200 + m) 1 = WD m ∧ J (200 + m) 2 = KD m ∧ J (200 + m) 4 = HI m ∧ (wtX J m → J (200 + m) 11 = nxtM NX WS TO WD KD m (vX J m) ∧ J (200 + m) 14 = WS (J (200 + m) 6) (WD m) (KD m))
def OffE (J : II) (no : Nat) (t o : Int) (RK : Int → Int → Int) (NT : Int → Prop) : Prop := (∀ k, 0 ≤ k → k < 5 → J (orw (goX J no o t) 0) k = RK o k) ∧ (nightX J (goX J no o t) (t % 1440 / 60) ↔ NT o)
section
variable {g : GH} {d nm no : Nat} {J : II} {NX : Int → Int → Int → Int} {WS : Int → Int → Int → Int} {RK : Int → Int → Int} {NT : Int → Prop} {TO WD KD HI : Nat → Int}
theorem x_chosen_loop {o v : Int} {Q : QT} (hd : 2 ≤ d) (hc : J 43 4 = nm) (hm : nm ≤ 24) (hno : no ≤ 6) (hE : MsgE J nm NX WS TO WD KD HI) (hO : OffE J no (J 43 5) o RK NT) (hS : ∀ m, m < nm → MsgS J (200 + m)) (h : Q (some (vi (pick NX WS RK NT TO WD KD HI (vX J) o v nm))) (shX nm no) (RX nm no) J) :
    ∀ (k i : Nat) (lv : Option AV), nm - i < k → i ≤ nm → T g d mX6_chosen 0 0 32 [some (vr 43), some (vi o), some (vi v), some (vr (goX J no o (J 43 5))), some (vi (bP (nightX J (goX J no o (J 43 5)) (J 43 5 % 1440 / 60)))), some (vi (pick NX WS RK NT TO WD KD HI (vX J) o v i)), some (vi i), lv] [] (shX nm no) (RX nm no) J Q := by
  have hat : OrdAt (shX nm no) (RX nm no) (goX J no o (J 43 5)) _ _ _ := ord_id (nm := nm) (no := no) hm hno (gbF J o (J 43 5) no)
  intro k
  induction k with
  | zero => intro i lv hk; omega
  | succ k ih =>
    intro i lv hk h1
    have hb := pick_bd NX WS RK NT TO WD KD HI (vX J) o v i
    refine m_iload dX6_chosen_32 rfl ?_
    refine m_aload_n dX6_chosen_34 rfl ?_
    refine m_gi (z := 4) dX6_chosen_35 fl_X6_62 oX_43 rfl rfl ?_
    refine m_icmp_ge (tgt := 125) dX6_chosen_38 (by decide) (fun c38 => ?_) (fun c38 => ?_)
    · have ei : i = nm := by omega
      subst ei
      refine m_iload dX6_chosen_125 rfl ?_
      refine m_iret dX6_chosen_127 rfl ?_
      exact h
    · have hi : i < nm := by omega
      have hq := sX_msg (no := no) hi hm
      obtain ⟨t0, t1, t2, t4, t5⟩ := hE i hi
      obtain ⟨s1, s2, s3, s4, s5⟩ := hS i hi
      refine m_aload_n dX6_chosen_41 rfl ?_
      refine m_gr (z := 2) dX6_chosen_42 fl_X6_11 oX_43 rfl rfl rX_43_2 ?_
      refine m_iload dX6_chosen_45 rfl ?_
      refine m_al dX6_chosen_47 sX_44 (by decide) (by omega) (by omega) (show RX nm no 44 (i : Int) = some (200 + i) by rw [rX_msg (by omega) (by omega)]; rfl) ?_
      refine m_astore dX6_chosen_48 (by decide) rfl rfl ?_
      refine m_aload dX6_chosen_50 rfl ?_
      refine m_Vi [] dX6_chosen_52 lk_X6_116 rfl hq rfl (Nat.le_of_ble_eq_true rfl) (by omega) (x_waits hq) ?_
      refine m_if_eq (tgt := 119) dX6_chosen_55 (by decide) (fun c55 => ?_) (fun c55 => ?_)
      · have z1 := bI_eq0 c55
        have e : pick NX WS RK NT TO WD KD HI (vX J) o v (i + 1) = pick NX WS RK NT TO WD KD HI (vX J) o v i := by
          rw [pick, cif_f]
          intro z
          obtain ⟨⟨y1, y2, y3, y4, y5⟩, y6⟩ := z
          have y1 : J (200 + i) 5 = 0 := y1
          have y2 : J (200 + i) 6 = o := y2
          have y3 : J (200 + i) 6 ≠ TO i := y3
          exact z1 (by omega)
        refine m_iinc dX6_chosen_119 rfl (by decide) rfl rfl (by omega) ?_
        refine m_goto (tgt := 32) dX6_chosen_122 (by decide) ?_
        have h9 := ih (i + 1) (some (vr (200 + i))) (by omega) (by omega)
        rw [e] at h9
        exact h9
      · have z1 := bI_ne0 c55
        have hwt : wtX J i := z1
        refine m_aload dX6_chosen_58 rfl ?_
        refine m_gi (z := 6) dX6_chosen_60 fl_X6_45 hq rfl rfl ?_
        refine m_iload_n dX6_chosen_63 rfl ?_
        refine m_icmp_ne (tgt := 119) dX6_chosen_64 (by decide) (fun c64 => ?_) (fun c64 => ?_)
        · have e : pick NX WS RK NT TO WD KD HI (vX J) o v (i + 1) = pick NX WS RK NT TO WD KD HI (vX J) o v i := by
            rw [pick, cif_f]
            intro z
            obtain ⟨⟨y1, y2, y3, y4, y5⟩, y6⟩ := z
            have y1 : J (200 + i) 5 = 0 := y1
            have y2 : J (200 + i) 6 = o := y2
            have y3 : J (200 + i) 6 ≠ TO i := y3
            omega
          refine m_iinc dX6_chosen_119 rfl (by decide) rfl rfl (by omega) ?_
          refine m_goto (tgt := 32) dX6_chosen_122 (by decide) ?_
          have h9 := ih (i + 1) (some (vr (200 + i))) (by omega) (by omega)
          rw [e] at h9
          exact h9
        · refine m_aload dX6_chosen_67 rfl ?_
          refine m_gi (z := 11) dX6_chosen_69 fl_X6_124 hq rfl rfl ?_
          refine m_iload_n dX6_chosen_72 rfl ?_
          refine m_icmp_ne (tgt := 119) dX6_chosen_73 (by decide) (fun c73 => ?_) (fun c73 => ?_)
          · have e : pick NX WS RK NT TO WD KD HI (vX J) o v (i + 1) = pick NX WS RK NT TO WD KD HI (vX J) o v i := by
              rw [pick, cif_f]
              intro z
              obtain ⟨⟨y1, y2, y3, y4, y5⟩, y6⟩ := z
              have y1 : J (200 + i) 5 = 0 := y1
              have y2 : J (200 + i) 6 = o := y2
              have y3 : J (200 + i) 6 ≠ TO i := y3
              rw [← (t5 hwt).1] at y4
              omega
            refine m_iinc dX6_chosen_119 rfl (by decide) rfl rfl (by omega) ?_
            refine m_goto (tgt := 32) dX6_chosen_122 (by decide) ?_
            have h9 := ih (i + 1) (some (vr (200 + i))) (by omega) (by omega)
            rw [e] at h9
            exact h9
          · refine m_aload dX6_chosen_76 rfl ?_
            refine m_gi (z := 2) dX6_chosen_78 fl_X6_36 hq rfl rfl ?_
            refine m_iconst dX6_chosen_81 (by decide) ?_
            refine m_icmp_ne (tgt := 93) dX6_chosen_82 (by decide) (fun c82 => ?_) (fun c82 => ?_)
            · have hn : KD i ≠ 2 ∨ NT o := Or.inl (by omega)
              have hcand : cand NX WS NT TO WD KD (vX J) o v i := ⟨by show J (200 + i) 5 = 0; omega, by show J (200 + i) 6 = o; omega, by show J (200 + i) 6 ≠ TO i; omega, by rw [← (t5 hwt).1]; omega, hn⟩
              refine m_iload dX6_chosen_93 rfl ?_
              refine m_iconst dX6_chosen_95 (by decide) ?_
              refine m_icmp_eq (tgt := 115) dX6_chosen_96 (by decide) (fun c96 => ?_) (fun c96 => ?_)
              · have e : pick NX WS RK NT TO WD KD HI (vX J) o v (i + 1) = i := by
                  rw [pick, cif_t ⟨hcand, Or.inl (by omega)⟩]
                refine m_iload dX6_chosen_115 rfl ?_
                refine m_istore dX6_chosen_117 (by decide) rfl rfl ?_
                refine m_iinc dX6_chosen_119 rfl (by decide) rfl rfl (by omega) ?_
                refine m_goto (tgt := 32) dX6_chosen_122 (by decide) ?_
                have h9 := ih (i + 1) (some (vr (200 + i))) (by omega) (by omega)
                rw [e] at h9
                exact h9
              · have hb2 : 0 ≤ pick NX WS RK NT TO WD KD HI (vX J) o v i := by omega
                have hq2 := sX_msg (no := no) (show (pick NX WS RK NT TO WD KD HI (vX J) o v i).toNat < nm by omega) hm
                obtain ⟨u1, u2, u3, u4, u5⟩ := hS (pick NX WS RK NT TO WD KD HI (vX J) o v i).toNat (by omega)
                obtain ⟨v0, v1, v2, v4, v5⟩ := hE (pick NX WS RK NT TO WD KD HI (vX J) o v i).toNat (by omega)
                have r1 := hO.1 (KD i) (by omega) (by omega)
                have r2 := hO.1 (KD (pick NX WS RK NT TO WD KD HI (vX J) o v i).toNat) (by omega) (by omega)
                refine m_aload dX6_chosen_99 rfl ?_
                refine m_aload_n dX6_chosen_101 rfl ?_
                refine m_gr (z := 2) dX6_chosen_102 fl_X6_11 oX_43 rfl rfl rX_43_2 ?_
                refine m_iload dX6_chosen_105 rfl ?_
                refine m_al dX6_chosen_107 sX_44 (by decide) (by omega) (by omega) (rX_msg (by omega) (by omega)) ?_
                refine m_aload_n dX6_chosen_108 rfl ?_
                refine m_Si [_, _, _] dX6_chosen_109 lk_X6_183 rfl rfl (Nat.le_of_ble_eq_true rfl) (by omega) (x_goesAhead hat hq hq2 s3 u3) ?_
                refine m_if_eq (tgt := 119) dX6_chosen_112 (by decide) (fun c112 => ?_) (fun c112 => ?_)
                · have z2 := bI_eq0 c112
                  rw [t2, v2, t4, v4, r1, r2] at z2
                  have e : pick NX WS RK NT TO WD KD HI (vX J) o v (i + 1) = pick NX WS RK NT TO WD KD HI (vX J) o v i := by
                    rw [pick, cif_f (fun z => z2 (z.2.elim (fun y => by omega) id))]
                  refine m_iinc dX6_chosen_119 rfl (by decide) rfl rfl (by omega) ?_
                  refine m_goto (tgt := 32) dX6_chosen_122 (by decide) ?_
                  have h9 := ih (i + 1) (some (vr (200 + i))) (by omega) (by omega)
                  rw [e] at h9
                  exact h9
                · have z2 := bI_ne0 c112
                  rw [t2, v2, t4, v4, r1, r2] at z2
                  have e : pick NX WS RK NT TO WD KD HI (vX J) o v (i + 1) = i := by
                    rw [pick, cif_t ⟨hcand, Or.inr z2⟩]
                  refine m_iload dX6_chosen_115 rfl ?_
                  refine m_istore dX6_chosen_117 (by decide) rfl rfl ?_
                  refine m_iinc dX6_chosen_119 rfl (by decide) rfl rfl (by omega) ?_
                  refine m_goto (tgt := 32) dX6_chosen_122 (by decide) ?_
                  have h9 := ih (i + 1) (some (vr (200 + i))) (by omega) (by omega)
                  rw [e] at h9
                  exact h9
            · refine m_iload dX6_chosen_85 rfl ?_
              refine m_if_ne (tgt := 93) dX6_chosen_87 (by decide) (fun c87 => ?_) (fun c87 => ?_)
              · have hn : KD i ≠ 2 ∨ NT o := Or.inr (hO.2.mp (bP_ne0 c87))
                have hcand : cand NX WS NT TO WD KD (vX J) o v i := ⟨by show J (200 + i) 5 = 0; omega, by show J (200 + i) 6 = o; omega, by show J (200 + i) 6 ≠ TO i; omega, by rw [← (t5 hwt).1]; omega, hn⟩
                refine m_iload dX6_chosen_93 rfl ?_
                refine m_iconst dX6_chosen_95 (by decide) ?_
                refine m_icmp_eq (tgt := 115) dX6_chosen_96 (by decide) (fun c96 => ?_) (fun c96 => ?_)
                · have e : pick NX WS RK NT TO WD KD HI (vX J) o v (i + 1) = i := by
                    rw [pick, cif_t ⟨hcand, Or.inl (by omega)⟩]
                  refine m_iload dX6_chosen_115 rfl ?_
                  refine m_istore dX6_chosen_117 (by decide) rfl rfl ?_
                  refine m_iinc dX6_chosen_119 rfl (by decide) rfl rfl (by omega) ?_
                  refine m_goto (tgt := 32) dX6_chosen_122 (by decide) ?_
                  have h9 := ih (i + 1) (some (vr (200 + i))) (by omega) (by omega)
                  rw [e] at h9
                  exact h9
                · have hb2 : 0 ≤ pick NX WS RK NT TO WD KD HI (vX J) o v i := by omega
                  have hq2 := sX_msg (no := no) (show (pick NX WS RK NT TO WD KD HI (vX J) o v i).toNat < nm by omega) hm
                  obtain ⟨u1, u2, u3, u4, u5⟩ := hS (pick NX WS RK NT TO WD KD HI (vX J) o v i).toNat (by omega)
                  obtain ⟨v0, v1, v2, v4, v5⟩ := hE (pick NX WS RK NT TO WD KD HI (vX J) o v i).toNat (by omega)
                  have r1 := hO.1 (KD i) (by omega) (by omega)
                  have r2 := hO.1 (KD (pick NX WS RK NT TO WD KD HI (vX J) o v i).toNat) (by omega) (by omega)
                  refine m_aload dX6_chosen_99 rfl ?_
                  refine m_aload_n dX6_chosen_101 rfl ?_
                  refine m_gr (z := 2) dX6_chosen_102 fl_X6_11 oX_43 rfl rfl rX_43_2 ?_
                  refine m_iload dX6_chosen_105 rfl ?_
                  refine m_al dX6_chosen_107 sX_44 (by decide) (by omega) (by omega) (rX_msg (by omega) (by omega)) ?_
                  refine m_aload_n dX6_chosen_108 rfl ?_
                  refine m_Si [_, _, _] dX6_chosen_109 lk_X6_183 rfl rfl (Nat.le_of_ble_eq_true rfl) (by omega) (x_goesAhead hat hq hq2 s3 u3) ?_
                  refine m_if_eq (tgt := 119) dX6_chosen_112 (by decide) (fun c112 => ?_) (fun c112 => ?_)
                  · have z2 := bI_eq0 c112
                    rw [t2, v2, t4, v4, r1, r2] at z2
                    have e : pick NX WS RK NT TO WD KD HI (vX J) o v (i + 1) = pick NX WS RK NT TO WD KD HI (vX J) o v i := by
                      rw [pick, cif_f (fun z => z2 (z.2.elim (fun y => by omega) id))]
                    refine m_iinc dX6_chosen_119 rfl (by decide) rfl rfl (by omega) ?_
                    refine m_goto (tgt := 32) dX6_chosen_122 (by decide) ?_
                    have h9 := ih (i + 1) (some (vr (200 + i))) (by omega) (by omega)
                    rw [e] at h9
                    exact h9
                  · have z2 := bI_ne0 c112
                    rw [t2, v2, t4, v4, r1, r2] at z2
                    have e : pick NX WS RK NT TO WD KD HI (vX J) o v (i + 1) = i := by
                      rw [pick, cif_t ⟨hcand, Or.inr z2⟩]
                    refine m_iload dX6_chosen_115 rfl ?_
                    refine m_istore dX6_chosen_117 (by decide) rfl rfl ?_
                    refine m_iinc dX6_chosen_119 rfl (by decide) rfl rfl (by omega) ?_
                    refine m_goto (tgt := 32) dX6_chosen_122 (by decide) ?_
                    have h9 := ih (i + 1) (some (vr (200 + i))) (by omega) (by omega)
                    rw [e] at h9
                    exact h9
              · have hnn := bP_eq0 c87
                have e : pick NX WS RK NT TO WD KD HI (vX J) o v (i + 1) = pick NX WS RK NT TO WD KD HI (vX J) o v i := by
                  rw [pick, cif_f]
                  intro z
                  obtain ⟨⟨y1, y2, y3, y4, y5⟩, y6⟩ := z
                  have y1 : J (200 + i) 5 = 0 := y1
                  have y2 : J (200 + i) 6 = o := y2
                  have y3 : J (200 + i) 6 ≠ TO i := y3
                  rcases y5 with y5 | y5
                  · omega
                  · exact hnn (hO.2.mpr y5)
                refine m_goto (tgt := 119) dX6_chosen_90 (by decide) ?_
                refine m_iinc dX6_chosen_119 rfl (by decide) rfl rfl (by omega) ?_
                refine m_goto (tgt := 32) dX6_chosen_122 (by decide) ?_
                have h9 := ih (i + 1) (some (vr (200 + i))) (by omega) (by omega)
                rw [e] at h9
                exact h9
theorem x_chosen {o v : Int} (hd : 3 ≤ d) (hc : J 43 4 = nm) (hm : nm ≤ 24) (hL : LawI J no) (ho : 0 ≤ o ∧ o < 8) (ht : 0 ≤ J 43 5) (hE : MsgE J nm NX WS TO WD KD HI) (hO : OffE J no (J 43 5) o RK NT) (hS : ∀ m, m < nm → MsgS J (200 + m)) : SP g d mX6_chosen 0 0 [vr 43, vi o, vi v] (shX nm no) (RX nm no) J (some (vi (pick NX WS RK NT TO WD KD HI (vX J) o v nm))) (shX nm no) (RX nm no) J := by
  have hat : OrdAt (shX nm no) (RX nm no) (goX J no o (J 43 5)) _ _ _ := ord_id (nm := nm) (no := no) hm hL.2.1 (gbF J o (J 43 5) no)
  intro Q h
  refine C_of rfl (Nat.le_of_ble_eq_true rfl) rfl ?_
  refine m_aload_n dX6_chosen_0 rfl ?_
  refine m_gr (z := 1) dX6_chosen_1 fl_X6_24 oX_43 rfl rfl rX_43_1 ?_
  refine m_iload_n dX6_chosen_4 rfl ?_
  refine m_aload_n dX6_chosen_5 rfl ?_
  refine m_gi (z := 5) dX6_chosen_6 fl_X6_39 oX_43 rfl rfl ?_
  refine m_Vr [_, _] dX6_chosen_9 lk_X6_48 rfl oX_37 rfl (Nat.le_of_ble_eq_true rfl) (by omega) (x_goneBy (by omega) hm hL.2.1 hL.1 ho.1 ho.2) ?_
  refine m_astore_n dX6_chosen_12 (by decide) rfl rfl ?_
  refine m_aload_n dX6_chosen_13 rfl ?_
  refine m_aload_n dX6_chosen_14 rfl ?_
  refine m_gi (z := 5) dX6_chosen_15 fl_X6_39 oX_43 rfl rfl ?_
  refine m_Ni [_] dX6_chosen_18 lk_X6_176 rfl rfl (Nat.le_of_ble_eq_true rfl) (by omega) (x_hourOf ht) ?_
  refine m_Vi [_] dX6_chosen_21 lk_X6_179 rfl hat.1 rfl (Nat.le_of_ble_eq_true rfl) (by omega) (x_isNight (by omega) hat) ?_
  refine m_istore dX6_chosen_24 (by decide) rfl rfl ?_
  refine m_iconst dX6_chosen_26 (by decide) ?_
  refine m_istore dX6_chosen_27 (by decide) rfl rfl ?_
  refine m_iconst dX6_chosen_29 (by decide) ?_
  refine m_istore dX6_chosen_30 (by decide) rfl rfl ?_
  exact x_chosen_loop (by omega) hc hm hL.2.1 hE hO hS h (nm + 1) 0 none (by omega) (by omega)
theorem taken_iff {o v tt : Int} (hv : J 24 v = o ∨ J 25 v = o) (hne : J 24 v ≠ J 25 v) (hM : ∀ m, m < nm → MsgD (J 21 9) (J 24) (J 25) tt (vX J m)) : (∃ m : Nat, m < nm ∧ tkX J v o m) ↔ (busy nm (vX J) v o ∨ (J 27 v = 0 ∧ busy nm (vX J) v (othF (J 24) (J 25) v o))) := by
  constructor
  · rintro ⟨m, hm, a, b, c⟩
    by_cases e : J (200 + m) 6 = o
    · exact Or.inl ⟨m, hm, a, b, e⟩
    · refine Or.inr ⟨by omega, m, hm, a, b, ?_⟩
      show J (200 + m) 6 = _
      have h := (hM m hm).2.2.1 a
      have h2 : J 24 (J (200 + m) 7) = J (200 + m) 6 ∨ J 25 (J (200 + m) 7) = J (200 + m) 6 := h.2.1
      rw [b] at h2
      unfold othF
      split <;> omega
  · rintro (⟨m, hm, a, b, c⟩ | ⟨z, m, hm, a, b, c⟩)
    · exact ⟨m, hm, a, b, Or.inl c⟩
    · exact ⟨m, hm, a, b, Or.inr z⟩
theorem vX_up {J J' : II} {i : Nat} {x : Int → Int} (h1 : ∀ q, q ≠ 200 + i → J' q = J q) (h2 : vX J' i = x) : vX J' = upD (vX J) i x := by
  funext m
  by_cases e : m = i
  · subst e; rw [upD_s, h2]
  · rw [upD_n e, vX_same (h1 _ (by omega))]
theorem x_sendFrom {o v tt : Int} (hd : 4 ≤ d) (hc : J 43 4 = nm) (hm : nm ≤ 24) (hN : NetI J) (hL : LawI J no) (ho : 0 ≤ o ∧ o < 8) (hv : 0 ≤ v ∧ v < J 21 9) (hov : J 24 v = o ∨ J 25 v = o) (ht : 0 ≤ J 43 5 ∧ J 43 5 ≤ 9000) (hE : MsgE J nm NX WS TO WD KD HI) (hO : OffE J no (J 43 5) o RK NT) (hS : ∀ m, m < nm → MsgS J (200 + m)) (hM : ∀ m, m < nm → MsgD (J 21 9) (J 24) (J 25) tt (vX J m)) (hW : ∀ m, m < nm → wtX J m → 1 ≤ J (200 + m) 14 ∧ J (200 + m) 14 ≤ 198) :
    SV g d mX6_sendFrom [vr 43, vi o, vi v] (shX nm no) (RX nm no) J (fun J' => (∀ x, ¬ (200 ≤ x ∧ x < 200 + nm) → J' x = J x) ∧ (∀ m, m < nm → ∀ j : Int, (j < 5 ∨ 10 < j) → J' (200 + m) j = J (200 + m) j) ∧ vX J' = sendF nm (J 43 5) (J 24) (J 25) (J 26) (J 27) NX WS RK NT TO WD KD HI (vX J) o v) := by
  have hw := hN.1
  have hk := hN.2.1 v hv.1 hv.2
  have htk := taken_iff (nm := nm) hov hk.2.2.1 hM
  have hb := pick_bd NX WS RK NT TO WD KD HI (vX J) o v nm
  intro Q h
  refine C_of rfl (Nat.le_of_ble_eq_true rfl) rfl ?_
  refine m_aload_n dX6_sendFrom_0 rfl ?_
  refine m_iload_n dX6_sendFrom_1 rfl ?_
  refine m_iload_n dX6_sendFrom_2 rfl ?_
  refine m_Vi [_, _] dX6_sendFrom_3 lk_X6_160 rfl oX_43 rfl (Nat.le_of_ble_eq_true rfl) (by omega) (x_isTaken hc hm (by omega)) ?_
  refine m_if_eq (tgt := 10) dX6_sendFrom_6 (by decide) (fun c6 => ?_) (fun c6 => ?_)
  · have z1 := bP_eq0 c6
    refine m_aload_n dX6_sendFrom_10 rfl ?_
    refine m_iload_n dX6_sendFrom_11 rfl ?_
    refine m_iload_n dX6_sendFrom_12 rfl ?_
    refine m_Vi [_, _] dX6_sendFrom_13 lk_X6_163 rfl oX_43 rfl (Nat.le_of_ble_eq_true rfl) (by omega) (x_chosen (by omega) hc hm hL ho ht.1 hE hO hS) ?_
    refine m_istore_n dX6_sendFrom_16 (by decide) rfl rfl ?_
    refine m_iload_n dX6_sendFrom_17 rfl ?_
    refine m_iconst dX6_sendFrom_18 (by decide) ?_
    refine m_icmp_eq (tgt := 54) dX6_sendFrom_19 (by decide) (fun c19 => ?_) (fun c19 => ?_)
    · refine m_vret dX6_sendFrom_54 rfl ?_
      first
        | exact h J ⟨fun _ _ => rfl, fun _ _ _ _ => rfl, by rw [sendF, cif_f (fun z => z1 (htk.mpr z)), if_pos c19]⟩
        | exact h _ ⟨fun x hx => by rw [upI_o (by omega), upI_o (by omega), upI_o (by omega)], fun m hm2 j hj => by
            unfold upI
            repeat rw [if_neg (by omega)], by
            rw [sendF, cif_f (fun z => z1 (htk.mpr z)), if_neg c19]
            refine vX_up (fun x hx => by rw [upI_o hx, upI_o hx, upI_o hx]) ?_
            rw [← e14]
            simp [vX, upI, mk6_1, mk6_4, mk6_5]⟩
    · have hp0 : 0 ≤ (pick NX WS RK NT TO WD KD HI (vX J) o v nm) := by omega
      have hi : (pick NX WS RK NT TO WD KD HI (vX J) o v nm).toNat < nm := by omega
      have hq := sX_msg (no := no) hi hm
      have hcd := pick_cand NX WS RK NT TO WD KD HI (vX J) o v nm c19
      have hwt : wtX J (pick NX WS RK NT TO WD KD HI (vX J) o v nm).toNat := ⟨hcd.1, by rw [(hE _ hi).1]; exact hcd.2.2.1⟩
      have hw14 := hW _ hi hwt
      have e14 := ((hE _ hi).2.2.2.2 hwt).2
      have e6 : J (200 + (pick NX WS RK NT TO WD KD HI (vX J) o v nm).toNat) 6 = o := hcd.2.1
      rw [e6] at e14
      have tk := tk_bd hw14.1 hk.2.2.2.1.1
      refine m_aload_n dX6_sendFrom_22 rfl ?_
      refine m_gr (z := 2) dX6_sendFrom_23 fl_X6_11 oX_43 rfl rfl rX_43_2 ?_
      refine m_iload_n dX6_sendFrom_26 rfl ?_
      refine m_al dX6_sendFrom_27 sX_44 (by decide) (by omega) (by omega) (rX_msg (by omega) (by omega)) ?_
      refine m_astore dX6_sendFrom_28 (by decide) rfl rfl ?_
      refine m_aload dX6_sendFrom_30 rfl ?_
      refine m_iload_n dX6_sendFrom_32 rfl ?_
      refine m_aload_n dX6_sendFrom_33 rfl ?_
      refine m_gi (z := 5) dX6_sendFrom_34 fl_X6_39 oX_43 rfl rfl ?_
      refine m_aload_n dX6_sendFrom_37 rfl ?_
      refine m_gr (z := 0) dX6_sendFrom_38 fl_X6_20 oX_43 rfl rfl rX_43_0 ?_
      refine m_iload_n dX6_sendFrom_41 rfl ?_
      refine m_aload dX6_sendFrom_42 rfl ?_
      refine m_gi (z := 14) dX6_sendFrom_44 fl_X6_136 hq rfl rfl ?_
      refine m_Vi [_, _] dX6_sendFrom_47 lk_X6_166 rfl oX_21 rfl (Nat.le_of_ble_eq_true rfl) (by omega) (x_taken hv.1 hv.2 hN (by omega)) ?_
      refine m_iadd dX6_sendFrom_50 (by show R32 (J 43 5 + (J (200 + (pick NX WS RK NT TO WD KD HI (vX J) o v nm).toNat) 14 + J 26 v - 1) / J 26 v); omega) ?_
      refine m_Vv [_, _] dX6_sendFrom_51 lk_X6_169 rfl hq rfl (Nat.le_of_ble_eq_true rfl) (by omega) (x_setOut hq) ?_
      refine m_vret dX6_sendFrom_54 rfl ?_
      first
        | exact h J ⟨fun _ _ => rfl, fun _ _ _ _ => rfl, by rw [sendF, cif_f (fun z => z1 (htk.mpr z)), if_pos c19]⟩
        | exact h _ ⟨fun x hx => by rw [upI_o (by omega), upI_o (by omega), upI_o (by omega)], fun m hm2 j hj => by
            unfold upI
            repeat rw [if_neg (by omega)], by
            rw [sendF, cif_f (fun z => z1 (htk.mpr z)), if_neg c19]
            refine vX_up (fun x hx => by rw [upI_o hx, upI_o hx, upI_o hx]) ?_
            rw [← e14]
            simp [vX, upI, mk6_1, mk6_4, mk6_5]⟩
  · have z1 := bP_ne0 c6
    refine m_vret dX6_sendFrom_9 rfl ?_
    exact h J ⟨fun _ _ => rfl, fun _ _ _ _ => rfl, by rw [sendF, cif_t (htk.mp z1)]⟩
end
