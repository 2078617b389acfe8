/-! TAPES: firstWrong, lastRightAhead, quarrels, suspectsOf -/
theorem sX_hand {nm no r : Nat} (h : r < 8) : shX nm no (58 + r) = (20, 7) := by
  rcases (show r = 0 ∨ r = 1 ∨ r = 2 ∨ r = 3 ∨ r = 4 ∨ r = 5 ∨ r = 6 ∨ r = 7 by omega) with e | e | e | e | e | e | e | e <;> subst e <;> rfl
theorem sX_clk {nm no r : Nat} (h : r < 8) : shX nm no (67 + r) = (20, 7) := by
  rcases (show r = 0 ∨ r = 1 ∨ r = 2 ∨ r = 3 ∨ r = 4 ∨ r = 5 ∨ r = 6 ∨ r = 7 by omega) with e | e | e | e | e | e | e | e <;> subst e <;> rfl
theorem rX_hand {nm no : Nat} {r : Nat} (h : r < 8) : RX nm no 57 (r : Int) = some (58 + r) := by
  rcases (show r = 0 ∨ r = 1 ∨ r = 2 ∨ r = 3 ∨ r = 4 ∨ r = 5 ∨ r = 6 ∨ r = 7 by omega) with e | e | e | e | e | e | e | e <;> subst e <;> rfl
theorem rX_clk {nm no : Nat} {r : Nat} (h : r < 8) : RX nm no 66 (r : Int) = some (67 + r) := by
  rcases (show r = 0 ∨ r = 1 ∨ r = 2 ∨ r = 3 ∨ r = 4 ∨ r = 5 ∨ r = 6 ∨ r = 7 by omega) with e | e | e | e | e | e | e | e <;> subst e <;> rfl
/-- the first wrong hand of the first n; the last right one; whether a right one is behind a wrong one -/
def fwF (v : Int → Int) : Nat → Int
  | 0 => -1
  | n + 1 => if fwF v n ≠ -1 then fwF v n else if v n = 1 then n else -1
def lrF (v : Int → Int) : Nat → Int
  | 0 => -1
  | n + 1 => if v n = 0 then n else lrF v n
def qrP (v : Int → Int) (n : Nat) : Prop := ∃ i j : Nat, i < j ∧ j < n ∧ v i = 1 ∧ v j = 0
theorem fwF_bd (v : Int → Int) : ∀ n : Nat, -1 ≤ fwF v n ∧ fwF v n < n
  | 0 => by unfold fwF; omega
  | n + 1 => by
    have := fwF_bd v n
    unfold fwF
    split
    · omega
    · split <;> omega
theorem lrF_bd (v : Int → Int) : ∀ n : Nat, -1 ≤ lrF v n ∧ lrF v n < n
  | 0 => by unfold lrF; omega
  | n + 1 => by
    have := lrF_bd v n
    unfold lrF
    split <;> omega
theorem fwF_up (v : Int → Int) {n m : Nat} (h : n ≤ m) (hn : fwF v n ≠ -1) : fwF v m = fwF v n := by
  induction m with
  | zero => rw [show n = 0 by omega]
  | succ m ih =>
    by_cases e : n = m + 1
    · rw [e]
    · have := ih (by omega)
      rw [fwF, if_pos (by rw [this]; exact hn), this]
def TapI (I : II) : Prop := (0 ≤ I 55 4 ∧ I 55 4 ≤ 8) ∧ ∀ r : Nat, (r : Int) < I 55 4 → (2 ≤ I 56 r ∧ I 56 r ≤ 7) ∧ ∀ k : Int, 0 ≤ k → k < 7 → (I (58 + r) k = 0 ∨ I (58 + r) k = 1 ∨ I (58 + r) k = 2) ∧ (0 ≤ I (67 + r) k ∧ I (67 + r) k < 8)
section
variable {g : GH} {d nm no : Nat} {I : II}
theorem x_fw_loop {r : Nat} {Q : QT} (hI : TapI I) (hr : (r : Int) < I 55 4) (h : Q (some (vi (fwF (I (58 + r)) (I 56 r).toNat))) (shX nm no) (RX nm no) I) : ∀ (k i : Nat), (I 56 r).toNat - i < k → i ≤ (I 56 r).toNat → fwF (I (58 + r)) i = -1 → T g d mX9_firstWrong 0 0 2 [some (vr 55), some (vi r), some (vi i)] [] (shX nm no) (RX nm no) I Q := by
  have hr8 : r < 8 := by have := hI.1; omega
  have hs := (hI.2 r hr).1
  intro k
  induction k with
  | zero => intro i hk; omega
  | succ k ih =>
    intro i hk h1 hf
    refine m_iload_n dX9_firstWrong_2 rfl ?_
    refine m_aload_n dX9_firstWrong_3 rfl ?_
    refine m_gr (z := 0) dX9_firstWrong_4 fl_X9_9 oX_55 rfl rfl rX_55_0 ?_
    refine m_iload_n dX9_firstWrong_7 rfl ?_
    refine m_iald dX9_firstWrong_8 sX_56 (by omega) (by omega) ?_
    refine m_icmp_ge (tgt := 32) dX9_firstWrong_9 (by decide) (fun c9 => ?_) (fun c9 => ?_)
    · have ei : i = (I 56 r).toNat := by omega
      rw [← ei, hf] at h
      refine m_iconst dX9_firstWrong_32 (by decide) ?_
      refine m_iret dX9_firstWrong_33 rfl ?_
      exact h
    · refine m_aload_n dX9_firstWrong_12 rfl ?_
      refine m_gr (z := 1) dX9_firstWrong_13 fl_X9_17 oX_55 rfl rfl rX_55_1 ?_
      refine m_iload_n dX9_firstWrong_16 rfl ?_
      refine m_al dX9_firstWrong_17 sX_57 (by decide) (by omega) (by omega) (rX_hand hr8) ?_
      refine m_iload_n dX9_firstWrong_18 rfl ?_
      refine m_iald dX9_firstWrong_19 (sX_hand hr8) (by omega) (by omega) ?_
      refine m_iconst dX9_firstWrong_20 (by decide) ?_
      refine m_icmp_ne (tgt := 26) dX9_firstWrong_21 (by decide) (fun c21 => ?_) (fun c21 => ?_)
      · have hf2 : fwF (I (58 + r)) (i + 1) = -1 := by rw [fwF, if_neg (by omega), if_neg c21]
        refine m_iinc dX9_firstWrong_26 rfl (by decide) rfl rfl (by omega) ?_
        refine m_goto (tgt := 2) dX9_firstWrong_29 (by decide) ?_
        exact ih (i + 1) (by omega) (by omega) hf2
      · have hf2 : fwF (I (58 + r)) (i + 1) = i := by rw [fwF, if_neg (by omega), if_pos c21]
        rw [fwF_up _ (show i + 1 ≤ (I 56 r).toNat by omega) (by omega), hf2] at h
        refine m_iload_n dX9_firstWrong_24 rfl ?_
        refine m_iret dX9_firstWrong_25 rfl ?_
        exact h
theorem x_firstWrong {r : Nat} (hI : TapI I) (hr : (r : Int) < I 55 4) : SP g d mX9_firstWrong 0 0 [vr 55, vi r] (shX nm no) (RX nm no) I (some (vi (fwF (I (58 + r)) (I 56 r).toNat))) (shX nm no) (RX nm no) I := by
  intro Q h
  refine C_of rfl (Nat.le_of_ble_eq_true rfl) rfl ?_
  refine m_iconst dX9_firstWrong_0 (by decide) ?_
  refine m_istore_n dX9_firstWrong_1 (by decide) rfl rfl ?_
  exact x_fw_loop hI hr h ((I 56 r).toNat + 1) 0 (by omega) (by omega) rfl
theorem x_lr_loop {r : Nat} {wr : Int} {Q : QT} (hI : TapI I) (hr : (r : Int) < I 55 4) : ∀ n : Nat, n ≤ 7 → Q (some (vi (lrF (I (58 + r)) n))) (shX nm no) (RX nm no) I → T g d mX9_lastRightAhead 0 0 4 [some (vr 55), some (vi r), some (vi wr), some (vi ((n : Int) - 1))] [] (shX nm no) (RX nm no) I Q := by
  have hr8 : r < 8 := by have := hI.1; omega
  have hs := (hI.2 r hr).1
  intro n
  induction n with
  | zero =>
    intro hn h
    refine m_iload_n dX9_lastRightAhead_4 rfl ?_
    refine m_if_lt (tgt := 27) dX9_lastRightAhead_5 (by decide) (fun c5 => ?_) (fun c5 => ?_)
    · refine m_iconst dX9_lastRightAhead_27 (by decide) ?_
      refine m_iret dX9_lastRightAhead_28 rfl ?_
      exact h
    · omega
  | succ n ih =>
    intro hn h
    refine m_iload_n dX9_lastRightAhead_4 rfl ?_
    refine m_if_lt (tgt := 27) dX9_lastRightAhead_5 (by decide) (fun c5 => ?_) (fun c5 => ?_)
    · omega
    · refine m_aload_n dX9_lastRightAhead_8 rfl ?_
      refine m_gr (z := 1) dX9_lastRightAhead_9 fl_X9_17 oX_55 rfl rfl rX_55_1 ?_
      refine m_iload_n dX9_lastRightAhead_12 rfl ?_
      refine m_al dX9_lastRightAhead_13 sX_57 (by decide) (by omega) (by omega) (rX_hand hr8) ?_
      refine m_iload_n dX9_lastRightAhead_14 rfl ?_
      refine m_iald dX9_lastRightAhead_15 (sX_hand hr8) (by omega) (by omega) ?_
      refine m_if_ne (tgt := 21) dX9_lastRightAhead_16 (by decide) (fun c16 => ?_) (fun c16 => ?_)
      · rw [lrF, if_neg (show ¬ I (58 + r) n = 0 by rw [show (n : Int) = ((n + 1 : Nat) : Int) - 1 by omega]; exact c16)] at h
        refine m_iinc dX9_lastRightAhead_21 rfl (by decide) rfl rfl (by omega) ?_
        refine m_goto (tgt := 4) dX9_lastRightAhead_24 (by decide) ?_
        have e := ih (by omega) h
        rw [show ((n : Int) - 1) = ((n + 1 : Nat) : Int) - 1 + -1 by omega] at e
        exact e
      · rw [lrF, if_pos (show I (58 + r) n = 0 by rw [show (n : Int) = ((n + 1 : Nat) : Int) - 1 by omega]; exact c16)] at h
        refine m_iload_n dX9_lastRightAhead_19 rfl ?_
        refine m_iret dX9_lastRightAhead_20 rfl ?_
        rw [show (((n + 1 : Nat) : Int) - 1) = n by omega]
        exact h
theorem x_lastRightAhead {r : Nat} {wr : Int} (hI : TapI I) (hr : (r : Int) < I 55 4) (hw : 0 ≤ wr ∧ wr ≤ 7) : SP g d mX9_lastRightAhead 0 0 [vr 55, vi r, vi wr] (shX nm no) (RX nm no) I (some (vi (lrF (I (58 + r)) wr.toNat))) (shX nm no) (RX nm no) I := by
  intro Q h
  refine C_of rfl (Nat.le_of_ble_eq_true rfl) rfl ?_
  refine m_iload_n dX9_lastRightAhead_0 rfl ?_
  refine m_iconst dX9_lastRightAhead_1 (by decide) ?_
  refine m_isub dX9_lastRightAhead_2 (by omega) ?_
  refine m_istore_n dX9_lastRightAhead_3 (by decide) rfl rfl ?_
  have e := x_lr_loop (g := g) (d := d) (nm := nm) (no := no) (wr := wr) hI hr wr.toNat (by omega) h
  rw [show ((wr.toNat : Int) - 1) = wr - 1 by omega] at e
  exact e
theorem x_qr_loop {r : Nat} {Q : QT} (hI : TapI I) (hr : (r : Int) < I 55 4) (h : Q (some (vi (bP (qrP (I (58 + r)) (I 56 r).toNat)))) (shX nm no) (RX nm no) I) : ∀ (k i : Nat) (f : Int), (I 56 r).toNat - i < k → i ≤ (I 56 r).toNat → (f = 0 ∨ f = 1) → (f = 1 ↔ ∃ j : Nat, j < i ∧ I (58 + r) j = 1) → ¬ qrP (I (58 + r)) i → T g d mX9_quarrels 0 0 4 [some (vr 55), some (vi r), some (vi f), some (vi i)] [] (shX nm no) (RX nm no) I Q := by
  have hr8 : r < 8 := by have := hI.1; omega
  have hs := (hI.2 r hr).1
  intro k
  induction k with
  | zero => intro i f hk; omega
  | succ k ih =>
    intro i f hk h1 hf hg hq
    refine m_iload_n dX9_quarrels_4 rfl ?_
    refine m_aload_n dX9_quarrels_5 rfl ?_
    refine m_gr (z := 0) dX9_quarrels_6 fl_X9_9 oX_55 rfl rfl rX_55_0 ?_
    refine m_iload_n dX9_quarrels_9 rfl ?_
    refine m_iald dX9_quarrels_10 sX_56 (by omega) (by omega) ?_
    refine m_icmp_ge (tgt := 59) dX9_quarrels_11 (by decide) (fun c11 => ?_) (fun c11 => ?_)
    · have ei : i = (I 56 r).toNat := by omega
      rw [← ei, bP_f hq] at h
      refine m_iconst dX9_quarrels_59 (by decide) ?_
      refine m_zret dX9_quarrels_60 rfl (by omega) ?_
      exact h
    · refine m_iload_n dX9_quarrels_14 rfl ?_
      refine m_if_eq (tgt := 31) dX9_quarrels_15 (by decide) (fun c15 => ?_) (fun c15 => ?_)
      · have HQ : ¬ qrP (I (58 + r)) (i + 1) := fun ⟨a, b, y1, y2, y3, y4⟩ => by
          rcases (show b < i ∨ b = i by omega) with z | z
          · exact hq ⟨a, b, y1, z, y3, y4⟩
          · subst z
            have := hg.mpr ⟨a, y1, y3⟩
            omega
        refine m_iload_n dX9_quarrels_31 rfl ?_
        refine m_if_ne (tgt := 47) dX9_quarrels_32 (by decide) (fun c32 => ?_) (fun c32 => ?_)
        · have HG : (1 : Int) = 1 ↔ ∃ j : Nat, j < i + 1 ∧ I (58 + r) j = 1 := ⟨fun _ => by
            obtain ⟨a, a1, a2⟩ := hg.mp (by omega)
            exact ⟨a, by omega, a2⟩, fun _ => rfl⟩
          have HF : (1 : Int) = 0 ∨ (1 : Int) = 1 := Or.inr rfl
          refine m_iconst dX9_quarrels_47 (by decide) ?_
          refine m_goto (tgt := 52) dX9_quarrels_48 (by decide) ?_
          refine m_istore_n dX9_quarrels_52 (by decide) rfl rfl ?_
          refine m_iinc dX9_quarrels_53 rfl (by decide) rfl rfl (by omega) ?_
          refine m_goto (tgt := 4) dX9_quarrels_56 (by decide) ?_
          have w1 : (I 56 r).toNat - (i + 1) < k := by clear HF HG HQ hg hq ih h; omega
          have w2 : i + 1 ≤ (I 56 r).toNat := by clear HF HG HQ hg hq ih h; omega
          exact ih (i + 1) _ w1 w2 HF HG HQ
        · refine m_aload_n dX9_quarrels_35 rfl ?_
          refine m_gr (z := 1) dX9_quarrels_36 fl_X9_17 oX_55 rfl rfl rX_55_1 ?_
          refine m_iload_n dX9_quarrels_39 rfl ?_
          refine m_al dX9_quarrels_40 sX_57 (by decide) (by omega) (by omega) (rX_hand hr8) ?_
          refine m_iload_n dX9_quarrels_41 rfl ?_
          refine m_iald dX9_quarrels_42 (sX_hand hr8) (by omega) (by omega) ?_
          refine m_iconst dX9_quarrels_43 (by decide) ?_
          refine m_icmp_ne (tgt := 51) dX9_quarrels_44 (by decide) (fun c44 => ?_) (fun c44 => ?_)
          · have HG : (0 : Int) = 1 ↔ ∃ j : Nat, j < i + 1 ∧ I (58 + r) j = 1 := ⟨fun z => by omega, fun ⟨j, j1, j2⟩ => by
              rcases (show j < i ∨ j = i by omega) with z | z
              · have := hg.mpr ⟨j, z, j2⟩
                omega
              · subst z; exact absurd j2 c44⟩
            have HF : (0 : Int) = 0 ∨ (0 : Int) = 1 := Or.inl rfl
            refine m_iconst dX9_quarrels_51 (by decide) ?_
            refine m_istore_n dX9_quarrels_52 (by decide) rfl rfl ?_
            refine m_iinc dX9_quarrels_53 rfl (by decide) rfl rfl (by omega) ?_
            refine m_goto (tgt := 4) dX9_quarrels_56 (by decide) ?_
            have w1 : (I 56 r).toNat - (i + 1) < k := by clear HF HG HQ hg hq ih h; omega
            have w2 : i + 1 ≤ (I 56 r).toNat := by clear HF HG HQ hg hq ih h; omega
            exact ih (i + 1) _ w1 w2 HF HG HQ
          · have HG : (1 : Int) = 1 ↔ ∃ j : Nat, j < i + 1 ∧ I (58 + r) j = 1 := ⟨fun _ => ⟨i, by omega, c44⟩, fun _ => rfl⟩
            have HF : (1 : Int) = 0 ∨ (1 : Int) = 1 := Or.inr rfl
            refine m_iconst dX9_quarrels_47 (by decide) ?_
            refine m_goto (tgt := 52) dX9_quarrels_48 (by decide) ?_
            refine m_istore_n dX9_quarrels_52 (by decide) rfl rfl ?_
            refine m_iinc dX9_quarrels_53 rfl (by decide) rfl rfl (by omega) ?_
            refine m_goto (tgt := 4) dX9_quarrels_56 (by decide) ?_
            have w1 : (I 56 r).toNat - (i + 1) < k := by clear HF HG HQ hg hq ih h; omega
            have w2 : i + 1 ≤ (I 56 r).toNat := by clear HF HG HQ hg hq ih h; omega
            exact ih (i + 1) _ w1 w2 HF HG HQ
      · refine m_aload_n dX9_quarrels_18 rfl ?_
        refine m_gr (z := 1) dX9_quarrels_19 fl_X9_17 oX_55 rfl rfl rX_55_1 ?_
        refine m_iload_n dX9_quarrels_22 rfl ?_
        refine m_al dX9_quarrels_23 sX_57 (by decide) (by omega) (by omega) (rX_hand hr8) ?_
        refine m_iload_n dX9_quarrels_24 rfl ?_
        refine m_iald dX9_quarrels_25 (sX_hand hr8) (by omega) (by omega) ?_
        refine m_if_ne (tgt := 31) dX9_quarrels_26 (by decide) (fun c26 => ?_) (fun c26 => ?_)
        · have HQ : ¬ qrP (I (58 + r)) (i + 1) := fun ⟨a, b, y1, y2, y3, y4⟩ => by
            rcases (show b < i ∨ b = i by omega) with z | z
            · exact hq ⟨a, b, y1, z, y3, y4⟩
            · subst z
              exact c26 y4
          refine m_iload_n dX9_quarrels_31 rfl ?_
          refine m_if_ne (tgt := 47) dX9_quarrels_32 (by decide) (fun c32 => ?_) (fun c32 => ?_)
          · have HG : (1 : Int) = 1 ↔ ∃ j : Nat, j < i + 1 ∧ I (58 + r) j = 1 := ⟨fun _ => by
              obtain ⟨a, a1, a2⟩ := hg.mp (by omega)
              exact ⟨a, by omega, a2⟩, fun _ => rfl⟩
            have HF : (1 : Int) = 0 ∨ (1 : Int) = 1 := Or.inr rfl
            refine m_iconst dX9_quarrels_47 (by decide) ?_
            refine m_goto (tgt := 52) dX9_quarrels_48 (by decide) ?_
            refine m_istore_n dX9_quarrels_52 (by decide) rfl rfl ?_
            refine m_iinc dX9_quarrels_53 rfl (by decide) rfl rfl (by omega) ?_
            refine m_goto (tgt := 4) dX9_quarrels_56 (by decide) ?_
            have w1 : (I 56 r).toNat - (i + 1) < k := by clear HF HG HQ hg hq ih h; omega
            have w2 : i + 1 ≤ (I 56 r).toNat := by clear HF HG HQ hg hq ih h; omega
            exact ih (i + 1) _ w1 w2 HF HG HQ
          · refine m_aload_n dX9_quarrels_35 rfl ?_
            refine m_gr (z := 1) dX9_quarrels_36 fl_X9_17 oX_55 rfl rfl rX_55_1 ?_
            refine m_iload_n dX9_quarrels_39 rfl ?_
            refine m_al dX9_quarrels_40 sX_57 (by decide) (by omega) (by omega) (rX_hand hr8) ?_
            refine m_iload_n dX9_quarrels_41 rfl ?_
            refine m_iald dX9_quarrels_42 (sX_hand hr8) (by omega) (by omega) ?_
            refine m_iconst dX9_quarrels_43 (by decide) ?_
            refine m_icmp_ne (tgt := 51) dX9_quarrels_44 (by decide) (fun c44 => ?_) (fun c44 => ?_)
            · have HG : (0 : Int) = 1 ↔ ∃ j : Nat, j < i + 1 ∧ I (58 + r) j = 1 := ⟨fun z => by omega, fun ⟨j, j1, j2⟩ => by
                rcases (show j < i ∨ j = i by omega) with z | z
                · have := hg.mpr ⟨j, z, j2⟩
                  omega
                · subst z; exact absurd j2 c44⟩
              have HF : (0 : Int) = 0 ∨ (0 : Int) = 1 := Or.inl rfl
              refine m_iconst dX9_quarrels_51 (by decide) ?_
              refine m_istore_n dX9_quarrels_52 (by decide) rfl rfl ?_
              refine m_iinc dX9_quarrels_53 rfl (by decide) rfl rfl (by omega) ?_
              refine m_goto (tgt := 4) dX9_quarrels_56 (by decide) ?_
              have w1 : (I 56 r).toNat - (i + 1) < k := by clear HF HG HQ hg hq ih h; omega
              have w2 : i + 1 ≤ (I 56 r).toNat := by clear HF HG HQ hg hq ih h; omega
              exact ih (i + 1) _ w1 w2 HF HG HQ
            · have HG : (1 : Int) = 1 ↔ ∃ j : Nat, j < i + 1 ∧ I (58 + r) j = 1 := ⟨fun _ => ⟨i, by omega, c44⟩, fun _ => rfl⟩
              have HF : (1 : Int) = 0 ∨ (1 : Int) = 1 := Or.inr rfl
              refine m_iconst dX9_quarrels_47 (by decide) ?_
              refine m_goto (tgt := 52) dX9_quarrels_48 (by decide) ?_
              refine m_istore_n dX9_quarrels_52 (by decide) rfl rfl ?_
              refine m_iinc dX9_quarrels_53 rfl (by decide) rfl rfl (by omega) ?_
              refine m_goto (tgt := 4) dX9_quarrels_56 (by decide) ?_
              have w1 : (I 56 r).toNat - (i + 1) < k := by clear HF HG HQ hg hq ih h; omega
              have w2 : i + 1 ≤ (I 56 r).toNat := by clear HF HG HQ hg hq ih h; omega
              exact ih (i + 1) _ w1 w2 HF HG HQ
        · have hqq : qrP (I (58 + r)) (I 56 r).toNat := by
            obtain ⟨a, a1, a2⟩ := hg.mp (by omega)
            exact ⟨a, i, a1, by omega, a2, c26⟩
          rw [bP_t hqq] at h
          refine m_iconst dX9_quarrels_29 (by decide) ?_
          refine m_zret dX9_quarrels_30 rfl (by omega) ?_
          exact h
theorem x_quarrels {r : Nat} (hI : TapI I) (hr : (r : Int) < I 55 4) : SP g d mX9_quarrels 0 0 [vr 55, vi r] (shX nm no) (RX nm no) I (some (vi (bP (qrP (I (58 + r)) (I 56 r).toNat)))) (shX nm no) (RX nm no) I := by
  intro Q h
  refine C_of rfl (Nat.le_of_ble_eq_true rfl) rfl ?_
  refine m_iconst dX9_quarrels_0 (by decide) ?_
  refine m_istore_n dX9_quarrels_1 (by decide) rfl rfl ?_
  refine m_iconst dX9_quarrels_2 (by decide) ?_
  refine m_istore_n dX9_quarrels_3 (by decide) rfl rfl ?_
  exact x_qr_loop hI hr h ((I 56 r).toNat + 1) 0 0 (by omega) (by omega) (Or.inl rfl) ⟨fun z => by omega, fun ⟨j, j1, _⟩ => by omega⟩ (fun ⟨a, b, y1, y2, _⟩ => by omega)
end
