/-! REFERENCE: firstWrong, lastRight, doesQuarrel, lead, bits, areBlamed, blamed, fewest -/
section
variable {g : GH} {d nm no : Nat} {I : II}
abbrev tpM (I : II) (r : Int) : Int → Int := fun k => I 127 (7 * r + k)
abbrev ckM (I : II) (r : Int) : Int → Int := fun k => I 128 (7 * r + k)
def TpM (I : II) : Prop := (0 ≤ I 100 41 ∧ I 100 41 ≤ 8) ∧ (∀ r, 0 ≤ r → r < I 100 41 → 2 ≤ I 126 r ∧ I 126 r ≤ 7) ∧ ∀ j, 0 ≤ j → j < 56 → 0 ≤ I 128 j ∧ I 128 j < 8
theorem fwF_v (u : Int → Int) : ∀ n : Nat, fwF u n ≠ -1 → u (fwF u n) = 1
  | 0, h => absurd rfl h
  | n + 1, h => by
    have e : fwF u (n + 1) = if fwF u n ≠ -1 then fwF u n else if u n = 1 then (n : Int) else -1 := rfl
    by_cases h1 : fwF u n ≠ -1
    · rw [e, if_pos h1]; exact fwF_v u n h1
    · rw [e, if_neg h1] at h ⊢
      by_cases h2 : u n = 1
      · rw [if_pos h2]; exact h2
      · rw [if_neg h2] at h; exact absurd rfl h
theorem fwF_f (u : Int → Int) : ∀ (n k : Nat), k < n → u k = 1 → fwF u n ≠ -1 ∧ fwF u n ≤ k
  | 0, k, h, _ => by omega
  | n + 1, k, h, hk => by
    have e : fwF u (n + 1) = if fwF u n ≠ -1 then fwF u n else if u n = 1 then (n : Int) else -1 := rfl
    rcases (show k < n ∨ k = n by omega) with z | z
    · have := fwF_f u n k z hk
      rw [e, if_pos this.1]; exact this
    · subst z
      have hb := fwF_bd u k
      by_cases h1 : fwF u k ≠ -1
      · rw [e, if_pos h1]; exact ⟨h1, by omega⟩
      · rw [e, if_neg h1, if_pos hk]; exact ⟨by omega, by omega⟩
theorem qr_iff (u : Int → Int) (n : Nat) : qrP u n ↔ (fwF u n ≠ -1 ∧ ∃ j : Nat, fwF u n ≤ j ∧ j < n ∧ u j = 0) := by
  constructor
  · rintro ⟨i, j, h1, h2, h3, h4⟩
    have z := fwF_f u n i (by omega) h3
    exact ⟨z.1, j, by omega, h2, h4⟩
  · rintro ⟨h1, j, h2, h3, h4⟩
    have z := fwF_v u n h1
    have hb := fwF_bd u n
    have e : ((fwF u n).toNat : Int) = fwF u n := Int.toNat_of_nonneg (by omega)
    refine ⟨(fwF u n).toNat, j, ?_, h3, by rw [e]; exact z, h4⟩
    rcases (show fwF u n < j ∨ fwF u n = j by omega) with q | q
    · omega
    · rw [q, h4] at z; omega
theorem y_fw_loop {r : Int} {Q : QT} (hI : TpM I) (hr : 0 ≤ r ∧ r < I 100 41) (h : Q (some (vi (fwF (tpM I r) (I 126 r).toNat))) (shX nm no) (RX nm no) I) : ∀ (k i : Nat), (I 126 r).toNat - i < k → i ≤ (I 126 r).toNat → fwF (tpM I r) i = -1 → T g d mX12_firstWrong 0 0 2 [some (vr 100), some (vi r), some (vi i)] [] (shX nm no) (RX nm no) I Q := by
  have hs := hI.2.1 r hr.1 hr.2
  have hc := hI.1
  intro k
  induction k with
  | zero => intro i hk; omega
  | succ k ih =>
    intro i hk h1 h2
    have e : fwF (tpM I r) (i + 1) = if fwF (tpM I r) i ≠ -1 then fwF (tpM I r) i else if tpM I r i = 1 then (i : Int) else -1 := rfl
    rw [if_neg (fun z => z h2)] at e
    refine m_iload_n dX12_firstWrong_2 rfl ?_
    refine m_aload_n dX12_firstWrong_3 rfl ?_
    refine m_gr (z := 42) dX12_firstWrong_4 fl_X12_93 oX_100 rfl rfl rX_100_42 ?_
    refine m_iload_n dX12_firstWrong_7 rfl ?_
    refine m_iald dX12_firstWrong_8 sX_126 (by omega) (by omega) ?_
    refine m_icmp_ge (tgt := 33) dX12_firstWrong_9 (by decide) (fun c9 => ?_) (fun c9 => ?_)
    · refine m_iload_n dX12_firstWrong_33 rfl ?_
      refine m_aload_n dX12_firstWrong_34 rfl ?_
      refine m_gr (z := 42) dX12_firstWrong_35 fl_X12_93 oX_100 rfl rfl rX_100_42 ?_
      refine m_iload_n dX12_firstWrong_38 rfl ?_
      refine m_iald dX12_firstWrong_39 sX_126 (by omega) (by omega) ?_
      refine m_icmp_ge (tgt := 47) dX12_firstWrong_40 (by decide) (fun c40 => ?_) (fun c40 => ?_)
      · refine m_iconst dX12_firstWrong_47 (by decide) ?_
        refine m_iret dX12_firstWrong_48 rfl ?_
        first | (exfalso; omega) | (have ei : i = (I 126 r).toNat := (by omega); subst ei; rw [h2] at h; exact h)
      · refine m_iload_n dX12_firstWrong_43 rfl ?_
        refine m_goto (tgt := 48) dX12_firstWrong_44 (by decide) ?_
        refine m_iret dX12_firstWrong_48 rfl ?_
        first | (exfalso; omega) | (rw [fwF_up (tpM I r) (show i + 1 ≤ (I 126 r).toNat by omega) (by omega), e] at h; exact h)
    · refine m_aload_n dX12_firstWrong_12 rfl ?_
      refine m_gr (z := 43) dX12_firstWrong_13 fl_X12_96 oX_100 rfl rfl rX_100_43 ?_
      refine m_bipush dX12_firstWrong_16 rfl (by decide) ?_
      refine m_iload_n dX12_firstWrong_18 rfl ?_
      refine m_imul dX12_firstWrong_19 (by omega) ?_
      refine m_iload_n dX12_firstWrong_20 rfl ?_
      refine m_iadd dX12_firstWrong_21 (by omega) ?_
      refine m_iald dX12_firstWrong_22 sX_127 (by omega) (by omega) ?_
      refine m_iconst dX12_firstWrong_23 (by decide) ?_
      refine m_icmp_eq (tgt := 33) dX12_firstWrong_24 (by decide) (fun c24 => ?_) (fun c24 => ?_)
      · rw [if_pos c24] at e
        refine m_iload_n dX12_firstWrong_33 rfl ?_
        refine m_aload_n dX12_firstWrong_34 rfl ?_
        refine m_gr (z := 42) dX12_firstWrong_35 fl_X12_93 oX_100 rfl rfl rX_100_42 ?_
        refine m_iload_n dX12_firstWrong_38 rfl ?_
        refine m_iald dX12_firstWrong_39 sX_126 (by omega) (by omega) ?_
        refine m_icmp_ge (tgt := 47) dX12_firstWrong_40 (by decide) (fun c40 => ?_) (fun c40 => ?_)
        · refine m_iconst dX12_firstWrong_47 (by decide) ?_
          refine m_iret dX12_firstWrong_48 rfl ?_
          first | (exfalso; omega) | (have ei : i = (I 126 r).toNat := (by omega); subst ei; rw [h2] at h; exact h)
        · refine m_iload_n dX12_firstWrong_43 rfl ?_
          refine m_goto (tgt := 48) dX12_firstWrong_44 (by decide) ?_
          refine m_iret dX12_firstWrong_48 rfl ?_
          first | (exfalso; omega) | (rw [fwF_up (tpM I r) (show i + 1 ≤ (I 126 r).toNat by omega) (by omega), e] at h; exact h)
      · rw [if_neg c24] at e
        refine m_iinc dX12_firstWrong_27 rfl (by decide) rfl rfl (by omega) ?_
        refine m_goto (tgt := 2) dX12_firstWrong_30 (by decide) ?_
        exact ih (i + 1) (by omega) (by omega) e
theorem y_firstWrong {r : Int} (hI : TpM I) (hr : 0 ≤ r ∧ r < I 100 41) : SP g d mX12_firstWrong 0 0 [vr 100, vi r] (shX nm no) (RX nm no) I (some (vi (fwF (tpM I r) (I 126 r).toNat))) (shX nm no) (RX nm no) I := by
  intro Q h
  refine C_of rfl (Nat.le_of_ble_eq_true rfl) rfl ?_
  refine m_iconst dX12_firstWrong_0 (by decide) ?_
  refine m_istore_n dX12_firstWrong_1 (by decide) rfl rfl ?_
  exact y_fw_loop hI hr h ((I 126 r).toNat + 1) 0 (by omega) (by omega) rfl
theorem y_lr_loop {r wr : Int} {Q : QT} (hI : TpM I) (hr : 0 ≤ r ∧ r < I 100 41) : ∀ n : Nat, n ≤ 7 → Q (some (vi (lrF (tpM I r) n))) (shX nm no) (RX nm no) I → T g d mX12_lastRight 0 0 4 [some (vr 100), some (vi r), some (vi wr), some (vi ((n : Int) - 1))] [] (shX nm no) (RX nm no) I Q := by
  have hc := hI.1
  intro n
  induction n with
  | zero =>
    intro _ h
    refine m_iload_n dX12_lastRight_4 rfl ?_
    refine m_if_lt (tgt := 28) dX12_lastRight_5 (by decide) (fun c5 => ?_) (fun c5 => ?_)
    · refine m_iload_n dX12_lastRight_28 rfl ?_
      refine m_iret dX12_lastRight_29 rfl ?_
      exact h
    · omega
  | succ n ih =>
    intro hn h
    have e : lrF (tpM I r) (n + 1) = if tpM I r n = 0 then (n : Int) else lrF (tpM I r) n := rfl
    have en : ((n + 1 : Nat) : Int) - 1 = n := by omega
    rw [en]
    refine m_iload_n dX12_lastRight_4 rfl ?_
    refine m_if_lt (tgt := 28) dX12_lastRight_5 (by decide) (fun c5 => ?_) (fun c5 => ?_)
    · refine m_iload_n dX12_lastRight_28 rfl ?_
      refine m_iret dX12_lastRight_29 rfl ?_
      first | (exfalso; omega) | (rw [e] at h; exact h)
    · refine m_aload_n dX12_lastRight_8 rfl ?_
      refine m_gr (z := 43) dX12_lastRight_9 fl_X12_96 oX_100 rfl rfl rX_100_43 ?_
      refine m_bipush dX12_lastRight_12 rfl (by decide) ?_
      refine m_iload_n dX12_lastRight_14 rfl ?_
      refine m_imul dX12_lastRight_15 (by omega) ?_
      refine m_iload_n dX12_lastRight_16 rfl ?_
      refine m_iadd dX12_lastRight_17 (by omega) ?_
      refine m_iald dX12_lastRight_18 sX_127 (by omega) (by omega) ?_
      refine m_if_eq (tgt := 28) dX12_lastRight_19 (by decide) (fun c19 => ?_) (fun c19 => ?_)
      · rw [if_pos c19] at e
        refine m_iload_n dX12_lastRight_28 rfl ?_
        refine m_iret dX12_lastRight_29 rfl ?_
        first | (exfalso; omega) | (rw [e] at h; exact h)
      · rw [if_neg c19] at e
        refine m_iinc dX12_lastRight_22 rfl (by decide) rfl rfl (by omega) ?_
        refine m_goto (tgt := 4) dX12_lastRight_25 (by decide) ?_
        rw [e] at h
        exact ih (by omega) h
theorem y_lastRight {r wr : Int} (hI : TpM I) (hr : 0 ≤ r ∧ r < I 100 41) (hw : 0 ≤ wr ∧ wr ≤ 7) : SP g d mX12_lastRight 0 0 [vr 100, vi r, vi wr] (shX nm no) (RX nm no) I (some (vi (lrF (tpM I r) wr.toNat))) (shX nm no) (RX nm no) I := by
  intro Q h
  refine C_of rfl (Nat.le_of_ble_eq_true rfl) rfl ?_
  refine m_iload_n dX12_lastRight_0 rfl ?_
  refine m_iconst dX12_lastRight_1 (by decide) ?_
  refine m_isub dX12_lastRight_2 (by omega) ?_
  refine m_istore_n dX12_lastRight_3 (by decide) rfl rfl ?_
  have z := y_lr_loop (g := g) (d := d) (wr := wr) hI hr wr.toNat (by omega) h
  rw [Int.toNat_of_nonneg hw.1] at z
  exact z
theorem y_dq_loop {r : Int} {Q : QT} (hI : TpM I) (hr : 0 ≤ r ∧ r < I 100 41) (hw : fwF (tpM I r) (I 126 r).toNat ≠ -1) (h : ∀ f, isB f (∃ j : Nat, fwF (tpM I r) (I 126 r).toNat ≤ j ∧ j < (I 126 r).toNat ∧ tpM I r j = 0) → Q (some (vi f)) (shX nm no) (RX nm no) I) : ∀ (k i : Nat) (f : Int), (I 126 r).toNat - i < k → i ≤ (I 126 r).toNat → fwF (tpM I r) (I 126 r).toNat ≤ i → isB f (∃ j : Nat, fwF (tpM I r) (I 126 r).toNat ≤ j ∧ j < i ∧ tpM I r j = 0) → T g d mX12_doesQuarrel 0 0 11 [some (vr 100), some (vi r), some (vi f), some (vi (fwF (tpM I r) (I 126 r).toNat)), some (vi i)] [] (shX nm no) (RX nm no) I Q := by
  have hs := hI.2.1 r hr.1 hr.2
  have hc := hI.1
  intro k
  induction k with
  | zero => intro i f hk; omega
  | succ k ih =>
    intro i f hk h1 h2 he
    have hf := he.1
    refine m_iload dX12_doesQuarrel_11 rfl ?_
    refine m_aload_n dX12_doesQuarrel_13 rfl ?_
    refine m_gr (z := 42) dX12_doesQuarrel_14 fl_X12_93 oX_100 rfl rfl rX_100_42 ?_
    refine m_iload_n dX12_doesQuarrel_17 rfl ?_
    refine m_iald dX12_doesQuarrel_18 sX_126 (by omega) (by omega) ?_
    refine m_icmp_ge (tgt := 58) dX12_doesQuarrel_19 (by decide) (fun c19 => ?_) (fun c19 => ?_)
    · have ei : i = (I 126 r).toNat := by omega
      rw [ei] at he
      refine m_iload_n dX12_doesQuarrel_58 rfl ?_
      refine m_zret dX12_doesQuarrel_59 rfl hf ?_
      first | exact h f he | exact absurd c24 hw
    · refine m_iload_n dX12_doesQuarrel_22 rfl ?_
      refine m_iconst dX12_doesQuarrel_23 (by decide) ?_
      refine m_icmp_eq (tgt := 58) dX12_doesQuarrel_24 (by decide) (fun c24 => ?_) (fun c24 => ?_)
      · refine m_iload_n dX12_doesQuarrel_58 rfl ?_
        refine m_zret dX12_doesQuarrel_59 rfl hf ?_
        first | exact h f he | exact absurd c24 hw
      · refine m_iload_n dX12_doesQuarrel_27 rfl ?_
        refine m_tif_ne (tgt := 46) (M := 51) dX12_doesQuarrel_28 (by decide) (fun c28 hM28 => by
            refine m_iconst dX12_doesQuarrel_46 (by decide) ?_
            refine m_goto (tgt := 51) dX12_doesQuarrel_47 (by decide) ?_
            exact hM28
          ) (fun c28 hM28 => by
            refine m_aload_n dX12_doesQuarrel_31 rfl ?_
            refine m_gr (z := 43) dX12_doesQuarrel_32 fl_X12_96 oX_100 rfl rfl rX_100_43 ?_
            refine m_bipush dX12_doesQuarrel_35 rfl (by decide) ?_
            refine m_iload_n dX12_doesQuarrel_37 rfl ?_
            refine m_imul dX12_doesQuarrel_38 (by omega) ?_
            refine m_iload dX12_doesQuarrel_39 rfl ?_
            refine m_iadd dX12_doesQuarrel_41 (by omega) ?_
            refine m_iald dX12_doesQuarrel_42 sX_127 (by omega) (by omega) ?_
            refine m_tif_ne (tgt := 50) (M := 51) dX12_doesQuarrel_43 (by decide) (fun c43 hM43 => by
                refine m_iconst dX12_doesQuarrel_50 (by decide) ?_
                exact hM43
              ) (fun c43 hM43 => by
                refine m_iconst dX12_doesQuarrel_46 (by decide) ?_
                refine m_goto (tgt := 51) dX12_doesQuarrel_47 (by decide) ?_
                exact hM43
              ) ?_
            exact hM28
          ) ?_
        refine m_top (bI (f = 1 ∨ I 127 (7 * r + i) = 0)) (by unfold bI; (repeat' split) <;> first | rfl | omega) ?_
        refine m_istore_n dX12_doesQuarrel_51 (by decide) rfl rfl ?_
        refine m_iinc dX12_doesQuarrel_52 rfl (by decide) rfl rfl (by omega) ?_
        refine m_goto (tgt := 11) dX12_doesQuarrel_55 (by decide) ?_
        refine ih (i + 1) _ (by omega) (by omega) (by omega) (isB_bI ?_)
        constructor
        · rintro (z1 | z1)
          · obtain ⟨j, j1, j2, j3⟩ := he.2.mp z1
            exact ⟨j, j1, by omega, j3⟩
          · exact ⟨i, h2, by omega, z1⟩
        · rintro ⟨j, j1, j2, j3⟩
          rcases (show j < i ∨ j = i by omega) with q | q
          · exact Or.inl (he.2.mpr ⟨j, j1, q, j3⟩)
          · subst q; exact Or.inr j3
theorem y_doesQuarrel {r : Int} (hd : 1 ≤ d) (hI : TpM I) (hr : 0 ≤ r ∧ r < I 100 41) : SP g d mX12_doesQuarrel 0 0 [vr 100, vi r] (shX nm no) (RX nm no) I (some (vi (bP (qrP (tpM I r) (I 126 r).toNat)))) (shX nm no) (RX nm no) I := by
  have hs := hI.2.1 r hr.1 hr.2
  have hc := hI.1
  intro Q h
  refine C_of rfl (Nat.le_of_ble_eq_true rfl) rfl ?_
  refine m_iconst dX12_doesQuarrel_0 (by decide) ?_
  refine m_istore_n dX12_doesQuarrel_1 (by decide) rfl rfl ?_
  refine m_aload_n dX12_doesQuarrel_2 rfl ?_
  refine m_iload_n dX12_doesQuarrel_3 rfl ?_
  refine m_Vi [_] dX12_doesQuarrel_4 lk_X12_333 rfl oX_100 rfl (Nat.le_of_ble_eq_true rfl) (by omega) (y_firstWrong hI hr) ?_
  refine m_istore_n dX12_doesQuarrel_7 (by decide) rfl rfl ?_
  refine m_iload_n dX12_doesQuarrel_8 rfl ?_
  refine m_istore dX12_doesQuarrel_9 (by decide) rfl rfl ?_
  have hb := fwF_bd (tpM I r) (I 126 r).toNat
  by_cases hw : fwF (tpM I r) (I 126 r).toNat = -1
  · rw [hw]
    rw [bP_f (fun z => ((qr_iff _ _).mp z).1 hw)] at h
    refine m_iload dX12_doesQuarrel_11 rfl ?_
    refine m_aload_n dX12_doesQuarrel_13 rfl ?_
    refine m_gr (z := 42) dX12_doesQuarrel_14 fl_X12_93 oX_100 rfl rfl rX_100_42 ?_
    refine m_iload_n dX12_doesQuarrel_17 rfl ?_
    refine m_iald dX12_doesQuarrel_18 sX_126 (by omega) (by omega) ?_
    refine m_icmp_ge (tgt := 58) dX12_doesQuarrel_19 (by decide) (fun c19 => ?_) (fun c19 => ?_)
    · omega
    · refine m_iload_n dX12_doesQuarrel_22 rfl ?_
      refine m_iconst dX12_doesQuarrel_23 (by decide) ?_
      refine m_icmp_eq (tgt := 58) dX12_doesQuarrel_24 (by decide) (fun c24 => ?_) (fun c24 => ?_)
      · refine m_iload_n dX12_doesQuarrel_58 rfl ?_
        refine m_zret dX12_doesQuarrel_59 rfl (Or.inl rfl) ?_
        exact h
      · exact absurd rfl c24
  · obtain ⟨i, ei⟩ : ∃ i : Nat, fwF (tpM I r) (I 126 r).toNat = i := ⟨(fwF (tpM I r) (I 126 r).toNat).toNat, by omega⟩
    have z := y_dq_loop (g := g) (d := d) (nm := nm) (no := no) (Q := Q) hI hr hw (fun f he => ?_) ((I 126 r).toNat + 1) i 0 (by omega) (by omega) (by omega) (isB_0 (fun ⟨j, j1, j2, _⟩ => by omega))
    · rw [ei] at z ⊢
      exact z
    · rw [(he.cg ⟨fun z => (qr_iff _ _).mpr ⟨hw, z⟩, fun z => ((qr_iff _ _).mp z).2⟩ : isB f (qrP (tpM I r) (I 126 r).toNat)).bp]
      exact h
theorem py_lead {r : Int} (hd : 2 ≤ d) (hI : TpM I) : SI g d mX12_lead [vr 100, vi r] (shX nm no) (RX nm no) I (fun q J => J = I ∧ ((¬ (0 ≤ r ∧ r ≤ I 100 41 - 1) ∧ q = -2) ∨ ((0 ≤ r ∧ r ≤ I 100 41 - 1) ∧ qrP (tpM I r) (I 126 r).toNat ∧ q = -4) ∨ ((0 ≤ r ∧ r ≤ I 100 41 - 1) ∧ ¬ qrP (tpM I r) (I 126 r).toNat ∧ fwF (tpM I r) (I 126 r).toNat = -1 ∧ q = -1) ∨ ((0 ≤ r ∧ r ≤ I 100 41 - 1) ∧ ¬ qrP (tpM I r) (I 126 r).toNat ∧ fwF (tpM I r) (I 126 r).toNat ≠ -1 ∧ q = 10 * (lrF (tpM I r) (fwF (tpM I r) (I 126 r).toNat).toNat + 1) + fwF (tpM I r) (I 126 r).toNat))) := by
  have hc := hI.1
  intro Q h
  refine C_of rfl (Nat.le_of_ble_eq_true rfl) rfl ?_
  refine m_aload_n dX12_lead_0 rfl ?_
  refine m_iload_n dX12_lead_1 rfl ?_
  refine m_Vi [_] dX12_lead_2 lk_X12_330 rfl oX_100 rfl (Nat.le_of_ble_eq_true rfl) (by omega) (y_isRow (by omega) ⟨by omega, by omega⟩) ?_
  refine m_if_ne (tgt := 11) dX12_lead_5 (by decide) (fun c5 => ?_) (fun c5 => ?_)
  · have z5 := bI_ne0 c5
    have hr : 0 ≤ r ∧ r < I 100 41 := by omega
    have hs := hI.2.1 r hr.1 hr.2
    have f0 := fwF_bd (tpM I r) (I 126 r).toNat
    have l0 := lrF_bd (tpM I r) (fwF (tpM I r) (I 126 r).toNat).toNat
    refine m_aload_n dX12_lead_11 rfl ?_
    refine m_iload_n dX12_lead_12 rfl ?_
    refine m_Vi [_] dX12_lead_13 lk_X12_333 rfl oX_100 rfl (Nat.le_of_ble_eq_true rfl) (by omega) (y_firstWrong hI hr) ?_
    refine m_istore_n dX12_lead_16 (by decide) rfl rfl ?_
    refine m_iload_n dX12_lead_17 rfl ?_
    refine m_iconst dX12_lead_18 (by decide) ?_
    refine m_icmp_ne (tgt := 24) dX12_lead_19 (by decide) (fun c19 => ?_) (fun c19 => ?_)
    · refine m_aload_n dX12_lead_24 rfl ?_
      refine m_iload_n dX12_lead_25 rfl ?_
      refine m_Vi [_] dX12_lead_26 lk_X12_337 rfl oX_100 rfl (Nat.le_of_ble_eq_true rfl) (by omega) (y_doesQuarrel (by omega) hI hr) ?_
      refine m_if_eq (tgt := 37) dX12_lead_29 (by decide) (fun c29 => ?_) (fun c29 => ?_)
      · have z29 := bP_eq0 c29
        refine m_bipush dX12_lead_37 rfl (by decide) ?_
        refine m_aload_n dX12_lead_39 rfl ?_
        refine m_iload_n dX12_lead_40 rfl ?_
        refine m_iload_n dX12_lead_41 rfl ?_
        refine m_Vi [_, _] dX12_lead_42 lk_X12_340 rfl oX_100 rfl (Nat.le_of_ble_eq_true rfl) (by omega) (y_lastRight hI hr ⟨by omega, by omega⟩) ?_
        refine m_iconst dX12_lead_45 (by decide) ?_
        refine m_iadd dX12_lead_46 (by omega) ?_
        refine m_imul dX12_lead_47 (by omega) ?_
        refine m_iload_n dX12_lead_48 rfl ?_
        refine m_iadd dX12_lead_49 (by omega) ?_
        refine m_iret dX12_lead_50 rfl ?_
        exact h _ _ ⟨rfl, Or.inr (Or.inr (Or.inr ⟨z5, z29, c19, rfl⟩))⟩
      · have z29 := bP_ne0 c29
        refine m_bipush dX12_lead_32 rfl (by decide) ?_
        refine m_goto (tgt := 50) dX12_lead_34 (by decide) ?_
        refine m_iret dX12_lead_50 rfl ?_
        exact h _ _ ⟨rfl, Or.inr (Or.inl ⟨z5, z29, rfl⟩)⟩
    · refine m_iconst dX12_lead_22 (by decide) ?_
      refine m_iret dX12_lead_23 rfl ?_
      exact h _ _ ⟨rfl, Or.inr (Or.inr (Or.inl ⟨z5, fun z => ((qr_iff _ _).mp z).1 (by omega), by omega, rfl⟩))⟩
  · have z5 := bI_eq0 (show _ = (0 : Int) by omega)
    refine m_bipush dX12_lead_8 rfl (by decide) ?_
    refine m_iret dX12_lead_10 rfl ?_
    exact h _ _ ⟨rfl, Or.inl ⟨z5, rfl⟩⟩
def bsF (s : Int) : Nat → Int
  | 0 => 0
  | k + 1 => bsF s k + f_iand (f_ishr s k) 1
theorem bs_ok : ∀ s : Fin 256, bsF s.val 8 = pcF s.val ∧ ∀ k : Fin 9, 0 ≤ bsF s.val k.val ∧ bsF s.val k.val ≤ 8 := by decide +kernel
theorem y_bits_loop {s : Nat} {Q : QT} (hs : s < 256) (h : Q (some (vi (pcF s))) (shX nm no) (RX nm no) I) : ∀ (k i : Nat), 8 - i < k → i ≤ 8 → T g d mX12_bits 0 0 4 [some (vi s), some (vi (bsF s i)), some (vi i)] [] (shX nm no) (RX nm no) I Q := by
  intro k
  induction k with
  | zero => intro i hk; omega
  | succ k ih =>
    intro i hk h1
    have hb := (bs_ok ⟨s, hs⟩).2
    refine m_iload_n dX12_bits_4 rfl ?_
    refine m_bipush dX12_bits_5 rfl (by decide) ?_
    refine m_icmp_ge (tgt := 24) dX12_bits_7 (by decide) (fun c7 => ?_) (fun c7 => ?_)
    · have ei : i = 8 := by omega
      subst ei
      rw [← (bs_ok ⟨s, hs⟩).1] at h
      refine m_iload_n dX12_bits_24 rfl ?_
      refine m_iret dX12_bits_25 rfl ?_
      exact h
    · have hb1 := hb ⟨i + 1, by omega⟩
      have e1 : bsF s (i + 1) = bsF s i + f_iand (f_ishr s i) 1 := rfl
      refine m_iload_n dX12_bits_10 rfl ?_
      refine m_iload_n dX12_bits_11 rfl ?_
      refine m_iload_n dX12_bits_12 rfl ?_
      refine m_ishr dX12_bits_13 ?_
      refine m_iconst dX12_bits_14 (by decide) ?_
      refine m_iand dX12_bits_15 ?_
      refine m_iadd dX12_bits_16 (by rw [← e1]; have a1 : 0 ≤ bsF s (i + 1) := hb1.1; have a2 : bsF s (i + 1) ≤ 8 := hb1.2; exact ⟨by omega, by omega⟩) ?_
      rw [← e1]
      refine m_istore_n dX12_bits_17 (by decide) rfl rfl ?_
      refine m_iinc dX12_bits_18 rfl (by decide) rfl rfl (by omega) ?_
      refine m_goto (tgt := 4) dX12_bits_21 (by decide) ?_
      exact ih (i + 1) (by omega) (by omega)
theorem y_bits {s : Nat} (hs : s < 256) : SP g d mX12_bits 0 0 [vi s] (shX nm no) (RX nm no) I (some (vi (pcF s))) (shX nm no) (RX nm no) I := by
  intro Q h
  refine C_of rfl (Nat.le_of_ble_eq_true rfl) rfl ?_
  refine m_iconst dX12_bits_0 (by decide) ?_
  refine m_istore_n dX12_bits_1 (by decide) rfl rfl ?_
  refine m_iconst dX12_bits_2 (by decide) ?_
  refine m_istore_n dX12_bits_3 (by decide) rfl rfl ?_
  exact y_bits_loop hs h 9 0 (by omega) (by omega)
theorem sh1 {a i : Int} (h0 : 0 ≤ a) (h1 : R32 a) (hi : 0 ≤ i ∧ i < 32) : f_iand (f_ishr a i) 1 = 1 ↔ bt a i := by
  rw [shr32 h1 hi.1 hi.2, and1, bt_iff h0]
  have hp : (1 : Int) ≤ 2 ^ i.toNat := by have h9 : (0 : Int) < 2 ^ i.toNat := Int.pow_pos (by decide); omega
  exact ⟨by have := Int.ediv_nonneg h0 (show (0 : Int) ≤ 2 ^ i.toNat by omega); omega, by have := Int.ediv_le_self (2 ^ i.toNat) h0; omega⟩
/-- a row of tapes is explained by the clerks s -/
def blR (u v : Int → Int) (n : Nat) (s : Int) : Prop := fwF u n ≤ 0 ∨ qrP u n ∨ ∃ k : Int, max 0 (lrF u (fwF u n).toNat) ≤ k ∧ k < fwF u n ∧ bt s (v k)
def blA (I : II) (s : Int) (n : Int) : Prop := ∀ r : Int, 0 ≤ r → r < n → blR (tpM I r) (ckM I r) (I 126 r).toNat s
theorem blA_up {I : II} {s n : Int} (h : blA I s n) (h2 : blR (tpM I n) (ckM I n) (I 126 n).toNat s) : blA I s (n + 1) := fun r r0 r1 => by
  rcases (show r < n ∨ r = n by omega) with z | z
  · exact h r r0 z
  · rw [z]; exact h2
theorem y_ab_inner {r s f x5 lo : Int} {Q : QT} (hI : TpM I) (hr : 0 ≤ r ∧ r < I 100 41) (hs : 0 ≤ s ∧ s < 256) (hlo : 0 ≤ lo)
    (hk : ∀ u i : Int, isB u (∃ k : Int, lo ≤ k ∧ k < fwF (tpM I r) (I 126 r).toNat ∧ bt s (ckM I r k)) → T g d mX12_areBlamed 0 0 102 [some (vr 100), some (vi s), some (vi f), some (vi r), some (vi (fwF (tpM I r) (I 126 r).toNat)), some (vi x5), some (vi u), some (vi i)] [] (shX nm no) (RX nm no) I Q) :
    ∀ (k : Nat) (i u : Int), (fwF (tpM I r) (I 126 r).toNat - i).toNat < k → lo ≤ i → i ≤ fwF (tpM I r) (I 126 r).toNat → isB u (∃ k : Int, lo ≤ k ∧ k < i ∧ bt s (ckM I r k)) → T g d mX12_areBlamed 0 0 57 [some (vr 100), some (vi s), some (vi f), some (vi r), some (vi (fwF (tpM I r) (I 126 r).toNat)), some (vi x5), some (vi u), some (vi i)] [] (shX nm no) (RX nm no) I Q := by
  have hz := hI.2.1 r hr.1 hr.2
  have hc := hI.1
  have hb := fwF_bd (tpM I r) (I 126 r).toNat
  intro k
  induction k with
  | zero => intro i u hk; omega
  | succ k ih =>
    intro i u hk2 h1 h2 he
    have hu := he.1
    refine m_iload dX12_areBlamed_57 rfl ?_
    refine m_iload dX12_areBlamed_59 rfl ?_
    refine m_icmp_ge (tgt := 102) dX12_areBlamed_61 (by decide) (fun c61 => ?_) (fun c61 => ?_)
    · have ei : i = fwF (tpM I r) (I 126 r).toNat := by omega
      rw [ei] at he
      exact hk _ _ he
    · have hv := hI.2.2 (7 * r + i) (by omega) (by omega)
      have hsh := sh1 (i := ckM I r i) hs.1 ⟨by omega, by omega⟩ ⟨hv.1, by have := hv.2; show I 128 (7 * r + i) < 32; omega⟩
      refine m_iload dX12_areBlamed_64 rfl ?_
      refine m_tif_ne (tgt := 89) (M := 94) dX12_areBlamed_66 (by decide) (fun c66 hM66 => by
          refine m_iconst dX12_areBlamed_89 (by decide) ?_
          refine m_goto (tgt := 94) dX12_areBlamed_90 (by decide) ?_
          exact hM66
        ) (fun c66 hM66 => by
          refine m_iload_n dX12_areBlamed_69 rfl ?_
          refine m_aload_n dX12_areBlamed_70 rfl ?_
          refine m_gr (z := 44) dX12_areBlamed_71 fl_X12_99 oX_100 rfl rfl rX_100_44 ?_
          refine m_bipush dX12_areBlamed_74 rfl (by decide) ?_
          refine m_iload_n dX12_areBlamed_76 rfl ?_
          refine m_imul dX12_areBlamed_77 (by omega) ?_
          refine m_iload dX12_areBlamed_78 rfl ?_
          refine m_iadd dX12_areBlamed_80 (by omega) ?_
          refine m_iald dX12_areBlamed_81 sX_128 (by omega) (by omega) ?_
          refine m_ishr dX12_areBlamed_82 ?_
          refine m_iconst dX12_areBlamed_83 (by decide) ?_
          refine m_iand dX12_areBlamed_84 ?_
          refine m_iconst dX12_areBlamed_85 (by decide) ?_
          refine m_ticmp_ne (tgt := 93) (M := 94) dX12_areBlamed_86 (by decide) (fun c86 hM86 => by
              refine m_iconst dX12_areBlamed_93 (by decide) ?_
              exact hM86
            ) (fun c86 hM86 => by
              refine m_iconst dX12_areBlamed_89 (by decide) ?_
              refine m_goto (tgt := 94) dX12_areBlamed_90 (by decide) ?_
              exact hM86
            ) ?_
          exact hM66
        ) ?_
      refine m_top (bI (u = 1 ∨ bt s (I 128 (7 * r + i)))) (by
        have e : bI (u = 1 ∨ bt s (I 128 (7 * r + i))) = bI (u = 1 ∨ f_iand (f_ishr s (I 128 (7 * r + i))) 1 = 1) := by
          by_cases z : f_iand (f_ishr s (I 128 (7 * r + i))) 1 = 1
          · rw [bI_t (Or.inr z), bI_t (Or.inr (hsh.mp z))]
          · by_cases z2 : u = 1
            · rw [bI_t (Or.inl z2), bI_t (Or.inl z2)]
            · rw [bI_f (fun q => q.elim z2 (fun q => z (hsh.mpr q))), bI_f (fun q => q.elim z2 z)]
        rw [e]
        clear hsh e
        unfold bI
        (repeat' split) <;> first | rfl | omega) ?_
      refine m_istore dX12_areBlamed_94 (by decide) rfl rfl ?_
      refine m_iinc dX12_areBlamed_96 rfl (by decide) rfl rfl (by omega) ?_
      refine m_goto (tgt := 57) dX12_areBlamed_99 (by decide) ?_
      refine ih (i + 1) _ (by omega) (by omega) (by omega) (isB_bI ?_)
      constructor
      · rintro (z1 | z1)
        · obtain ⟨j, j1, j2, j3⟩ := he.2.mp z1
          exact ⟨j, j1, by omega, j3⟩
        · exact ⟨i, h1, by omega, z1⟩
      · rintro ⟨j, j1, j2, j3⟩
        rcases (show j < i ∨ j = i by omega) with q | q
        · exact Or.inl (he.2.mpr ⟨j, j1, q, j3⟩)
        · subst q; exact Or.inr j3
theorem y_ab_rows {s : Int} {Q : QT} (hd : 2 ≤ d) (hI : TpM I) (hs : 0 ≤ s ∧ s < 256) (h : Q (some (vi (bP (blA I s (I 100 41))))) (shX nm no) (RX nm no) I) :
    ∀ (k : Nat) (r f : Int) (l4 l5 l6 l7 : Option AV), (I 100 41 - r).toNat < k → 0 ≤ r → r ≤ I 100 41 → isB f (blA I s r) → T g d mX12_areBlamed 0 0 4 [some (vr 100), some (vi s), some (vi f), some (vi r), l4, l5, l6, l7] [] (shX nm no) (RX nm no) I Q := by
  have hc := hI.1
  intro k
  induction k with
  | zero => intro r f l4 l5 l6 l7 hk; omega
  | succ k ih =>
    intro r f l4 l5 l6 l7 hk2 h0 h1 he
    have hf := he.1
    refine m_iload_n dX12_areBlamed_4 rfl ?_
    refine m_aload_n dX12_areBlamed_5 rfl ?_
    refine m_gi (z := 41) dX12_areBlamed_6 fl_X12_327 oX_100 rfl rfl ?_
    refine m_icmp_ge (tgt := 123) dX12_areBlamed_9 (by decide) (fun c9 => ?_) (fun c9 => ?_)
    · have er : r = I 100 41 := by omega
      rw [er] at he
      refine m_iload_n dX12_areBlamed_123 rfl ?_
      refine m_zret dX12_areBlamed_124 rfl hf ?_
      rw [he.bp]
      exact h
    · have hr : 0 ≤ r ∧ r < I 100 41 := by omega
      have hz := hI.2.1 r hr.1 hr.2
      have f0 := fwF_bd (tpM I r) (I 126 r).toNat
      have l0 := lrF_bd (tpM I r) (fwF (tpM I r) (I 126 r).toNat).toNat
      refine m_aload_n dX12_areBlamed_12 rfl ?_
      refine m_iload_n dX12_areBlamed_13 rfl ?_
      refine m_Vi [_] dX12_areBlamed_14 lk_X12_333 rfl oX_100 rfl (Nat.le_of_ble_eq_true rfl) (by omega) (y_firstWrong hI hr) ?_
      refine m_istore dX12_areBlamed_17 (by decide) rfl rfl ?_
      refine m_iload dX12_areBlamed_19 rfl ?_
      refine m_if_le (tgt := 117) dX12_areBlamed_21 (by decide) (fun c21 => ?_) (fun c21 => ?_)
      · have hbl : blR (tpM I r) (ckM I r) (I 126 r).toNat s := Or.inl c21
        refine m_iinc dX12_areBlamed_117 rfl (by decide) rfl rfl (by omega) ?_
        refine m_goto (tgt := 4) dX12_areBlamed_120 (by decide) ?_
        refine ih (r + 1) f _ _ _ _ (by omega) (by omega) (by omega) (he.cg ⟨fun z => blA_up z hbl, fun z q q0 q1 => z q q0 (by omega)⟩)
      · refine m_aload_n dX12_areBlamed_24 rfl ?_
        refine m_iload_n dX12_areBlamed_25 rfl ?_
        refine m_Vi [_] dX12_areBlamed_26 lk_X12_337 rfl oX_100 rfl (Nat.le_of_ble_eq_true rfl) (by omega) (y_doesQuarrel (by omega) hI hr) ?_
        refine m_if_ne (tgt := 117) dX12_areBlamed_29 (by decide) (fun c29 => ?_) (fun c29 => ?_)
        · have hbl : blR (tpM I r) (ckM I r) (I 126 r).toNat s := Or.inr (Or.inl (bP_ne0 c29))
          refine m_iinc dX12_areBlamed_117 rfl (by decide) rfl rfl (by omega) ?_
          refine m_goto (tgt := 4) dX12_areBlamed_120 (by decide) ?_
          refine ih (r + 1) f _ _ _ _ (by omega) (by omega) (by omega) (he.cg ⟨fun z => blA_up z hbl, fun z q q0 q1 => z q q0 (by omega)⟩)
        · have hq := bP_eq0 (show _ = (0 : Int) by omega)
          refine m_aload_n dX12_areBlamed_32 rfl ?_
          refine m_iload_n dX12_areBlamed_33 rfl ?_
          refine m_iload dX12_areBlamed_34 rfl ?_
          refine m_Vi [_, _] dX12_areBlamed_36 lk_X12_340 rfl oX_100 rfl (Nat.le_of_ble_eq_true rfl) (by omega) (y_lastRight hI hr ⟨by omega, by omega⟩) ?_
          refine m_istore dX12_areBlamed_39 (by decide) rfl rfl ?_
          refine m_iconst dX12_areBlamed_41 (by decide) ?_
          refine m_istore dX12_areBlamed_42 (by decide) rfl rfl ?_
          refine m_iload dX12_areBlamed_44 rfl ?_
          refine m_tif_ge (tgt := 53) (M := 55) dX12_areBlamed_46 (by decide) (fun c46 hM46 => by
              refine m_iload dX12_areBlamed_53 rfl ?_
              exact hM46
            ) (fun c46 hM46 => by
              refine m_iconst dX12_areBlamed_49 (by decide) ?_
              refine m_goto (tgt := 55) dX12_areBlamed_50 (by decide) ?_
              exact hM46
            ) ?_
          refine m_top (max 0 (lrF (tpM I r) (fwF (tpM I r) (I 126 r).toNat).toNat)) (by split <;> omega) ?_
          refine m_istore dX12_areBlamed_55 (by decide) rfl rfl ?_
          refine y_ab_inner hI hr hs (lo := max 0 (lrF (tpM I r) (fwF (tpM I r) (I 126 r).toNat).toNat)) (by omega) (fun u i hue => ?_) _ _ 0 (Nat.lt_succ_self _) (Int.le_refl _) (by omega) (isB_0 (fun ⟨j, j1, j2, _⟩ => by omega))
          have hu := hue.1
          refine m_iload_n dX12_areBlamed_102 rfl ?_
          refine m_tif_eq (tgt := 115) (M := 116) dX12_areBlamed_103 (by decide) (fun c103 hM103 => by
              refine m_iconst dX12_areBlamed_115 (by decide) ?_
              exact hM103
            ) (fun c103 hM103 => by
              refine m_iload dX12_areBlamed_106 rfl ?_
              refine m_tif_eq (tgt := 115) (M := 116) dX12_areBlamed_108 (by decide) (fun c108 hM108 => by
                  refine m_iconst dX12_areBlamed_115 (by decide) ?_
                  exact hM108
                ) (fun c108 hM108 => by
                  refine m_iconst dX12_areBlamed_111 (by decide) ?_
                  refine m_goto (tgt := 116) dX12_areBlamed_112 (by decide) ?_
                  exact hM108
                ) ?_
              exact hM103
            ) ?_
          refine m_top (bI (f = 1 ∧ u = 1)) (by unfold bI; (repeat' split) <;> first | rfl | omega) ?_
          refine m_istore_n dX12_areBlamed_116 (by decide) rfl rfl ?_
          refine m_iinc dX12_areBlamed_117 rfl (by decide) rfl rfl (by omega) ?_
          refine m_goto (tgt := 4) dX12_areBlamed_120 (by decide) ?_
          refine ih (r + 1) _ _ _ _ _ (by omega) (by omega) (by omega) (isB_bI ?_)
          constructor
          · intro z1
            exact blA_up (he.2.mp z1.1) (Or.inr (Or.inr (hue.2.mp z1.2)))
          · intro z
            refine ⟨he.2.mpr (fun q q0 q1 => z q q0 (by omega)), hue.2.mpr ?_⟩
            rcases z r h0 (by omega) with a | a | a
            · omega
            · exact absurd a hq
            · exact a
theorem y_areBlamed {s : Int} (hd : 2 ≤ d) (hI : TpM I) (hs : 0 ≤ s ∧ s < 256) : SP g d mX12_areBlamed 0 0 [vr 100, vi s] (shX nm no) (RX nm no) I (some (vi (bP (blA I s (I 100 41))))) (shX nm no) (RX nm no) I := by
  intro Q h
  refine C_of rfl (Nat.le_of_ble_eq_true rfl) rfl ?_
  refine m_iconst dX12_areBlamed_0 (by decide) ?_
  refine m_istore_n dX12_areBlamed_1 (by decide) rfl rfl ?_
  refine m_iconst dX12_areBlamed_2 (by decide) ?_
  refine m_istore_n dX12_areBlamed_3 (by decide) rfl rfl ?_
  exact y_ab_rows hd hI hs h _ 0 1 _ _ _ _ (Nat.lt_succ_self _) (by omega) hI.1.1 (isB_1 (fun r r0 r1 => by omega))
theorem y_bl_loop {Q : QT} (hd : 3 ≤ d) (hI : TpM I) (h : Q (some (vi (fbF (fun s => blA I s (I 100 41)) 256))) (shX nm no) (RX nm no) I) : ∀ (k i : Nat), 256 - i < k → i ≤ 256 → T g d mX12_blamed 0 0 6 [some (vr 100), some (vi (fbF (fun s => blA I s (I 100 41)) i)), some (vi i)] [] (shX nm no) (RX nm no) I Q := by
  intro k
  induction k with
  | zero => intro i hk; omega
  | succ k ih =>
    intro i hk h1
    have hb := fbF_bd (fun s => blA I s (I 100 41)) i h1
    have e : fbF (fun s => blA I s (I 100 41)) (i + 1) = if pcF i < pcF (fbF (fun s => blA I s (I 100 41)) i) ∧ bP (blA I i (I 100 41)) ≠ 0 then i else fbF (fun s => blA I s (I 100 41)) i := rfl
    refine m_iload_n dX12_blamed_6 rfl ?_
    refine m_sipush dX12_blamed_7 rfl (by decide) ?_
    refine m_icmp_ge (tgt := 44) dX12_blamed_10 (by decide) (fun c10 => ?_) (fun c10 => ?_)
    · have ei : i = 256 := by omega
      subst ei
      refine m_iload_n dX12_blamed_44 rfl ?_
      refine m_iret dX12_blamed_45 rfl ?_
      exact h
    · refine m_iload_n dX12_blamed_13 rfl ?_
      refine m_Si [_] dX12_blamed_14 lk_X12_343 rfl rfl (Nat.le_of_ble_eq_true rfl) (by omega) (y_bits (by omega)) ?_
      refine m_iload_n dX12_blamed_17 rfl ?_
      refine m_Si [_] dX12_blamed_18 lk_X12_343 rfl rfl (Nat.le_of_ble_eq_true rfl) (by omega) (y_bits hb) ?_
      refine m_ticmp_ge (tgt := 36) (M := 37) dX12_blamed_21 (by decide) (fun c21 hM21 => by
          refine m_iload_n dX12_blamed_36 rfl ?_
          exact hM21
        ) (fun c21 hM21 => by
          refine m_aload_n dX12_blamed_24 rfl ?_
          refine m_iload_n dX12_blamed_25 rfl ?_
          refine m_Vi [_] dX12_blamed_26 lk_X12_346 rfl oX_100 rfl (Nat.le_of_ble_eq_true rfl) (by omega) (y_areBlamed (by omega) hI ⟨by omega, by omega⟩) ?_
          refine m_tif_eq (tgt := 36) (M := 37) dX12_blamed_29 (by decide) (fun c29 hM29 => by
              refine m_iload_n dX12_blamed_36 rfl ?_
              exact hM29
            ) (fun c29 hM29 => by
              refine m_iload_n dX12_blamed_32 rfl ?_
              refine m_goto (tgt := 37) dX12_blamed_33 (by decide) ?_
              exact hM29
            ) ?_
          exact hM21
        ) ?_
      refine m_top (fbF (fun s => blA I s (I 100 41)) (i + 1) : Nat) (by rw [e]; (repeat' split) <;> first | rfl | omega) ?_
      refine m_istore_n dX12_blamed_37 (by decide) rfl rfl ?_
      refine m_iinc dX12_blamed_38 rfl (by decide) rfl rfl (by omega) ?_
      refine m_goto (tgt := 6) dX12_blamed_41 (by decide) ?_
      exact ih (i + 1) (by omega) (by omega)
theorem py_blamed (hd : 3 ≤ d) (hI : TpM I) : SP g d mX12_blamed 0 0 [vr 100] (shX nm no) (RX nm no) I (some (vi (fbF (fun s => blA I s (I 100 41)) 256))) (shX nm no) (RX nm no) I := by
  intro Q h
  refine C_of rfl (Nat.le_of_ble_eq_true rfl) rfl ?_
  refine m_sipush dX12_blamed_0 rfl (by decide) ?_
  refine m_istore_n dX12_blamed_3 (by decide) rfl rfl ?_
  refine m_iconst dX12_blamed_4 (by decide) ?_
  refine m_istore_n dX12_blamed_5 (by decide) rfl rfl ?_
  exact y_bl_loop hd hI h 257 0 (by omega) (by omega)
end
