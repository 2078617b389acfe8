/-! THE LAW from its entry -/
section
variable {g : GH} {d : Nat} {Q : QT}
theorem law_T (hd : 12 ≤ d) (hG : GvI g) (h2 : (gX g 1).1 ≤ 3072) (hQ : ∀ (nm no : Nat) (I : II), Q (some (vi 1)) (shX nm no) (RX nm no) I) : T g d mL_law 2160 18000 0 [some (vr 1), none, none, none] [] shE RE IE Q := by
  have k11 : clN 11 = 8 := rfl
  have k12 : clN 12 = 56 := rfl
  refine m_new (c := 11) 20 dL_law_0 (by decide) ⟨nw_L_7, ia_X11, iw_X11⟩ rfl (by omega) (by omega) (show clN 11 ≤ _ by first | decide | assumption) ?_
  refine m_dup dL_law_3 (fun _ z => by cases z) ?_
  refine m_Ivb [] dL_law_4 lk_L_9 rfl rfl (Nat.le_of_ble_eq_true rfl) (by omega) (by omega) (by omega) (x_init11 hG (by omega) rfl rfl rfl rfl rfl rfl rfl rfl rfl rfl rfl rfl rfl rfl rfl rfl rfl rfl rfl rfl rfl rfl rfl rfl rfl rfl rfl rfl rfl rfl rfl rfl rfl rfl rfl rfl rfl rfl rfl rfl rfl rfl rfl rfl rfl rfl rfl rfl rfl rfl rfl rfl rfl rfl rfl rfl rfl rfl rfl rfl rfl rfl rfl rfl rfl rfl rfl rfl rfl) ?_
  refine m_astore_n dL_law_7 (by decide) rfl rfl ?_
  refine m_new (c := 12) 100 dL_law_8 (by decide) ⟨nw_L_10, ia_X12, iw_X12⟩ (show _ = 0 from rfl) (by omega) (by omega) (show clN 12 ≤ _ by first | decide | assumption) ?_
  refine m_dup dL_law_11 (fun _ z => by cases z) ?_
  refine m_Ivb [] dL_law_12 lk_L_12 rfl rfl (Nat.le_of_ble_eq_true rfl) (by omega) (by omega) (by omega) (x_init12 (by omega) rfl rfl rfl rfl rfl rfl rfl rfl rfl rfl rfl rfl rfl rfl rfl rfl rfl rfl rfl rfl rfl rfl rfl rfl rfl rfl rfl rfl rfl rfl rfl rfl rfl rfl rfl) ?_
  refine m_astore_n dL_law_15 (by decide) rfl rfl ?_
  refine m_iconst dL_law_16 (by decide) ?_
  refine m_istore_n dL_law_17 (by decide) rfl rfl ?_
  have z := law_loop (d := d) (Q := Q) (by omega) hG h2 hQ 513 0 0 0 (IS g) (by decide) (by omega) (by omega) (Inv_start hG)
  rw [← shS_eq, ← RS_eq] at z
  exact T_le (by omega) (by omega) z
end
