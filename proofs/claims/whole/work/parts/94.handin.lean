/-! CLASS: force; Message.<init>, handIn, message -/
section
variable {g : GH} {d nm no : Nat} {I : II}
theorem px_force (hm : nm ≤ 24) (hno : no ≤ 6) (hT : TxI I) (hG : GvI g) (h3 : I 37 3 = no) (hN : NetI I) (ht : 0 ≤ I 43 5 ∧ I 43 5 ≤ 9000) (hl : 0 ≤ I 37 4 ∧ I 37 4 ≤ 99) (hd : 10 ≤ d) : ∀ Q : QT, (∀ r J, ((∃ k r', rdO (I 47) (I 46 1) k r' ∧ r' ≠ -1) ∧ r = -4 ∧ FrO I J (300 + no) (310 + no) (320 + no) (330 + no)) ∨ ((∃ k, rdO (I 47) (I 46 1) k (-1)) ∧ no = 6 ∧ r = -5 ∧ FrO I J (300 + no) (310 + no) (320 + no) (330 + no)) → Q (some (vi r)) (shX nm no) (RX nm no) J) → (∀ J, no < 6 → (∃ k K, rdO (I 47) (I 46 1) k (-1) ∧ FrO I K (300 + no) (310 + no) (320 + no) (330 + no) ∧ RO (I 47) (I 46 1) (300 + no) (310 + no) (320 + no) (k + 1) K ∧ (∀ o : Int, 0 ≤ o → o < 8 → K (330 + no) o = -1) ∧ ENP no (I 43 5) (upI K 46 1 0) J) → Q (some (vi no)) (shX nm (no + 1)) (RX nm (no + 1)) J) → C g d mX11_force 4 26 [vr 20] (shX nm no) (RX nm no) I Q := by
  intro Q h hh
  refine C_of rfl (Nat.le_of_ble_eq_true rfl) rfl ?_
  refine m_aload_n dX11_force_0 rfl ?_
  refine m_gr (z := 3) dX11_force_1 fl_X11_35 oX_20 rfl rfl rX_20_3 ?_
  refine m_aload_n dX11_force_4 rfl ?_
  refine m_gr (z := 1) dX11_force_5 fl_X11_19 oX_20 rfl rfl rX_20_1 ?_
  refine m_gr (z := 2) dX11_force_8 fl_X11_203 oX_37 rfl rfl rX_draft ?_
  refine m_VI [_] dX11_force_11 lk_X11_207 rfl oX_46 rfl (Nat.le_of_ble_eq_true rfl) (by omega) (x_readInto rfl rfl hT (ord_at (Nat.le_refl no) hm hno) (ds_draft hno) hG (by omega)) ?_
  intro r11 I11 q11
  refine m_iconst dX11_force_14 (by decide) ?_
  refine m_icmp_eq (tgt := 21) dX11_force_15 (by decide) (fun c15 => ?_) (fun c15 => ?_)
  · obtain ⟨k, z1, z2, z3, z4⟩ := q11
    rw [c15] at z1
    have ro := z3 c15
    have e37 : I11 37 = I 37 := z2.1 37 (by decide) (by omega) (by omega) (by omega) (by omega)
    have e43 : I11 43 = I 43 := z2.1 43 (by decide) (by omega) (by omega) (by omega) (by omega)
    have e21 : I11 21 = I 21 := z2.1 21 (by decide) (by omega) (by omega) (by omega) (by omega)
    refine m_aload_n dX11_force_21 rfl ?_
    refine m_gr (z := 1) dX11_force_22 fl_X11_19 oX_20 rfl rfl rX_20_1 ?_
    refine m_gi (z := 3) dX11_force_25 fl_X11_211 oX_37 rfl rfl ?_
    rw [e37, h3]
    refine m_bipush dX11_force_28 rfl (by decide) ?_
    refine m_icmp_ne (tgt := 36) dX11_force_30 (by decide) (fun c30 => ?_) (fun c30 => ?_)
    · refine m_aload_n dX11_force_36 rfl ?_
      refine m_gr (z := 3) dX11_force_37 fl_X11_35 oX_20 rfl rfl rX_20_3 ?_
      refine m_iconst dX11_force_40 (by decide) ?_
      refine m_pi (z := 1) dX11_force_41 fl_X11_196 oX_46 rfl rfl rfl ?_
      refine m_aload_n dX11_force_44 rfl ?_
      refine m_gr (z := 1) dX11_force_45 fl_X11_19 oX_20 rfl rfl rX_20_1 ?_
      refine m_aload_n dX11_force_48 rfl ?_
      refine m_gr (z := 0) dX11_force_49 fl_X11_10 oX_20 rfl rfl rX_20_0 ?_
      refine m_aload_n dX11_force_52 rfl ?_
      refine m_gr (z := 2) dX11_force_53 fl_X11_28 oX_20 rfl rfl rX_20_2 ?_
      refine m_gi (z := 5) dX11_force_56 fl_X11_105 oX_43 rfl rfl ?_
      rw [upI_o (show (43 : Nat) ≠ 46 by omega)]
      have eo : ∀ x, x ≠ 46 → x < 300 → upI I11 46 1 0 x = I x := fun x hx h3' => by rw [upI_o hx]; exact z2.1 x hx (by omega) (by omega) (by omega) (by omega)
      have nI : NetI (upI I11 46 1 0) := by
        unfold NetI
        rw [eo 21 (by decide) (by decide), eo 22 (by decide) (by decide), eo 23 (by decide) (by decide), eo 24 (by decide) (by decide), eo 25 (by decide) (by decide), eo 26 (by decide) (by decide), eo 27 (by decide) (by decide)]
        exact hN
      refine m_callV [_, _] dX11_force_59 lk_X11_212 rfl oX_37 rfl (Nat.le_of_ble_eq_true rfl) (show d - 1 < d by omega) (Nat.le_refl _) (Nat.le_refl _) (x_enact hG hm (by omega) (by rw [eo 37 (by decide) (by decide)]; exact h3) nI (by rw [e43]; exact ht) (by rw [eo 37 (by decide) (by decide)]; exact hl) (by omega) _ (fun J hJ => ?_))
      rw [e43] at hJ
      exact m_iret dX11_force_62 rfl (hh J (by omega) ⟨k, I11, z1, z2, ro, z4, hJ⟩)
    · refine m_bipush dX11_force_33 rfl (by decide) ?_
      refine m_iret dX11_force_35 rfl ?_
      exact h _ _ (Or.inr ⟨⟨k, z1⟩, by omega, rfl, z2⟩)
  · obtain ⟨k, z1, z2, z3, z4⟩ := q11
    refine m_bipush dX11_force_18 rfl (by decide) ?_
    refine m_iret dX11_force_20 rfl ?_
    exact h _ _ (Or.inl ⟨⟨k, _, z1, c15⟩, rfl, z2⟩)
/-- the law's cells are there -/
def LwA (sh : SH) (R : RR) (no : Nat) : Prop := (sh 37).1 = 2 + 1 ∧ sh 42 = (26, 6) ∧ R 37 0 = some 38 ∧ R 37 1 = some 42 ∧ (∀ n : Int, 0 ≤ n → n < no → R 42 n = some (300 + n.toNat)) ∧ (∀ k : Nat, k < no → OrdAt sh R (300 + k) (310 + k) (320 + k) (330 + k)) ∧ OrdAt sh R 38 39 40 41 ∧ no ≤ 6
section
variable {sh : SH} {R : RR}
theorem g_numbered {n : Int} (hd : 1 ≤ d) (hL : LwA sh R no) (hc : I 37 3 = no) : SP g d mX2_numbered 0 0 [vr 37, vi n] sh R I (some (vr (oid no n))) sh R I := by
  have hno := hL.2.2.2.2.2.2.2
  intro Q h
  refine C_of rfl (Nat.le_of_ble_eq_true rfl) rfl ?_
  refine m_iload_n dX2_numbered_0 rfl ?_
  refine m_iconst dX2_numbered_1 (by decide) ?_
  refine m_aload_n dX2_numbered_2 rfl ?_
  refine m_gi (z := 3) dX2_numbered_3 fl_X2_29 hL.1 rfl rfl ?_
  refine m_iconst dX2_numbered_6 (by decide) ?_
  refine m_isub dX2_numbered_7 (by omega) ?_
  refine m_Ni [_, _, _] dX2_numbered_8 lk_X2_32 rfl rfl (Nat.le_of_ble_eq_true rfl) (by omega) x_isWithin ?_
  refine m_if_eq (tgt := 23) dX2_numbered_11 (by decide) (fun c11 => ?_) (fun c11 => ?_)
  · have z := bI_eq0 c11
    rw [show oid no n = 38 from if_neg (by omega)] at h
    refine m_aload_n dX2_numbered_23 rfl ?_
    refine m_gr (z := 0) dX2_numbered_24 fl_X2_12 hL.1 rfl rfl hL.2.2.1 ?_
    refine m_aret dX2_numbered_27 rfl ?_
    exact h
  · have z := bI_ne0 c11
    rw [show oid no n = 300 + n.toNat from if_pos (by omega)] at h
    refine m_aload_n dX2_numbered_14 rfl ?_
    refine m_gr (z := 1) dX2_numbered_15 fl_X2_18 hL.1 rfl rfl hL.2.2.2.1 ?_
    refine m_iload_n dX2_numbered_18 rfl ?_
    refine m_al dX2_numbered_19 hL.2.1 (by decide) (by omega) (by omega) (hL.2.2.2.2.1 n (by omega) (by omega)) ?_
    refine m_goto (tgt := 27) dX2_numbered_20 (by decide) ?_
    refine m_aret dX2_numbered_27 rfl ?_
    exact h
theorem g_ngb_loop {v t : Int} {Q : QT} (hd : 1 ≤ d) (hL : LwA sh R no) (h0 : 0 ≤ v) (h1 : v < 8) : ∀ (n : Nat), n ≤ no → Q (some (vi (gbF I v t n))) sh R I → T g d mX2_numberGoneBy 0 0 7 [some (vr 37), some (vi v), some (vi t), some (vi ((n : Int) - 1))] [] sh R I Q := by
  have hno := hL.2.2.2.2.2.2.2
  intro n
  induction n with
  | zero =>
    intro hn h
    refine m_iload_n dX2_numberGoneBy_7 rfl ?_
    refine m_if_lt (tgt := 33) dX2_numberGoneBy_8 (by decide) (fun c8 => ?_) (fun c8 => ?_)
    · refine m_iconst dX2_numberGoneBy_33 (by decide) ?_
      refine m_iret dX2_numberGoneBy_34 rfl ?_
      exact h
    · omega
  | succ n ih =>
    intro hn h
    have ho := hL.2.2.2.2.2.1 n (by omega)
    refine m_iload_n dX2_numberGoneBy_7 rfl ?_
    refine m_if_lt (tgt := 33) dX2_numberGoneBy_8 (by decide) (fun c8 => ?_) (fun c8 => ?_)
    · omega
    · refine m_aload_n dX2_numberGoneBy_11 rfl ?_
      refine m_gr (z := 1) dX2_numberGoneBy_12 fl_X2_18 hL.1 rfl rfl hL.2.2.2.1 ?_
      refine m_iload_n dX2_numberGoneBy_15 rfl ?_
      refine m_al dX2_numberGoneBy_16 hL.2.1 (by decide) (by omega) (by omega) (show R 42 (((n + 1 : Nat) : Int) - 1) = some (300 + n) by rw [hL.2.2.2.2.1 _ (by omega) (by omega)]; congr 1; omega) ?_
      refine m_iload_n dX2_numberGoneBy_17 rfl ?_
      refine m_iload_n dX2_numberGoneBy_18 rfl ?_
      refine m_Vi [_, _] dX2_numberGoneBy_19 lk_X2_36 rfl ho.1 rfl (Nat.le_of_ble_eq_true rfl) (by omega) (x_isKnown ho h0 h1) ?_
      refine m_if_eq (tgt := 27) dX2_numberGoneBy_22 (by decide) (fun c22 => ?_) (fun c22 => ?_)
      · have z := bI_eq0 c22
        rw [show gbF I v t (n + 1) = gbF I v t n from if_neg z] at h
        refine m_iinc dX2_numberGoneBy_27 rfl (by decide) rfl rfl (by omega) ?_
        refine m_goto (tgt := 7) dX2_numberGoneBy_30 (by decide) ?_
        have e := ih (by omega) h
        rw [show ((n : Int) - 1) = ((n + 1 : Nat) : Int) - 1 + -1 by omega] at e
        exact e
      · have z := bI_ne0 c22
        rw [show gbF I v t (n + 1) = n from if_pos z] at h
        refine m_iload_n dX2_numberGoneBy_25 rfl ?_
        refine m_iret dX2_numberGoneBy_26 rfl ?_
        rw [show (((n + 1 : Nat) : Int) - 1) = n by omega]
        exact h
theorem g_numberGoneBy {v t : Int} (hd : 1 ≤ d) (hL : LwA sh R no) (hc : I 37 3 = no) (h0 : 0 ≤ v) (h1 : v < 8) : SP g d mX2_numberGoneBy 0 0 [vr 37, vi v, vi t] sh R I (some (vi (gbF I v t no))) sh R I := by
  have hno := hL.2.2.2.2.2.2.2
  intro Q h
  refine C_of rfl (Nat.le_of_ble_eq_true rfl) rfl ?_
  refine m_aload_n dX2_numberGoneBy_0 rfl ?_
  refine m_gi (z := 3) dX2_numberGoneBy_1 fl_X2_29 hL.1 rfl rfl ?_
  rw [hc]
  refine m_iconst dX2_numberGoneBy_4 (by decide) ?_
  refine m_isub dX2_numberGoneBy_5 (by omega) ?_
  refine m_istore_n dX2_numberGoneBy_6 (by decide) rfl rfl ?_
  exact g_ngb_loop hd hL h0 h1 no (Nat.le_refl _) h
theorem g_goneBy {v t : Int} (hd : 2 ≤ d) (hL : LwA sh R no) (hc : I 37 3 = no) (h0 : 0 ≤ v) (h1 : v < 8) : SP g d mX2_goneBy 0 0 [vr 37, vi v, vi t] sh R I (some (vr (goX I no v t))) sh R I := by
  intro Q h
  refine C_of rfl (Nat.le_of_ble_eq_true rfl) rfl ?_
  refine m_aload_n dX2_goneBy_0 rfl ?_
  refine m_aload_n dX2_goneBy_1 rfl ?_
  refine m_iload_n dX2_goneBy_2 rfl ?_
  refine m_iload_n dX2_goneBy_3 rfl ?_
  refine m_Vi [_, _] dX2_goneBy_4 lk_X2_40 rfl hL.1 rfl (Nat.le_of_ble_eq_true rfl) (by omega) (g_numberGoneBy (by omega) hL hc h0 h1) ?_
  refine m_Vr [_] dX2_goneBy_7 lk_X2_44 rfl hL.1 rfl (Nat.le_of_ble_eq_true rfl) (by omega) (g_numbered (by omega) hL hc) ?_
  refine m_aret dX2_goneBy_10 rfl ?_
  exact h
abbrev nMi (I : II) (q : Nat) : II := upI (upI (upI (upI (upI (upI (upI (upI I q 5 0) q 7 (-1)) q 8 (-1)) q 9 (-1)) q 11 (-1)) q 12 (-1)) q 13 (-1)) q 14 (-1)
theorem x_init3 {q : Nat} (hd : 1 ≤ d) (hq : (sh q).1 = 3 + 1) : SP g d mX3_init 0 0 [vr q] sh R I none sh R (nMi I q) := by
  intro Q h
  refine C_of rfl (Nat.le_of_ble_eq_true rfl) rfl ?_
  refine m_aload_n dX3_init_0 rfl ?_
  refine m_objInit dX3_init_1 lk_X3_3 (by omega) (Nat.le_of_ble_eq_true rfl) ?_
  refine m_aload_n dX3_init_4 rfl ?_
  refine m_iconst dX3_init_5 (by decide) ?_
  refine m_pi (z := 5) dX3_init_6 fl_X3_9 hq rfl rfl rfl ?_
  refine m_aload_n dX3_init_9 rfl ?_
  refine m_iconst dX3_init_10 (by decide) ?_
  refine m_pi (z := 7) dX3_init_11 fl_X3_15 hq rfl rfl rfl ?_
  refine m_aload_n dX3_init_14 rfl ?_
  refine m_iconst dX3_init_15 (by decide) ?_
  refine m_pi (z := 8) dX3_init_16 fl_X3_18 hq rfl rfl rfl ?_
  refine m_aload_n dX3_init_19 rfl ?_
  refine m_iconst dX3_init_20 (by decide) ?_
  refine m_pi (z := 9) dX3_init_21 fl_X3_21 hq rfl rfl rfl ?_
  refine m_aload_n dX3_init_24 rfl ?_
  refine m_iconst dX3_init_25 (by decide) ?_
  refine m_pi (z := 11) dX3_init_26 fl_X3_24 hq rfl rfl rfl ?_
  refine m_aload_n dX3_init_29 rfl ?_
  refine m_iconst dX3_init_30 (by decide) ?_
  refine m_pi (z := 12) dX3_init_31 fl_X3_27 hq rfl rfl rfl ?_
  refine m_aload_n dX3_init_34 rfl ?_
  refine m_iconst dX3_init_35 (by decide) ?_
  refine m_pi (z := 13) dX3_init_36 fl_X3_30 hq rfl rfl rfl ?_
  refine m_aload_n dX3_init_39 rfl ?_
  refine m_iconst dX3_init_40 (by decide) ?_
  refine m_pi (z := 14) dX3_init_41 fl_X3_33 hq rfl rfl rfl ?_
  refine m_vret dX3_init_44 rfl ?_
  exact h
theorem nMi_o {q x : Nat} (h : x ≠ q) : nMi I q x = I x := by
  unfold nMi; rw [upI_o h, upI_o h, upI_o h, upI_o h, upI_o h, upI_o h, upI_o h, upI_o h]
end
theorem shX_hand {nm no : Nat} (hm : nm < 24) : nwS (nwS (shX nm no) (200 + nm) (3 + 1) 0) (230 + nm) (3 + 1) 0 = shX (nm + 1) no := by
  funext k
  by_cases e1 : k = 230 + nm
  · rw [e1, nwS_s]
    unfold shX
    rw [if_neg (by omega), if_neg (by omega), if_pos (by omega)]
  rw [nwS_o e1]
  by_cases e0 : k = 200 + nm
  · rw [e0, nwS_s]
    unfold shX
    rw [if_neg (by omega), if_pos (by omega)]
  rw [nwS_o e0]
  have f0 : (200 ≤ k ∧ k < 200 + nm) = (200 ≤ k ∧ k < 200 + (nm + 1)) := propext (by omega)
  have f1 : (230 ≤ k ∧ k < 230 + nm) = (230 ≤ k ∧ k < 230 + (nm + 1)) := propext (by omega)
  unfold shX
  simp only [f0, f1]
theorem RX_hand {nm no : Nat} (hm : nm < 24) : upR (nwR (upR (nwR (RX nm no) (200 + nm)) 44 (nm : Int) (some (200 + nm))) (230 + nm)) 45 (nm : Int) (some (230 + nm)) = RX (nm + 1) no := by
  have big : ∀ (a x : Nat) (j : Int), 135 ≤ x → x < 300 → RX a no x j = none := fun a x j h1 h2 => by
    unfold RX
    by_cases jn : j < 0
    · rw [if_pos jn]
    · rw [if_neg jn, if_neg (by omega), if_neg (by omega), if_neg (by omega), if_neg (by omega), if_neg (by omega), if_neg (by omega)]
  have r44 : ∀ (a : Nat) (j : Int), RX a no 44 j = if j < 0 then none else if j < (a : Int) then some (200 + j.toNat) else none := fun a j => by
    unfold RX
    by_cases jn : j < 0
    · rw [if_pos jn, if_pos jn]
    · rw [if_neg jn, if_neg jn, if_pos (show (44 : Nat) = 44 from rfl)]
  have r45 : ∀ (a : Nat) (j : Int), RX a no 45 j = if j < 0 then none else if j < (a : Int) then some (230 + j.toNat) else none := fun a j => by
    unfold RX
    by_cases jn : j < 0
    · rw [if_pos jn, if_pos jn]
    · rw [if_neg jn, if_neg jn, if_neg (show ¬ ((45 : Nat) = 44) by decide), if_pos (show (45 : Nat) = 45 from rfl)]
  funext x j
  by_cases h45 : x = 45
  · subst h45
    by_cases e : j = nm
    · rw [e, upR_s, r45, if_neg (by omega), if_pos (by omega), Int.toNat_natCast]
    · rw [upR_j e, nwR_o (by omega), upR_o (by decide), nwR_o (by omega), r45, r45]
      by_cases jn : j < 0
      · rw [if_pos jn, if_pos jn]
      · rw [if_neg jn, if_neg jn]
        by_cases jl : j < (nm : Int)
        · rw [if_pos jl, if_pos (by omega)]
        · rw [if_neg jl, if_neg (by omega)]
  rw [upR_o h45]
  by_cases h1 : x = 230 + nm
  · rw [h1, nwR_s, big _ _ _ (by omega) (by omega)]
  rw [nwR_o h1]
  by_cases h44 : x = 44
  · subst h44
    by_cases e : j = nm
    · rw [e, upR_s, r44, if_neg (by omega), if_pos (by omega), Int.toNat_natCast]
    · rw [upR_j e, nwR_o (by omega), r44, r44]
      by_cases jn : j < 0
      · rw [if_pos jn, if_pos jn]
      · rw [if_neg jn, if_neg jn]
        by_cases jl : j < (nm : Int)
        · rw [if_pos jl, if_pos (by omega)]
        · rw [if_neg jl, if_neg (by omega)]
  rw [upR_o h44]
  by_cases h0 : x = 200 + nm
  · rw [h0, nwR_s, big _ _ _ (by omega) (by omega)]
  rw [nwR_o h0]
  unfold RX
  rw [if_neg h44, if_neg h44, if_neg h45, if_neg h45]
theorem ordAt_fr {sh sh' : SH} {R R' : RR} {q a b c : Nat} (h : OrdAt sh R q a b c) (e0 : sh' q = sh q) (e1 : sh' a = sh a) (e2 : sh' b = sh b) (e3 : sh' c = sh c) (r : R' q = R q) : OrdAt sh' R' q a b c := by
  unfold OrdAt at *; rw [e0, e1, e2, e3, r]; exact h
theorem lwA_hand {nm no : Nat} (hm : nm < 24) (hno : no ≤ 6) : LwA (nwS (shX nm no) (200 + nm) (3 + 1) 0) (nwR (RX nm no) (200 + nm)) no := by
  refine ⟨by rw [nwS_o (by omega)]; rfl, by rw [nwS_o (by omega)]; rfl, by rw [nwR_o (by omega)]; rfl, by rw [nwR_o (by omega)]; rfl, fun n n0 n1 => by rw [nwR_o (by omega)]; exact rX_forced n0 n1, fun k hk => ?_, ?_, hno⟩
  · exact ordAt_fr (ord_at (nm := nm) (no := no) (k := k) (by omega) (by omega) hno) (nwS_o (by omega)) (nwS_o (by omega)) (nwS_o (by omega)) (nwS_o (by omega)) (nwR_o (by omega))
  · exact ordAt_fr (ord_none (nm := nm) (no := no)) (nwS_o (by omega)) (nwS_o (by omega)) (nwS_o (by omega)) (nwS_o (by omega)) (nwR_o (by omega))
theorem ordAt_go {sh : SH} {R : RR} {no : Nat} (hL : LwA sh R no) (n : Int) : OrdAt sh R (oid no n) (orw (oid no n) 0) (orw (oid no n) 1) (orw (oid no n) 2) := by
  unfold oid
  split
  · have := hL.2.2.2.2.2.1 n.toNat (by omega)
    unfold orw
    rw [if_neg (by omega), if_neg (by omega), if_neg (by omega)]
    have e0 : 300 + n.toNat + 10 + 10 * 0 = 310 + n.toNat := by omega
    have e1 : 300 + n.toNat + 10 + 10 * 1 = 320 + n.toNat := by omega
    have e2 : 300 + n.toNat + 10 + 10 * 2 = 330 + n.toNat := by omega
    rw [e2, e1, e0]
    exact this
  · exact hL.2.2.2.2.2.2.1
end
