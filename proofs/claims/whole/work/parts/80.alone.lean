/-! NET: soonestBut, goOnFrom, aloneThere; PUBLIC: soonest -/
section
variable {g : GH} {d nm no : Nat} {I : II}
noncomputable def cbF (r : Int → Int) (S : Int → Prop) (k : Nat) : Int := if dbF r S k ≠ -1 ∧ r (dbF r S k) < 1000000 then dbF r S k else -1
theorem cb_no {r : Int → Int} {S : Int → Prop} {k : Nat} (h : S k ∨ r k = 1000000) (hb : ∀ j : Int, 0 ≤ j → j < k → r j ≤ 1000000) : cbF r S (k + 1) = cbF r S k := by
  have hd := db_bd r S k
  have e : dbF r S (k + 1) = cif (¬ S k ∧ (dbF r S k = -1 ∨ r k < r (dbF r S k))) (k : Int) (dbF r S k) := rfl
  unfold cbF
  by_cases z : ¬ S k ∧ (dbF r S k = -1 ∨ r k < r (dbF r S k))
  · have h2 : r k = 1000000 := h.resolve_left z.1
    have h3 : dbF r S k = -1 := by
      rcases z.2 with y | y
      · exact y
      · rcases (show dbF r S k = -1 ∨ 0 ≤ dbF r S k by omega) with x | x
        · exact x
        · have := hb _ x hd.2; omega
    rw [cif_t z] at e
    rw [e, h3, if_neg (fun y => by omega), if_neg (fun y => y.1 rfl)]
  · rw [cif_f z] at e
    rw [e]
theorem cb_yes {r : Int → Int} {S : Int → Prop} {k : Nat} (h : ¬ S k) (hk : r k < 1000000) (hb : ∀ j : Int, 0 ≤ j → j < k → r j ≤ 1000000) : cbF r S (k + 1) = if cbF r S k = -1 ∨ r k < r (cbF r S k) then (k : Int) else cbF r S k := by
  have hd := db_bd r S k
  have e : dbF r S (k + 1) = cif (¬ S k ∧ (dbF r S k = -1 ∨ r k < r (dbF r S k))) (k : Int) (dbF r S k) := rfl
  unfold cbF
  by_cases z : dbF r S k ≠ -1 ∧ r (dbF r S k) < 1000000
  · rw [if_pos z]
    by_cases y : r k < r (dbF r S k)
    · rw [cif_t ⟨h, Or.inr y⟩] at e
      rw [e, if_pos ⟨by omega, hk⟩, if_pos (Or.inr y)]
    · rw [cif_f (fun x => x.2.elim z.1 y)] at e
      rw [e, if_pos z, if_neg (fun x => x.elim z.1 y)]
  · rw [if_neg z, if_pos (Or.inl rfl)]
    have : dbF r S k = -1 ∨ r k < r (dbF r S k) := by
      rcases (show dbF r S k = -1 ∨ 0 ≤ dbF r S k by omega) with x | x
      · exact Or.inl x
      · right
        have := hb _ x hd.2
        have : ¬ r (dbF r S k) < 1000000 := fun y => z ⟨by omega, y⟩
        omega
    rw [cif_t ⟨h, this⟩] at e
    rw [e, if_pos ⟨by omega, hk⟩]
theorem cb_bd (r : Int → Int) (S : Int → Prop) (k : Nat) : -1 ≤ cbF r S k ∧ cbF r S k < k := by
  have := db_bd r S k
  unfold cbF; split <;> omega
theorem x_sb_loop {s : Int} {Q : QT} (hd : 1 ≤ d) (hs : 0 ≤ s) (hb : ∀ j, 0 ≤ j → j < 8 → I 36 j ≤ 1000000) (h : Q (some (vi (cbF (I 36) (fun j => bt s j) 8))) (shX nm no) (RX nm no) I) : ∀ (m k : Nat), 8 - k < m → k ≤ 8 → T g d mX4_soonestBut 0 0 4 [some (vr 21), some (vi s), some (vi (cbF (I 36) (fun j => bt s j) k)), some (vi k)] [] (shX nm no) (RX nm no) I Q := by
  intro m
  induction m with
  | zero => intro k hm; omega
  | succ m ih =>
    intro k hm hk
    have cb := cb_bd (I 36) (fun j => bt s j) k
    refine m_iload_n dX4_soonestBut_4 rfl ?_
    refine m_bipush dX4_soonestBut_5 rfl (by decide) ?_
    refine m_icmp_ge (tgt := 60) dX4_soonestBut_7 (by decide) (fun c7 => ?_) (fun c7 => ?_)
    · have ek : k = 8 := by omega
      subst ek
      refine m_iload_n dX4_soonestBut_60 rfl ?_
      refine m_iret dX4_soonestBut_61 rfl ?_
      exact h
    · have hbk := hb k (by omega) (by omega)
      have hbj : ∀ j, 0 ≤ j → j < (k : Int) → I 36 j ≤ 1000000 := fun j a b => hb j a (by omega)
      refine m_iload_n dX4_soonestBut_10 rfl ?_
      refine m_iload_n dX4_soonestBut_11 rfl ?_
      refine m_Ni [_, _] dX4_soonestBut_12 lk_X4_77 rfl rfl (Nat.le_of_ble_eq_true rfl) (by omega) (x_isIn hs (by omega) (by omega)) ?_
      refine m_if_ne (tgt := 54) dX4_soonestBut_15 (by decide) (fun c15 => ?_) (fun c15 => ?_)
      · have e1 := cb_no (r := I 36) (S := fun j => bt s j) (k := k) (Or.inl (bI_ne0 c15)) hbj
        refine m_iinc dX4_soonestBut_54 rfl (by decide) rfl rfl (by omega) ?_
        refine m_goto (tgt := 4) dX4_soonestBut_57 (by decide) ?_
        have z := ih (k + 1) (by omega) (by omega)
        first
        | (rw [e1] at z; exact z)
        | (rw [e2] at z; exact z)
      · have z15 := bI_eq0 (show _ = (0 : Int) by omega)
        refine m_aload_n dX4_soonestBut_18 rfl ?_
        refine m_gr (z := 8) dX4_soonestBut_19 fl_X4_43 oX_21 rfl rfl rX_21_8 ?_
        refine m_iload_n dX4_soonestBut_22 rfl ?_
        refine m_iald dX4_soonestBut_23 sX_36 (by omega) (by omega) ?_
        refine m_ldc (a := 1000000) dX4_soonestBut_24 kc_X4_76 rfl ?_
        refine m_icmp_ne (tgt := 32) dX4_soonestBut_26 (by decide) (fun c26 => ?_) (fun c26 => ?_)
        · have e2 := cb_yes (r := I 36) (S := fun j => bt s j) (k := k) z15 (by omega) hbj
          refine m_iload_n dX4_soonestBut_32 rfl ?_
          refine m_iconst dX4_soonestBut_33 (by decide) ?_
          refine m_icmp_eq (tgt := 52) dX4_soonestBut_34 (by decide) (fun c34 => ?_) (fun c34 => ?_)
          · rw [if_pos (Or.inl c34)] at e2
            refine m_iload_n dX4_soonestBut_52 rfl ?_
            refine m_istore_n dX4_soonestBut_53 (by decide) rfl rfl ?_
            refine m_iinc dX4_soonestBut_54 rfl (by decide) rfl rfl (by omega) ?_
            refine m_goto (tgt := 4) dX4_soonestBut_57 (by decide) ?_
            have z := ih (k + 1) (by omega) (by omega)
            first
            | (rw [e1] at z; exact z)
            | (rw [e2] at z; exact z)
          · refine m_aload_n dX4_soonestBut_37 rfl ?_
            refine m_gr (z := 8) dX4_soonestBut_38 fl_X4_43 oX_21 rfl rfl rX_21_8 ?_
            refine m_iload_n dX4_soonestBut_41 rfl ?_
            refine m_iald dX4_soonestBut_42 sX_36 (by omega) (by omega) ?_
            refine m_aload_n dX4_soonestBut_43 rfl ?_
            refine m_gr (z := 8) dX4_soonestBut_44 fl_X4_43 oX_21 rfl rfl rX_21_8 ?_
            refine m_iload_n dX4_soonestBut_47 rfl ?_
            refine m_iald dX4_soonestBut_48 sX_36 (by omega) (by omega) ?_
            refine m_icmp_ge (tgt := 54) dX4_soonestBut_49 (by decide) (fun c49 => ?_) (fun c49 => ?_)
            · rw [if_neg (fun x => by omega)] at e2
              refine m_iinc dX4_soonestBut_54 rfl (by decide) rfl rfl (by omega) ?_
              refine m_goto (tgt := 4) dX4_soonestBut_57 (by decide) ?_
              have z := ih (k + 1) (by omega) (by omega)
              first
              | (rw [e1] at z; exact z)
              | (rw [e2] at z; exact z)
            · rw [if_pos (Or.inr (by omega))] at e2
              refine m_iload_n dX4_soonestBut_52 rfl ?_
              refine m_istore_n dX4_soonestBut_53 (by decide) rfl rfl ?_
              refine m_iinc dX4_soonestBut_54 rfl (by decide) rfl rfl (by omega) ?_
              refine m_goto (tgt := 4) dX4_soonestBut_57 (by decide) ?_
              have z := ih (k + 1) (by omega) (by omega)
              first
              | (rw [e1] at z; exact z)
              | (rw [e2] at z; exact z)
        · have e1 := cb_no (r := I 36) (S := fun j => bt s j) (k := k) (Or.inr (by omega)) hbj
          refine m_goto (tgt := 54) dX4_soonestBut_29 (by decide) ?_
          refine m_iinc dX4_soonestBut_54 rfl (by decide) rfl rfl (by omega) ?_
          refine m_goto (tgt := 4) dX4_soonestBut_57 (by decide) ?_
          have z := ih (k + 1) (by omega) (by omega)
          first
          | (rw [e1] at z; exact z)
          | (rw [e2] at z; exact z)
theorem x_soonestBut {s : Int} (hd : 1 ≤ d) (hs : 0 ≤ s) (hb : ∀ j, 0 ≤ j → j < 8 → I 36 j ≤ 1000000) : SP g d mX4_soonestBut 0 0 [vr 21, vi s] (shX nm no) (RX nm no) I (some (vi (cbF (I 36) (fun j => bt s j) 8))) (shX nm no) (RX nm no) I := by
  intro Q h
  refine C_of rfl (Nat.le_of_ble_eq_true rfl) rfl ?_
  refine m_iconst dX4_soonestBut_0 (by decide) ?_
  refine m_istore_n dX4_soonestBut_1 (by decide) rfl rfl ?_
  refine m_iconst dX4_soonestBut_2 (by decide) ?_
  refine m_istore_n dX4_soonestBut_3 (by decide) rfl rfl ?_
  exact x_sb_loop hd hs hb h 9 0 (by omega) (by omega)
theorem oe_oth {I : II} {v o : Int} (hne : I 24 v ≠ I 25 v) (h : I 24 v = o ∨ I 25 v = o) : oeX I v o = othF (I 24) (I 25) v o := by
  unfold oeX othF
  by_cases e : I 24 v = o
  · rw [if_pos e, if_pos e]
  · rw [if_neg e, if_neg e, if_pos (h.resolve_left e)]
theorem djOK_of {I : II} {q : Nat} {pr : Prop} {n m0 last : Int} (hN : NetI I) (hn : 1 ≤ n) (hl : 0 ≤ m0 ∧ m0 ≤ last ∧ last < 1000000) : djOK (I 24) (I 25) (arF I q pr n last) (I 21 9).toNat m0 last := by
  refine ⟨fun v hv => ?_, hl, fun v m hv hm => ?_⟩
  · have := hN.2.1 v (by omega) (by omega)
    exact ⟨this.1, this.2.1⟩
  · have := hN.2.1 v (by omega) (by omega)
    have hk := tk_bd (n := n) (s := I 26 v) hn this.2.2.2.1.1
    have z := arF_bd (I := I) (q := q) (pr := pr) (n := n) (last := last) (v := v) (m := m) hm
    rcases z with z | z
    · exact Or.inl z
    · right
      have z1 : m + (n + I 26 v - 1) / I 26 v ≤ arF I q pr n last v m := z.1
      omega
/-- what a step of the relaxing does to a memory that agrees on the offices -/
theorem eq8_up {f r : Int → Int} {x a b : Int} (h : eq8 f r) (e : a = b) : eq8 (upF f x a) (upF r x b) := fun j j0 j1 => by
  unfold upF
  by_cases z : j = x
  · rw [if_pos z, if_pos z]; exact e
  · rw [if_neg z, if_neg z]; exact h j j0 j1
theorem eq8_id {f r : Int → Int} {x a : Int} (h : eq8 f r) (e : 0 ≤ x → x < 8 → a = r x) : eq8 (upF f x a) r := fun j j0 j1 => by
  unfold upF
  by_cases z : j = x
  · rw [if_pos z, z]; exact e (by omega) (by omega)
  · rw [if_neg z]; exact h j j0 j1
theorem eq8_id2 {f r : Int → Int} {x a : Int} (h : eq8 f r) (e : 0 ≤ x → x < 8 → a = r x) : eq8 f (upF r x a) := fun j j0 j1 => by
  unfold upF
  by_cases z : j = x
  · rw [if_pos z, h j j0 j1, z]; exact (e (by omega) (by omega)).symm
  · rw [if_neg z]; exact h j j0 j1
theorem sok_fr {I J : II} {q : Nat} {pr : Prop} {v K t : Int} (h : ∀ x, x ≠ 36 → J x = I x) (hq : q ≠ 36) : sokT J q pr v K t = sokT I q pr v K t := by
  unfold sokT opX nightX upX stp
  rw [h 21 (by decide), h 22 (by decide), h 23 (by decide), h 24 (by decide), h 25 (by decide), h 28 (by decide), h 29 (by decide), h 30 (by decide), h 31 (by decide), h 32 (by decide), h 33 (by decide), h 34 (by decide), h 35 (by decide), h q hq]
theorem fsT_frq {I J : II} {q : Nat} {pr : Prop} {v K m l r : Int} (h : ∀ x, x ≠ 36 → J x = I x) (hq : q ≠ 36) : fsT J q pr v K m l r = fsT I q pr v K m l r := by
  unfold fsT
  simp only [sok_fr h hq]
theorem x_go_loopN {q : Nat} {o n last m0 : Int} {S : Int → Prop} {r : Int → Int} {Q : QT} (hq36 : q ≠ 36) (hd : 4 ≤ d) (hN : NetI I) (h1 : StI I 28 29 30 31 12) (h2 : StI I 32 33 34 35 6) (hn : 1 ≤ n ∧ n ≤ 198) (ho : 0 ≤ o ∧ o < 8) (hl : 0 ≤ m0 ∧ last = m0 + 3000 ∧ last ≤ 13000) (hb : bdI m0 last r) (hro : r o ≤ last) (hSo : S o) (hSs : ∀ x, 0 ≤ x → x < 8 → S x → r x ≤ r o)
    (h : ∀ J, (∀ x, x ≠ 36 → J x = I x) → eq8 (J 36) (rlF (I 24) (I 25) (arF I q False n last) o S r (I 21 9).toNat) → Q none (shX nm no) (RX nm no) J) :
    ∀ (m v : Nat) (J : II) (l6 l7 l8 : Option AV), (I 21 9).toNat - v < m → v ≤ (I 21 9).toNat → (∀ x, x ≠ 36 → J x = I x) → eq8 (J 36) (rlF (I 24) (I 25) (arF I q False n last) o S r v) → T g d mX4_goOnFrom 0 0 3 [some (vr 21), some (vi o), some (vi n), some (vi last), some (vn), some (vi v), l6, l7, l8] [] (shX nm no) (RX nm no) J Q := by
  have hW := hN.1
  have hDJ := djOK_of (q := q) (pr := False) (m0 := m0) hN hn.1 (show 0 ≤ m0 ∧ m0 ≤ last ∧ last < 1000000 by omega)
  intro m
  induction m with
  | zero => intro v J l6 l7 l8 hm; omega
  | succ m ih =>
    intro v J l6 l7 l8 hm hv hF hE
    have eW : J 21 9 = I 21 9 := by rw [hF 21 (by decide)]
    have eA : J 24 = I 24 := hF 24 (by decide)
    have eB : J 25 = I 25 := hF 25 (by decide)
    have eKJ : Kt J n = Kt I n := kt_of hF
    have hNJ := netI_of hN hF
    have hJ1 : StI J 28 29 30 31 12 := stI_fr (hF _ (by decide)) (hF _ (by decide)) (hF _ (by decide)) (hF _ (by decide)) h1
    have hJ2 : StI J 32 33 34 35 6 := stI_fr (hF _ (by decide)) (hF _ (by decide)) (hF _ (by decide)) (hF _ (by decide)) h2
    have hB := rl_bd (S := S) (r := r) (o := o) hDJ.1 ⟨hDJ.2.1.2.1, hDJ.2.1.2.2⟩ hb (hb.1 o ho.1 ho.2).1 (fun v hv => hDJ.2.2 v (r o) hv (by have := hb.1 o ho.1 ho.2; omega)) v hv
    refine m_iload dX4_goOnFrom_3 rfl ?_
    refine m_aload_n dX4_goOnFrom_5 rfl ?_
    refine m_gi (z := 9) dX4_goOnFrom_6 fl_X4_52 oX_21 rfl rfl ?_
    rw [eW]
    refine m_icmp_ge (tgt := 95) dX4_goOnFrom_9 (by decide) (fun c9 => ?_) (fun c9 => ?_)
    · have ev : v = (I 21 9).toNat := by omega
      subst ev
      refine m_vret dX4_goOnFrom_95 rfl ?_
      exact h J hF hE
    · have hvk := hN.2.1 v (by omega) (by omega)
      have hK := tk_bd (n := n) (s := I 26 v) hn.1 hvk.2.2.2.1.1
      have hKt : 1 ≤ Kt I n v ∧ Kt I n v ≤ n := hK
      have er : rlF (I 24) (I 25) (arF I q False n last) o S r (v + 1) = cif ((I 24 v = o ∨ I 25 v = o) ∧ ¬ S (othF (I 24) (I 25) v o)) (upF (rlF (I 24) (I 25) (arF I q False n last) o S r v) (othF (I 24) (I 25) v o) (min (rlF (I 24) (I 25) (arF I q False n last) o S r v (othF (I 24) (I 25) v o)) ((arF I q False n last) v (r o)))) (rlF (I 24) (I 25) (arF I q False n last) o S r v) := rfl
      refine m_aload_n dX4_goOnFrom_12 rfl ?_
      refine m_iload dX4_goOnFrom_13 rfl ?_
      refine m_iload_n dX4_goOnFrom_15 rfl ?_
      refine m_Vi [_, _] dX4_goOnFrom_16 lk_X4_56 rfl oX_21 rfl (Nat.le_of_ble_eq_true rfl) (by omega) (x_otherEnd (by omega) (by omega)) ?_
      rw [eA, eB]
      refine m_istore dX4_goOnFrom_19 (by decide) rfl rfl ?_
      refine m_iload dX4_goOnFrom_21 rfl ?_
      refine m_iconst dX4_goOnFrom_23 (by decide) ?_
      refine m_icmp_ne (tgt := 30) dX4_goOnFrom_24 (by decide) (fun c24 => ?_) (fun c24 => ?_)
      · have hat : I 24 v = o ∨ I 25 v = o := by
          by_cases y : I 24 v = o
          · exact Or.inl y
          · by_cases y2 : I 25 v = o
            · exact Or.inr y2
            · rw [if_neg y, if_neg y2] at c24; exact absurd rfl c24
        have eo : (if I 24 v = o then I 25 v else if I 25 v = o then I 24 v else -1) = othF (I 24) (I 25) v o := oe_oth hvk.2.2.1 hat
        have hx : 0 ≤ othF (I 24) (I 25) v o ∧ othF (I 24) (I 25) v o < 8 := by unfold othF; split <;> omega
        rw [eo]
        have hox := hB.1.1 (othF (I 24) (I 25) v o) hx.1 hx.2
        have hJo : J 36 o = r o := by rw [hE o ho.1 ho.2]; exact rl_S v o hSo
        refine m_aload_n dX4_goOnFrom_30 rfl ?_
        refine m_iload dX4_goOnFrom_31 rfl ?_
        refine m_iload_n dX4_goOnFrom_33 rfl ?_
        refine m_Vi [_, _] dX4_goOnFrom_34 lk_X4_80 rfl oX_21 rfl (Nat.le_of_ble_eq_true rfl) (by omega) (x_taken (by omega) (by rw [eW]; omega) hNJ ⟨by omega, by omega⟩) ?_
        rw [eKJ]
        refine m_istore dX4_goOnFrom_37 (by decide) rfl rfl ?_
        refine m_aload_n dX4_goOnFrom_39 rfl ?_
        refine m_iload dX4_goOnFrom_40 rfl ?_
        refine m_aload_n dX4_goOnFrom_42 rfl ?_
        refine m_gr (z := 8) dX4_goOnFrom_43 fl_X4_43 oX_21 rfl rfl rX_21_8 ?_
        refine m_iload_n dX4_goOnFrom_46 rfl ?_
        refine m_iald dX4_goOnFrom_47 sX_36 (by omega) (by omega) ?_
        rw [hJo]
        refine m_iload dX4_goOnFrom_48 rfl ?_
        refine m_iload_n dX4_goOnFrom_50 rfl ?_
        refine m_iload dX4_goOnFrom_51 rfl ?_
        refine m_isub dX4_goOnFrom_53 (by omega) ?_
        refine m_aloadN dX4_goOnFrom_54 rfl ?_
        refine m_VI [_, _, _, _, _] dX4_goOnFrom_56 lk_X4_97 rfl oX_21 rfl (Nat.le_of_ble_eq_true rfl) (by omega) (x_startFromN (q := q) (by omega) hNJ hJ1 hJ2 (by rw [eW]; omega) (by have := hb.1 o ho.1 ho.2; omega) (by omega) (by have := hb.1 o ho.1 ho.2; omega)) ?_
        intro r56 I56 q56
        obtain ⟨e56, q56⟩ := q56
        replace e56 := e56.symm
        subst e56
        rw [fsT_frq hF hq36] at q56
        have hfs := fsF_eq (by have := hb.1 o ho.1 ho.2; omega) q56
        refine m_istore dX4_goOnFrom_59 (by decide) rfl rfl ?_
        refine m_iload dX4_goOnFrom_61 rfl ?_
        refine m_iconst dX4_goOnFrom_63 (by decide) ?_
        refine m_icmp_eq (tgt := 89) dX4_goOnFrom_64 (by decide) (fun c64 => ?_) (fun c64 => ?_)
        · have ea : (arF I q False n last) v (r o) = 1000000 := by
            show (if _ = (-1 : Int) then _ else _) = _
            rw [hfs, if_pos c64]
          have hE2 : eq8 (J 36) (rlF (I 24) (I 25) (arF I q False n last) o S r (v + 1)) := by
            rw [er]
            by_cases z : (I 24 v = o ∨ I 25 v = o) ∧ ¬ S (othF (I 24) (I 25) v o)
            · rw [cif_t z, ea]; exact eq8_id2 hE (fun _ _ => by omega)
            · rw [cif_f z]; exact hE
          refine m_iinc dX4_goOnFrom_89 rfl (by decide) rfl rfl (by omega) ?_
          refine m_goto (tgt := 3) dX4_goOnFrom_92 (by decide) ?_
          first
          | exact ih (v + 1) J _ _ _ (by omega) (by omega) hF hE2
          | (refine ih (v + 1) _ _ _ _ (by omega) (by omega) (fun x hx => by rw [upI_o hx]; exact hF x hx) ?_
             rw [upI_36, er]
             by_cases z : S (othF (I 24) (I 25) v o)
             · rw [cif_f (fun y => y.2 z)]
               refine eq8_id hE (fun _ _ => ?_)
               have e9 : rlF (I 24) (I 25) (arF I q False n last) o S r v (othF (I 24) (I 25) v o) = r (othF (I 24) (I 25) v o) := rl_S v _ z
               have e8 := hSs _ hx.1 hx.2 z
               rw [hE _ hx.1 hx.2, e9]
               have k1 : 1 ≤ Kt I n v := hK.1
               omega
             · rw [cif_t ⟨hat, z⟩]
               exact eq8_up hE (by rw [hE _ hx.1 hx.2, ea]))
        · have ea : (arF I q False n last) v (r o) = r56 + Kt I n v := by
            show (if _ = (-1 : Int) then _ else _) = _
            rw [hfs, if_neg c64]
          have hr56 := (q56.resolve_left (fun z => c64 z.1)).1
          refine m_aload_n dX4_goOnFrom_67 rfl ?_
          refine m_gr (z := 8) dX4_goOnFrom_68 fl_X4_43 oX_21 rfl rfl rX_21_8 ?_
          refine m_iload dX4_goOnFrom_71 rfl ?_
          refine m_aload_n dX4_goOnFrom_73 rfl ?_
          refine m_gr (z := 8) dX4_goOnFrom_74 fl_X4_43 oX_21 rfl rfl rX_21_8 ?_
          refine m_iload dX4_goOnFrom_77 rfl ?_
          refine m_iald dX4_goOnFrom_79 sX_36 (by omega) (by omega) ?_
          refine m_iload dX4_goOnFrom_80 rfl ?_
          refine m_iload dX4_goOnFrom_82 rfl ?_
          refine m_iadd dX4_goOnFrom_84 (by have := hb.1 o ho.1 ho.2; omega) ?_
          refine m_min dX4_goOnFrom_85 lk_X4_101 (by omega) (Nat.le_of_ble_eq_true rfl) ?_
          refine m_iast dX4_goOnFrom_88 sX_36 (by omega) (by omega) ?_
          refine m_iinc dX4_goOnFrom_89 rfl (by decide) rfl rfl (by omega) ?_
          refine m_goto (tgt := 3) dX4_goOnFrom_92 (by decide) ?_
          first
          | exact ih (v + 1) J _ _ _ (by omega) (by omega) hF hE2
          | (refine ih (v + 1) _ _ _ _ (by omega) (by omega) (fun x hx => by rw [upI_o hx]; exact hF x hx) ?_
             rw [upI_36, er]
             by_cases z : S (othF (I 24) (I 25) v o)
             · rw [cif_f (fun y => y.2 z)]
               refine eq8_id hE (fun _ _ => ?_)
               have e9 : rlF (I 24) (I 25) (arF I q False n last) o S r v (othF (I 24) (I 25) v o) = r (othF (I 24) (I 25) v o) := rl_S v _ z
               have e8 := hSs _ hx.1 hx.2 z
               rw [hE _ hx.1 hx.2, e9]
               have k1 : 1 ≤ Kt I n v := hK.1
               omega
             · rw [cif_t ⟨hat, z⟩]
               exact eq8_up hE (by rw [hE _ hx.1 hx.2, ea]))
      · have hat : ¬ (I 24 v = o ∨ I 25 v = o) := fun z => by
          rcases z with y | y
          · rw [if_pos y] at c24; omega
          · rw [if_neg (fun z => hvk.2.2.1 (z.trans y.symm)), if_pos y] at c24; omega
        have hE2 : eq8 (J 36) (rlF (I 24) (I 25) (arF I q False n last) o S r (v + 1)) := by rw [er, cif_f (fun z => hat z.1)]; exact hE
        refine m_goto (tgt := 89) dX4_goOnFrom_27 (by decide) ?_
        refine m_iinc dX4_goOnFrom_89 rfl (by decide) rfl rfl (by omega) ?_
        refine m_goto (tgt := 3) dX4_goOnFrom_92 (by decide) ?_
        first
        | exact ih (v + 1) J _ _ _ (by omega) (by omega) hF hE2
        | (refine ih (v + 1) _ _ _ _ (by omega) (by omega) (fun x hx => by rw [upI_o hx]; exact hF x hx) ?_
           rw [upI_36, er]
           by_cases z : S (othF (I 24) (I 25) v o)
           · rw [cif_f (fun y => y.2 z)]
             refine eq8_id hE (fun _ _ => ?_)
             have e9 : rlF (I 24) (I 25) (arF I q False n last) o S r v (othF (I 24) (I 25) v o) = r (othF (I 24) (I 25) v o) := rl_S v _ z
             have e8 := hSs _ hx.1 hx.2 z
             rw [hE _ hx.1 hx.2, e9]
             have k1 : 1 ≤ Kt I n v := hK.1
             omega
           · rw [cif_t ⟨hat, z⟩]
             exact eq8_up hE (by rw [hE _ hx.1 hx.2, ea]))
theorem x_goOnFromN {q : Nat} {o n last m0 : Int} {S : Int → Prop} {r : Int → Int} (hq36 : q ≠ 36) (hd : 4 ≤ d) (hN : NetI I) (h1 : StI I 28 29 30 31 12) (h2 : StI I 32 33 34 35 6) (hn : 1 ≤ n ∧ n ≤ 198) (ho : 0 ≤ o ∧ o < 8) (hl : 0 ≤ m0 ∧ last = m0 + 3000 ∧ last ≤ 13000) (hb : bdI m0 last r) (hro : r o ≤ last) (hSo : S o) (hSs : ∀ x, 0 ≤ x → x < 8 → S x → r x ≤ r o) (hE : eq8 (I 36) r) : SV g d mX4_goOnFrom [vr 21, vi o, vi n, vi last, vn] (shX nm no) (RX nm no) I (fun J => (∀ x, x ≠ 36 → J x = I x) ∧ eq8 (J 36) (rlF (I 24) (I 25) (arF I q False n last) o S r (I 21 9).toNat)) := by
  intro Q h
  refine C_of rfl (Nat.le_of_ble_eq_true rfl) rfl ?_
  refine m_iconst dX4_goOnFrom_0 (by decide) ?_
  refine m_istore dX4_goOnFrom_1 (by decide) rfl rfl ?_
  exact x_go_loopN (q := q) hq36 hd hN h1 h2 hn ho hl hb hro hSo hSs (fun J a b => h J ⟨a, b⟩) _ 0 I _ _ _ (Nat.lt_succ_self _) (by omega) (fun _ _ => rfl) hE
def anS (x : Int) : Int := if x = 1000000 then -1 else x
theorem x_al_loopN {q : Nat} {fr to n m0 : Int} {Q : QT} (hq36 : q ≠ 36) (hd : 5 ≤ d) (hN : NetI I) (h1 : StI I 28 29 30 31 12) (h2 : StI I 32 33 34 35 6) (hn : 1 ≤ n ∧ n ≤ 198) (hf : 0 ≤ fr ∧ fr < 8) (ht : 0 ≤ to ∧ to < 8) (hm : 0 ≤ m0 ∧ m0 ≤ 9000)
    (h : ∀ J, (∀ x, x ≠ 36 → J x = I x) → Q (some (vi (anS ((djF (I 24) (I 25) (arF I q False n (m0 + 3000)) (fun x => if x = fr then m0 else 1000000) (I 21 9).toNat 8).1 to)))) (shX nm no) (RX nm no) J) :
    ∀ (m k : Nat) (J : II) (s : Int) (l8 : Option AV), 8 - k < m → k ≤ 8 → (∀ x, x ≠ 36 → J x = I x) → eq8 (J 36) (djF (I 24) (I 25) (arF I q False n (m0 + 3000)) (fun x => if x = fr then m0 else 1000000) (I 21 9).toNat k).1 → (0 ≤ s ∧ s < 4096) → (∀ j, 0 ≤ j → j < 8 → (bt s j ↔ (djF (I 24) (I 25) (arF I q False n (m0 + 3000)) (fun x => if x = fr then m0 else 1000000) (I 21 9).toNat k).2 j)) → ¬ (djF (I 24) (I 25) (arF I q False n (m0 + 3000)) (fun x => if x = fr then m0 else 1000000) (I 21 9).toNat k).2 to → ctF (djF (I 24) (I 25) (arF I q False n (m0 + 3000)) (fun x => if x = fr then m0 else 1000000) (I 21 9).toNat k).2 8 = k → T g d mX4_aloneThere 0 0 23 [some (vr 21), some (vi fr), some (vi to), some (vi n), some (vi m0), some (vn), some (vi s), some (vi k), l8] [] (shX nm no) (RX nm no) J Q := by
  have hDJ := djOK_of (q := q) (pr := False) (m0 := m0) hN hn.1 (show 0 ≤ m0 ∧ m0 ≤ m0 + 3000 ∧ m0 + 3000 < 1000000 by omega)
  have h0 : bdI m0 (m0 + 3000) (fun x => if x = fr then m0 else 1000000) := ⟨fun j _ _ => by show m0 ≤ (if j = fr then m0 else 1000000) ∧ ((if j = fr then m0 else 1000000) = 1000000 ∨ (if j = fr then m0 else 1000000) ≤ m0 + 3000); split <;> omega, if_neg (by omega)⟩
  intro m
  induction m with
  | zero => intro k J s l8 hm2; omega
  | succ m ih =>
    intro k J s l8 hm2 hk hF hE hs hbt hto hct
    have hB := dj_bd hDJ h0 k
    have hNJ := netI_of hN hF
    have hJ1 : StI J 28 29 30 31 12 := stI_fr (hF _ (by decide)) (hF _ (by decide)) (hF _ (by decide)) (hF _ (by decide)) h1
    have hJ2 : StI J 32 33 34 35 6 := stI_fr (hF _ (by decide)) (hF _ (by decide)) (hF _ (by decide)) (hF _ (by decide)) h2
    have hJb : ∀ j, 0 ≤ j → j < 8 → J 36 j ≤ 1000000 := fun j j0 j1 => by have := hB.1.1 j j0 j1; rw [hE j j0 j1]; omega
    have eAJ : J 24 = I 24 := hF 24 (by decide)
    have eBJ : J 25 = I 25 := hF 25 (by decide)
    have eWJ : J 21 9 = I 21 9 := by rw [hF 21 (by decide)]
    have arJ : arF J q False n (m0 + 3000) = arF I q False n (m0 + 3000) := by
      funext v m
      unfold arF fsF
      rw [show Kt J n = Kt I n from kt_of hF]
      rw [show ∀ K l, fsT J q False v K m l = fsT I q False v K m l from fun K l => funext fun r => fsT_frq hF hq36]
    have edb : dbF (J 36) (fun j => bt s j) 8 = dbF (djF (I 24) (I 25) (arF I q False n (m0 + 3000)) (fun x => if x = fr then m0 else 1000000) (I 21 9).toNat k).1 (djF (I 24) (I 25) (arF I q False n (m0 + 3000)) (fun x => if x = fr then m0 else 1000000) (I 21 9).toNat k).2 8 := db_congr hE hbt 8 (Nat.le_refl _)
    have hbd0 := db_bd (djF (I 24) (I 25) (arF I q False n (m0 + 3000)) (fun x => if x = fr then m0 else 1000000) (I 21 9).toNat k).1 (djF (I 24) (I 25) (arF I q False n (m0 + 3000)) (fun x => if x = fr then m0 else 1000000) (I 21 9).toNat k).2 8
    have ecb : cbF (J 36) (fun j => bt s j) 8 = cbF (djF (I 24) (I 25) (arF I q False n (m0 + 3000)) (fun x => if x = fr then m0 else 1000000) (I 21 9).toNat k).1 (djF (I 24) (I 25) (arF I q False n (m0 + 3000)) (fun x => if x = fr then m0 else 1000000) (I 21 9).toNat k).2 8 := by
      unfold cbF
      rw [edb]
      rcases (show dbF (djF (I 24) (I 25) (arF I q False n (m0 + 3000)) (fun x => if x = fr then m0 else 1000000) (I 21 9).toNat k).1 (djF (I 24) (I 25) (arF I q False n (m0 + 3000)) (fun x => if x = fr then m0 else 1000000) (I 21 9).toNat k).2 8 = -1 ∨ 0 ≤ dbF (djF (I 24) (I 25) (arF I q False n (m0 + 3000)) (fun x => if x = fr then m0 else 1000000) (I 21 9).toNat k).1 (djF (I 24) (I 25) (arF I q False n (m0 + 3000)) (fun x => if x = fr then m0 else 1000000) (I 21 9).toNat k).2 8 by omega) with z | z
      · rw [z, if_neg (fun y => y.1 rfl), if_neg (fun y => y.1 rfl)]
      · rw [hE _ z (by omega)]
    refine m_iload dX4_aloneThere_23 rfl ?_
    refine m_bipush dX4_aloneThere_25 rfl (by decide) ?_
    refine m_icmp_ge (tgt := 89) dX4_aloneThere_27 (by decide) (fun c27 => ?_) (fun c27 => ?_)
    · exfalso
      have ek : k = 8 := by omega
      subst ek
      have := ct_lt (djF (I 24) (I 25) (arF I q False n (m0 + 3000)) (fun x => if x = fr then m0 else 1000000) (I 21 9).toNat 8).2 8 ⟨to.toNat, by omega, by rw [show ((to.toNat : Nat) : Int) = to by omega]; exact hto⟩
      omega
    · refine m_aload_n dX4_aloneThere_30 rfl ?_
      refine m_iload dX4_aloneThere_31 rfl ?_
      refine m_Vi [_] dX4_aloneThere_33 lk_X4_90 rfl oX_21 rfl (Nat.le_of_ble_eq_true rfl) (by omega) (x_soonestBut (by omega) hs.1 hJb) ?_
      refine m_istore dX4_aloneThere_36 (by decide) rfl rfl ?_
      refine m_iload dX4_aloneThere_38 rfl ?_
      refine m_iconst dX4_aloneThere_40 (by decide) ?_
      refine m_icmp_ne (tgt := 46) dX4_aloneThere_41 (by decide) (fun c41 => ?_) (fun c41 => ?_)
      · refine m_iload dX4_aloneThere_46 rfl ?_
        refine m_iload_n dX4_aloneThere_48 rfl ?_
        refine m_icmp_ne (tgt := 59) dX4_aloneThere_49 (by decide) (fun c49 => ?_) (fun c49 => ?_)
        · have hcb : cbF (djF (I 24) (I 25) (arF I q False n (m0 + 3000)) (fun x => if x = fr then m0 else 1000000) (I 21 9).toNat k).1 (djF (I 24) (I 25) (arF I q False n (m0 + 3000)) (fun x => if x = fr then m0 else 1000000) (I 21 9).toNat k).2 8 = dbF (djF (I 24) (I 25) (arF I q False n (m0 + 3000)) (fun x => if x = fr then m0 else 1000000) (I 21 9).toNat k).1 (djF (I 24) (I 25) (arF I q False n (m0 + 3000)) (fun x => if x = fr then m0 else 1000000) (I 21 9).toNat k).2 8 ∧ (djF (I 24) (I 25) (arF I q False n (m0 + 3000)) (fun x => if x = fr then m0 else 1000000) (I 21 9).toNat k).1 (dbF (djF (I 24) (I 25) (arF I q False n (m0 + 3000)) (fun x => if x = fr then m0 else 1000000) (I 21 9).toNat k).1 (djF (I 24) (I 25) (arF I q False n (m0 + 3000)) (fun x => if x = fr then m0 else 1000000) (I 21 9).toNat k).2 8) < 1000000 := by
            rw [ecb] at c41
            unfold cbF at c41 ⊢
            by_cases z : dbF (djF (I 24) (I 25) (arF I q False n (m0 + 3000)) (fun x => if x = fr then m0 else 1000000) (I 21 9).toNat k).1 (djF (I 24) (I 25) (arF I q False n (m0 + 3000)) (fun x => if x = fr then m0 else 1000000) (I 21 9).toNat k).2 8 ≠ -1 ∧ (djF (I 24) (I 25) (arF I q False n (m0 + 3000)) (fun x => if x = fr then m0 else 1000000) (I 21 9).toNat k).1 (dbF (djF (I 24) (I 25) (arF I q False n (m0 + 3000)) (fun x => if x = fr then m0 else 1000000) (I 21 9).toNat k).1 (djF (I 24) (I 25) (arF I q False n (m0 + 3000)) (fun x => if x = fr then m0 else 1000000) (I 21 9).toNat k).2 8) < 1000000
            · rw [if_pos z]; exact ⟨rfl, z.2⟩
            · rw [if_neg z] at c41; exact absurd rfl c41
          rw [ecb, hcb.1] at c49 ⊢
          have hbd := db_bd (djF (I 24) (I 25) (arF I q False n (m0 + 3000)) (fun x => if x = fr then m0 else 1000000) (I 21 9).toNat k).1 (djF (I 24) (I 25) (arF I q False n (m0 + 3000)) (fun x => if x = fr then m0 else 1000000) (I 21 9).toNat k).2 8
          obtain ⟨b, eb⟩ : ∃ b : Nat, dbF (djF (I 24) (I 25) (arF I q False n (m0 + 3000)) (fun x => if x = fr then m0 else 1000000) (I 21 9).toNat k).1 (djF (I 24) (I 25) (arF I q False n (m0 + 3000)) (fun x => if x = fr then m0 else 1000000) (I 21 9).toNat k).2 8 = b := ⟨(dbF (djF (I 24) (I 25) (arF I q False n (m0 + 3000)) (fun x => if x = fr then m0 else 1000000) (I 21 9).toNat k).1 (djF (I 24) (I 25) (arF I q False n (m0 + 3000)) (fun x => if x = fr then m0 else 1000000) (I 21 9).toNat k).2 8).toNat, by rw [ecb, hcb.1] at c41; omega⟩
          have hnS := (db_min (djF (I 24) (I 25) (arF I q False n (m0 + 3000)) (fun x => if x = fr then m0 else 1000000) (I 21 9).toNat k).1 (djF (I 24) (I 25) (arF I q False n (m0 + 3000)) (fun x => if x = fr then m0 else 1000000) (I 21 9).toNat k).2 8 (by omega)).1
          have hmn := (db_min (djF (I 24) (I 25) (arF I q False n (m0 + 3000)) (fun x => if x = fr then m0 else 1000000) (I 21 9).toNat k).1 (djF (I 24) (I 25) (arF I q False n (m0 + 3000)) (fun x => if x = fr then m0 else 1000000) (I 21 9).toNat k).2 8 (by omega)).2
          rw [eb] at c49 hcb hnS hmn hbd ⊢
          refine m_iload dX4_aloneThere_59 rfl ?_
          refine m_iconst dX4_aloneThere_61 (by decide) ?_
          refine m_iload dX4_aloneThere_62 rfl ?_
          refine m_ishl dX4_aloneThere_64 ?_
          refine m_ior dX4_aloneThere_65 ?_
          refine m_istore dX4_aloneThere_66 (by decide) rfl rfl ?_
          refine m_aload_n dX4_aloneThere_68 rfl ?_
          refine m_iload dX4_aloneThere_69 rfl ?_
          refine m_iload_n dX4_aloneThere_71 rfl ?_
          refine m_iload dX4_aloneThere_72 rfl ?_
          refine m_sipush dX4_aloneThere_74 rfl (by decide) ?_
          refine m_iadd dX4_aloneThere_77 (by omega) ?_
          refine m_aloadN dX4_aloneThere_78 rfl ?_
          refine m_VV [_, _, _, _] dX4_aloneThere_80 lk_X4_93 rfl oX_21 rfl (Nat.le_of_ble_eq_true rfl) (by omega) (x_goOnFromN (q := q) (m0 := m0) (S := fun x => (djF (I 24) (I 25) (arF I q False n (m0 + 3000)) (fun x => if x = fr then m0 else 1000000) (I 21 9).toNat k).2 x ∨ x = b) (r := (djF (I 24) (I 25) (arF I q False n (m0 + 3000)) (fun x => if x = fr then m0 else 1000000) (I 21 9).toNat k).1) hq36 (by omega) hNJ hJ1 hJ2 hn (by omega) ⟨hm.1, rfl, by omega⟩ hB.1 (by have := hB.1.1 b (by omega) (by omega); omega) (Or.inr rfl) (fun x x0 x1 hx => hx.elim (fun y => hB.2 x b y x0 x1 (by omega) (by omega) hnS) (fun y => by rw [y]; exact Int.le_refl _)) hE) ?_
          intro I80 q80
          refine m_iinc dX4_aloneThere_83 rfl (by decide) rfl rfl (by omega) ?_
          refine m_goto (tgt := 23) dX4_aloneThere_86 (by decide) ?_
          have hbo := fun j : Int => fun (j0 : 0 ≤ j) => bt_or (j := j) hs.1 hs.2 (show (0 : Int) ≤ b by omega) (show (b : Int) < 12 by omega) j0
          refine ih (k + 1) I80 (f_ior s (f_ishl 1 b)) _ (by omega) (by omega) (fun x hx => (q80.1 x hx).trans (hF x hx)) ?_ ⟨(hbo 0 (by omega)).1, (hbo 0 (by omega)).2.1⟩ (fun j j0 j1 => ?_) (fun z => ?_) ?_
          · rw [dj_1, eb, cif_t hcb.2]
            have q2 := q80.2
            rw [eAJ, eBJ, eWJ, arJ] at q2
            exact q2
          · rw [(hbo j j0).2.2, hbt j j0 j1, dj_2, eb]
          · rw [dj_2, eb] at z
            exact z.elim hto (fun y => c49 y.symm)
          · have ca := ct_add (djF (I 24) (I 25) (arF I q False n (m0 + 3000)) (fun x => if x = fr then m0 else 1000000) (I 21 9).toNat k).2 b 8 hnS
            rw [hct, if_pos (by omega)] at ca
            have e2 : (djF (I 24) (I 25) (arF I q False n (m0 + 3000)) (fun x => if x = fr then m0 else 1000000) (I 21 9).toNat (k + 1)).2 = fun x => (djF (I 24) (I 25) (arF I q False n (m0 + 3000)) (fun x => if x = fr then m0 else 1000000) (I 21 9).toNat k).2 x ∨ x = (b : Int) := by funext x; rw [propext dj_2, eb]
            rw [e2]
            exact ca
        · have hcb : cbF (djF (I 24) (I 25) (arF I q False n (m0 + 3000)) (fun x => if x = fr then m0 else 1000000) (I 21 9).toNat k).1 (djF (I 24) (I 25) (arF I q False n (m0 + 3000)) (fun x => if x = fr then m0 else 1000000) (I 21 9).toNat k).2 8 = dbF (djF (I 24) (I 25) (arF I q False n (m0 + 3000)) (fun x => if x = fr then m0 else 1000000) (I 21 9).toNat k).1 (djF (I 24) (I 25) (arF I q False n (m0 + 3000)) (fun x => if x = fr then m0 else 1000000) (I 21 9).toNat k).2 8 := by
            rw [ecb] at c41
            unfold cbF at c41 ⊢
            by_cases z : dbF (djF (I 24) (I 25) (arF I q False n (m0 + 3000)) (fun x => if x = fr then m0 else 1000000) (I 21 9).toNat k).1 (djF (I 24) (I 25) (arF I q False n (m0 + 3000)) (fun x => if x = fr then m0 else 1000000) (I 21 9).toNat k).2 8 ≠ -1 ∧ (djF (I 24) (I 25) (arF I q False n (m0 + 3000)) (fun x => if x = fr then m0 else 1000000) (I 21 9).toNat k).1 (dbF (djF (I 24) (I 25) (arF I q False n (m0 + 3000)) (fun x => if x = fr then m0 else 1000000) (I 21 9).toNat k).1 (djF (I 24) (I 25) (arF I q False n (m0 + 3000)) (fun x => if x = fr then m0 else 1000000) (I 21 9).toNat k).2 8) < 1000000
            · rw [if_pos z]
            · rw [if_neg z] at c41; exact absurd rfl c41
          rw [ecb, hcb] at c49
          have hto2 : (djF (I 24) (I 25) (arF I q False n (m0 + 3000)) (fun x => if x = fr then m0 else 1000000) (I 21 9).toNat (k + 1)).2 to := Or.inr c49.symm
          have he := (dj_S hto2 (8 - (k + 1))).2
          rw [show k + 1 + (8 - (k + 1)) = 8 by omega] at he
          have he2 : (djF (I 24) (I 25) (arF I q False n (m0 + 3000)) (fun x => if x = fr then m0 else 1000000) (I 21 9).toNat 8).1 to = (djF (I 24) (I 25) (arF I q False n (m0 + 3000)) (fun x => if x = fr then m0 else 1000000) (I 21 9).toNat k).1 to := by
            rw [he, dj_1]
            by_cases z : (djF (I 24) (I 25) (arF I q False n (m0 + 3000)) (fun x => if x = fr then m0 else 1000000) (I 21 9).toNat k).1 (dbF (djF (I 24) (I 25) (arF I q False n (m0 + 3000)) (fun x => if x = fr then m0 else 1000000) (I 21 9).toNat k).1 (djF (I 24) (I 25) (arF I q False n (m0 + 3000)) (fun x => if x = fr then m0 else 1000000) (I 21 9).toNat k).2 8) < 1000000
            · rw [cif_t z]; exact rl_S _ to (Or.inr c49.symm)
            · rw [cif_f z]
          refine m_aload_n dX4_aloneThere_52 rfl ?_
          refine m_gr (z := 8) dX4_aloneThere_53 fl_X4_43 oX_21 rfl rfl rX_21_8 ?_
          refine m_iload_n dX4_aloneThere_56 rfl ?_
          refine m_iald dX4_aloneThere_57 sX_36 (by omega) (by omega) ?_
          refine m_iret dX4_aloneThere_58 rfl ?_
          have hz := hE to ht.1 ht.2
          have hlt : (djF (I 24) (I 25) (arF I q False n (m0 + 3000)) (fun x => if x = fr then m0 else 1000000) (I 21 9).toNat k).1 to < 1000000 := by
            rw [ecb] at c41
            unfold cbF at c41
            by_cases z : dbF (djF (I 24) (I 25) (arF I q False n (m0 + 3000)) (fun x => if x = fr then m0 else 1000000) (I 21 9).toNat k).1 (djF (I 24) (I 25) (arF I q False n (m0 + 3000)) (fun x => if x = fr then m0 else 1000000) (I 21 9).toNat k).2 8 ≠ -1 ∧ (djF (I 24) (I 25) (arF I q False n (m0 + 3000)) (fun x => if x = fr then m0 else 1000000) (I 21 9).toNat k).1 (dbF (djF (I 24) (I 25) (arF I q False n (m0 + 3000)) (fun x => if x = fr then m0 else 1000000) (I 21 9).toNat k).1 (djF (I 24) (I 25) (arF I q False n (m0 + 3000)) (fun x => if x = fr then m0 else 1000000) (I 21 9).toNat k).2 8) < 1000000
            · rw [c49] at z; exact z.2
            · rw [if_neg z] at c41; exact absurd rfl c41
          rw [hz]
          have hx := h J hF
          rw [he2] at hx
          unfold anS at hx
          rw [if_neg (by omega)] at hx
          exact hx
      · have hall : ∀ u, 0 ≤ u → u < 8 → ¬ (djF (I 24) (I 25) (arF I q False n (m0 + 3000)) (fun x => if x = fr then m0 else 1000000) (I 21 9).toNat k).2 u → (djF (I 24) (I 25) (arF I q False n (m0 + 3000)) (fun x => if x = fr then m0 else 1000000) (I 21 9).toNat k).1 u = 1000000 := fun u u0 u1 hu => by
          have hd1 : dbF (djF (I 24) (I 25) (arF I q False n (m0 + 3000)) (fun x => if x = fr then m0 else 1000000) (I 21 9).toNat k).1 (djF (I 24) (I 25) (arF I q False n (m0 + 3000)) (fun x => if x = fr then m0 else 1000000) (I 21 9).toNat k).2 8 ≠ -1 := fun z => hu (db_none _ _ 8 z u u0 (by omega))
          have hd2 := (db_min _ _ 8 hd1).2 u u0 (by omega) hu
          have hd3 : ¬ (djF (I 24) (I 25) (arF I q False n (m0 + 3000)) (fun x => if x = fr then m0 else 1000000) (I 21 9).toNat k).1 (dbF (djF (I 24) (I 25) (arF I q False n (m0 + 3000)) (fun x => if x = fr then m0 else 1000000) (I 21 9).toNat k).1 (djF (I 24) (I 25) (arF I q False n (m0 + 3000)) (fun x => if x = fr then m0 else 1000000) (I 21 9).toNat k).2 8) < 1000000 := fun z => by rw [ecb] at c41; unfold cbF at c41; rw [if_pos ⟨hd1, z⟩] at c41; exact hd1 c41
          have := hB.1.1 u u0 u1
          omega
        have he := dj_end hDJ h0 hall (8 - k)
        rw [show k + (8 - k) = 8 by omega] at he
        refine m_iconst dX4_aloneThere_44 (by decide) ?_
        refine m_iret dX4_aloneThere_45 rfl ?_
        have hz : (djF (I 24) (I 25) (arF I q False n (m0 + 3000)) (fun x => if x = fr then m0 else 1000000) (I 21 9).toNat 8).1 to = 1000000 := by rw [he.1]; exact hall to ht.1 ht.2 hto
        have hx := h J hF
        rw [hz] at hx
        exact hx
theorem x_aloneThereN {q : Nat} {fr to n m0 : Int} (hq36 : q ≠ 36) (hd : 5 ≤ d) (hN : NetI I) (h1 : StI I 28 29 30 31 12) (h2 : StI I 32 33 34 35 6) (hn : 1 ≤ n ∧ n ≤ 198) (hf : 0 ≤ fr ∧ fr < 8) (ht : 0 ≤ to ∧ to < 8) (hm : 0 ≤ m0 ∧ m0 ≤ 9000) (hne : fr ≠ to) : SI g d mX4_aloneThere [vr 21, vi fr, vi to, vi n, vi m0, vn] (shX nm no) (RX nm no) I (fun r J => r = anS ((djF (I 24) (I 25) (arF I q False n (m0 + 3000)) (fun x => if x = fr then m0 else 1000000) (I 21 9).toNat 8).1 to) ∧ ∀ x, x ≠ 36 → J x = I x) := by
  intro Q h
  refine C_of rfl (Nat.le_of_ble_eq_true rfl) rfl ?_
  refine m_aload_n dX4_aloneThere_0 rfl ?_
  refine m_gr (z := 8) dX4_aloneThere_1 fl_X4_43 oX_21 rfl rfl rX_21_8 ?_
  refine m_ldc (a := 1000000) dX4_aloneThere_4 kc_X4_76 rfl ?_
  refine m_Sv [_, _] dX4_aloneThere_6 lk_X4_46 rfl rfl (Nat.le_of_ble_eq_true rfl) (by omega) (x_fill sX_36 (by decide)) ?_
  refine m_aload_n dX4_aloneThere_9 rfl ?_
  refine m_gr (z := 8) dX4_aloneThere_10 fl_X4_43 oX_21 rfl rfl rX_21_8 ?_
  refine m_iload_n dX4_aloneThere_13 rfl ?_
  refine m_iload dX4_aloneThere_14 rfl ?_
  refine m_iast dX4_aloneThere_16 sX_36 (by omega) (by omega) ?_
  refine m_iconst dX4_aloneThere_17 (by decide) ?_
  refine m_istore dX4_aloneThere_18 (by decide) rfl rfl ?_
  refine m_iconst dX4_aloneThere_20 (by decide) ?_
  refine m_istore dX4_aloneThere_21 (by decide) rfl rfl ?_
  refine x_al_loopN (q := q) hq36 hd hN h1 h2 hn hf ht hm (fun J a => h _ J ⟨rfl, a⟩) 9 0 _ 0 _ (by omega) (by omega) (fun x hx => by rw [upI_o hx, cpI_o hx]) (fun j j0 j1 => ?_) (by omega) (fun j _ _ => ⟨fun z => absurd z (bt_0 j), fun z => z.elim⟩) (fun z => z) ?_
  · show _ = (if j = fr then m0 else 1000000)
    by_cases e : j = fr
    · rw [e, upI_s, if_pos rfl]
    · rw [upI_j e, if_neg e, cpI_in j0 (by omega)]
  · have : ∀ n : Nat, ctF (fun _ => False) n = 0 := by
      intro n
      induction n with
      | zero => rfl
      | succ n ih => unfold ctF; rw [ih, cif_f (fun z => z)]
    exact this 8
theorem x_go_loopO {q a b c : Nat} (hO : OrdAt (shX nm no) (RX nm no) q a b c) {o n last m0 : Int} {S : Int → Prop} {r : Int → Int} {Q : QT} (hq36 : q ≠ 36) (hd : 4 ≤ d) (hN : NetI I) (h1 : StI I 28 29 30 31 12) (h2 : StI I 32 33 34 35 6) (hn : 1 ≤ n ∧ n ≤ 198) (ho : 0 ≤ o ∧ o < 8) (hl : 0 ≤ m0 ∧ last = m0 + 3000 ∧ last ≤ 13000) (hb : bdI m0 last r) (hro : r o ≤ last) (hSo : S o) (hSs : ∀ x, 0 ≤ x → x < 8 → S x → r x ≤ r o)
    (h : ∀ J, (∀ x, x ≠ 36 → J x = I x) → eq8 (J 36) (rlF (I 24) (I 25) (arF I q True n last) o S r (I 21 9).toNat) → Q none (shX nm no) (RX nm no) J) :
    ∀ (m v : Nat) (J : II) (l6 l7 l8 : Option AV), (I 21 9).toNat - v < m → v ≤ (I 21 9).toNat → (∀ x, x ≠ 36 → J x = I x) → eq8 (J 36) (rlF (I 24) (I 25) (arF I q True n last) o S r v) → T g d mX4_goOnFrom 0 0 3 [some (vr 21), some (vi o), some (vi n), some (vi last), some (vr q), some (vi v), l6, l7, l8] [] (shX nm no) (RX nm no) J Q := by
  have hW := hN.1
  have hDJ := djOK_of (q := q) (pr := True) (m0 := m0) hN hn.1 (show 0 ≤ m0 ∧ m0 ≤ last ∧ last < 1000000 by omega)
  intro m
  induction m with
  | zero => intro v J l6 l7 l8 hm; omega
  | succ m ih =>
    intro v J l6 l7 l8 hm hv hF hE
    have eW : J 21 9 = I 21 9 := by rw [hF 21 (by decide)]
    have eA : J 24 = I 24 := hF 24 (by decide)
    have eB : J 25 = I 25 := hF 25 (by decide)
    have eKJ : Kt J n = Kt I n := kt_of hF
    have hNJ := netI_of hN hF
    have hJ1 : StI J 28 29 30 31 12 := stI_fr (hF _ (by decide)) (hF _ (by decide)) (hF _ (by decide)) (hF _ (by decide)) h1
    have hJ2 : StI J 32 33 34 35 6 := stI_fr (hF _ (by decide)) (hF _ (by decide)) (hF _ (by decide)) (hF _ (by decide)) h2
    have hB := rl_bd (S := S) (r := r) (o := o) hDJ.1 ⟨hDJ.2.1.2.1, hDJ.2.1.2.2⟩ hb (hb.1 o ho.1 ho.2).1 (fun v hv => hDJ.2.2 v (r o) hv (by have := hb.1 o ho.1 ho.2; omega)) v hv
    refine m_iload dX4_goOnFrom_3 rfl ?_
    refine m_aload_n dX4_goOnFrom_5 rfl ?_
    refine m_gi (z := 9) dX4_goOnFrom_6 fl_X4_52 oX_21 rfl rfl ?_
    rw [eW]
    refine m_icmp_ge (tgt := 95) dX4_goOnFrom_9 (by decide) (fun c9 => ?_) (fun c9 => ?_)
    · have ev : v = (I 21 9).toNat := by omega
      subst ev
      refine m_vret dX4_goOnFrom_95 rfl ?_
      exact h J hF hE
    · have hvk := hN.2.1 v (by omega) (by omega)
      have hK := tk_bd (n := n) (s := I 26 v) hn.1 hvk.2.2.2.1.1
      have hKt : 1 ≤ Kt I n v ∧ Kt I n v ≤ n := hK
      have er : rlF (I 24) (I 25) (arF I q True n last) o S r (v + 1) = cif ((I 24 v = o ∨ I 25 v = o) ∧ ¬ S (othF (I 24) (I 25) v o)) (upF (rlF (I 24) (I 25) (arF I q True n last) o S r v) (othF (I 24) (I 25) v o) (min (rlF (I 24) (I 25) (arF I q True n last) o S r v (othF (I 24) (I 25) v o)) ((arF I q True n last) v (r o)))) (rlF (I 24) (I 25) (arF I q True n last) o S r v) := rfl
      refine m_aload_n dX4_goOnFrom_12 rfl ?_
      refine m_iload dX4_goOnFrom_13 rfl ?_
      refine m_iload_n dX4_goOnFrom_15 rfl ?_
      refine m_Vi [_, _] dX4_goOnFrom_16 lk_X4_56 rfl oX_21 rfl (Nat.le_of_ble_eq_true rfl) (by omega) (x_otherEnd (by omega) (by omega)) ?_
      rw [eA, eB]
      refine m_istore dX4_goOnFrom_19 (by decide) rfl rfl ?_
      refine m_iload dX4_goOnFrom_21 rfl ?_
      refine m_iconst dX4_goOnFrom_23 (by decide) ?_
      refine m_icmp_ne (tgt := 30) dX4_goOnFrom_24 (by decide) (fun c24 => ?_) (fun c24 => ?_)
      · have hat : I 24 v = o ∨ I 25 v = o := by
          by_cases y : I 24 v = o
          · exact Or.inl y
          · by_cases y2 : I 25 v = o
            · exact Or.inr y2
            · rw [if_neg y, if_neg y2] at c24; exact absurd rfl c24
        have eo : (if I 24 v = o then I 25 v else if I 25 v = o then I 24 v else -1) = othF (I 24) (I 25) v o := oe_oth hvk.2.2.1 hat
        have hx : 0 ≤ othF (I 24) (I 25) v o ∧ othF (I 24) (I 25) v o < 8 := by unfold othF; split <;> omega
        rw [eo]
        have hox := hB.1.1 (othF (I 24) (I 25) v o) hx.1 hx.2
        have hJo : J 36 o = r o := by rw [hE o ho.1 ho.2]; exact rl_S v o hSo
        refine m_aload_n dX4_goOnFrom_30 rfl ?_
        refine m_iload dX4_goOnFrom_31 rfl ?_
        refine m_iload_n dX4_goOnFrom_33 rfl ?_
        refine m_Vi [_, _] dX4_goOnFrom_34 lk_X4_80 rfl oX_21 rfl (Nat.le_of_ble_eq_true rfl) (by omega) (x_taken (by omega) (by rw [eW]; omega) hNJ ⟨by omega, by omega⟩) ?_
        rw [eKJ]
        refine m_istore dX4_goOnFrom_37 (by decide) rfl rfl ?_
        refine m_aload_n dX4_goOnFrom_39 rfl ?_
        refine m_iload dX4_goOnFrom_40 rfl ?_
        refine m_aload_n dX4_goOnFrom_42 rfl ?_
        refine m_gr (z := 8) dX4_goOnFrom_43 fl_X4_43 oX_21 rfl rfl rX_21_8 ?_
        refine m_iload_n dX4_goOnFrom_46 rfl ?_
        refine m_iald dX4_goOnFrom_47 sX_36 (by omega) (by omega) ?_
        rw [hJo]
        refine m_iload dX4_goOnFrom_48 rfl ?_
        refine m_iload_n dX4_goOnFrom_50 rfl ?_
        refine m_iload dX4_goOnFrom_51 rfl ?_
        refine m_isub dX4_goOnFrom_53 (by omega) ?_
        refine m_aload dX4_goOnFrom_54 rfl ?_
        refine m_VI [_, _, _, _, _] dX4_goOnFrom_56 lk_X4_97 rfl oX_21 rfl (Nat.le_of_ble_eq_true rfl) (by omega) (x_startFromO hO (by omega) hNJ hJ1 hJ2 (by rw [eW]; omega) (by have := hb.1 o ho.1 ho.2; omega) (by omega) (by have := hb.1 o ho.1 ho.2; omega)) ?_
        intro r56 I56 q56
        obtain ⟨e56, q56⟩ := q56
        replace e56 := e56.symm
        subst e56
        rw [fsT_frq hF hq36] at q56
        have hfs := fsF_eq (by have := hb.1 o ho.1 ho.2; omega) q56
        refine m_istore dX4_goOnFrom_59 (by decide) rfl rfl ?_
        refine m_iload dX4_goOnFrom_61 rfl ?_
        refine m_iconst dX4_goOnFrom_63 (by decide) ?_
        refine m_icmp_eq (tgt := 89) dX4_goOnFrom_64 (by decide) (fun c64 => ?_) (fun c64 => ?_)
        · have ea : (arF I q True n last) v (r o) = 1000000 := by
            show (if _ = (-1 : Int) then _ else _) = _
            rw [hfs, if_pos c64]
          have hE2 : eq8 (J 36) (rlF (I 24) (I 25) (arF I q True n last) o S r (v + 1)) := by
            rw [er]
            by_cases z : (I 24 v = o ∨ I 25 v = o) ∧ ¬ S (othF (I 24) (I 25) v o)
            · rw [cif_t z, ea]; exact eq8_id2 hE (fun _ _ => by omega)
            · rw [cif_f z]; exact hE
          refine m_iinc dX4_goOnFrom_89 rfl (by decide) rfl rfl (by omega) ?_
          refine m_goto (tgt := 3) dX4_goOnFrom_92 (by decide) ?_
          first
          | exact ih (v + 1) J _ _ _ (by omega) (by omega) hF hE2
          | (refine ih (v + 1) _ _ _ _ (by omega) (by omega) (fun x hx => by rw [upI_o hx]; exact hF x hx) ?_
             rw [upI_36, er]
             by_cases z : S (othF (I 24) (I 25) v o)
             · rw [cif_f (fun y => y.2 z)]
               refine eq8_id hE (fun _ _ => ?_)
               have e9 : rlF (I 24) (I 25) (arF I q True n last) o S r v (othF (I 24) (I 25) v o) = r (othF (I 24) (I 25) v o) := rl_S v _ z
               have e8 := hSs _ hx.1 hx.2 z
               rw [hE _ hx.1 hx.2, e9]
               have k1 : 1 ≤ Kt I n v := hK.1
               omega
             · rw [cif_t ⟨hat, z⟩]
               exact eq8_up hE (by rw [hE _ hx.1 hx.2, ea]))
        · have ea : (arF I q True n last) v (r o) = r56 + Kt I n v := by
            show (if _ = (-1 : Int) then _ else _) = _
            rw [hfs, if_neg c64]
          have hr56 := (q56.resolve_left (fun z => c64 z.1)).1
          refine m_aload_n dX4_goOnFrom_67 rfl ?_
          refine m_gr (z := 8) dX4_goOnFrom_68 fl_X4_43 oX_21 rfl rfl rX_21_8 ?_
          refine m_iload dX4_goOnFrom_71 rfl ?_
          refine m_aload_n dX4_goOnFrom_73 rfl ?_
          refine m_gr (z := 8) dX4_goOnFrom_74 fl_X4_43 oX_21 rfl rfl rX_21_8 ?_
          refine m_iload dX4_goOnFrom_77 rfl ?_
          refine m_iald dX4_goOnFrom_79 sX_36 (by omega) (by omega) ?_
          refine m_iload dX4_goOnFrom_80 rfl ?_
          refine m_iload dX4_goOnFrom_82 rfl ?_
          refine m_iadd dX4_goOnFrom_84 (by have := hb.1 o ho.1 ho.2; omega) ?_
          refine m_min dX4_goOnFrom_85 lk_X4_101 (by omega) (Nat.le_of_ble_eq_true rfl) ?_
          refine m_iast dX4_goOnFrom_88 sX_36 (by omega) (by omega) ?_
          refine m_iinc dX4_goOnFrom_89 rfl (by decide) rfl rfl (by omega) ?_
          refine m_goto (tgt := 3) dX4_goOnFrom_92 (by decide) ?_
          first
          | exact ih (v + 1) J _ _ _ (by omega) (by omega) hF hE2
          | (refine ih (v + 1) _ _ _ _ (by omega) (by omega) (fun x hx => by rw [upI_o hx]; exact hF x hx) ?_
             rw [upI_36, er]
             by_cases z : S (othF (I 24) (I 25) v o)
             · rw [cif_f (fun y => y.2 z)]
               refine eq8_id hE (fun _ _ => ?_)
               have e9 : rlF (I 24) (I 25) (arF I q True n last) o S r v (othF (I 24) (I 25) v o) = r (othF (I 24) (I 25) v o) := rl_S v _ z
               have e8 := hSs _ hx.1 hx.2 z
               rw [hE _ hx.1 hx.2, e9]
               have k1 : 1 ≤ Kt I n v := hK.1
               omega
             · rw [cif_t ⟨hat, z⟩]
               exact eq8_up hE (by rw [hE _ hx.1 hx.2, ea]))
      · have hat : ¬ (I 24 v = o ∨ I 25 v = o) := fun z => by
          rcases z with y | y
          · rw [if_pos y] at c24; omega
          · rw [if_neg (fun z => hvk.2.2.1 (z.trans y.symm)), if_pos y] at c24; omega
        have hE2 : eq8 (J 36) (rlF (I 24) (I 25) (arF I q True n last) o S r (v + 1)) := by rw [er, cif_f (fun z => hat z.1)]; exact hE
        refine m_goto (tgt := 89) dX4_goOnFrom_27 (by decide) ?_
        refine m_iinc dX4_goOnFrom_89 rfl (by decide) rfl rfl (by omega) ?_
        refine m_goto (tgt := 3) dX4_goOnFrom_92 (by decide) ?_
        first
        | exact ih (v + 1) J _ _ _ (by omega) (by omega) hF hE2
        | (refine ih (v + 1) _ _ _ _ (by omega) (by omega) (fun x hx => by rw [upI_o hx]; exact hF x hx) ?_
           rw [upI_36, er]
           by_cases z : S (othF (I 24) (I 25) v o)
           · rw [cif_f (fun y => y.2 z)]
             refine eq8_id hE (fun _ _ => ?_)
             have e9 : rlF (I 24) (I 25) (arF I q True n last) o S r v (othF (I 24) (I 25) v o) = r (othF (I 24) (I 25) v o) := rl_S v _ z
             have e8 := hSs _ hx.1 hx.2 z
             rw [hE _ hx.1 hx.2, e9]
             have k1 : 1 ≤ Kt I n v := hK.1
             omega
           · rw [cif_t ⟨hat, z⟩]
             exact eq8_up hE (by rw [hE _ hx.1 hx.2, ea]))
theorem x_goOnFromO {q a b c : Nat} (hO : OrdAt (shX nm no) (RX nm no) q a b c) {o n last m0 : Int} {S : Int → Prop} {r : Int → Int} (hq36 : q ≠ 36) (hd : 4 ≤ d) (hN : NetI I) (h1 : StI I 28 29 30 31 12) (h2 : StI I 32 33 34 35 6) (hn : 1 ≤ n ∧ n ≤ 198) (ho : 0 ≤ o ∧ o < 8) (hl : 0 ≤ m0 ∧ last = m0 + 3000 ∧ last ≤ 13000) (hb : bdI m0 last r) (hro : r o ≤ last) (hSo : S o) (hSs : ∀ x, 0 ≤ x → x < 8 → S x → r x ≤ r o) (hE : eq8 (I 36) r) : SV g d mX4_goOnFrom [vr 21, vi o, vi n, vi last, vr q] (shX nm no) (RX nm no) I (fun J => (∀ x, x ≠ 36 → J x = I x) ∧ eq8 (J 36) (rlF (I 24) (I 25) (arF I q True n last) o S r (I 21 9).toNat)) := by
  intro Q h
  refine C_of rfl (Nat.le_of_ble_eq_true rfl) rfl ?_
  refine m_iconst dX4_goOnFrom_0 (by decide) ?_
  refine m_istore dX4_goOnFrom_1 (by decide) rfl rfl ?_
  exact x_go_loopO hO hq36 hd hN h1 h2 hn ho hl hb hro hSo hSs (fun J a b => h J ⟨a, b⟩) _ 0 I _ _ _ (Nat.lt_succ_self _) (by omega) (fun _ _ => rfl) hE
theorem x_al_loopO {q a b c : Nat} (hO : OrdAt (shX nm no) (RX nm no) q a b c) {fr to n m0 : Int} {Q : QT} (hq36 : q ≠ 36) (hd : 5 ≤ d) (hN : NetI I) (h1 : StI I 28 29 30 31 12) (h2 : StI I 32 33 34 35 6) (hn : 1 ≤ n ∧ n ≤ 198) (hf : 0 ≤ fr ∧ fr < 8) (ht : 0 ≤ to ∧ to < 8) (hm : 0 ≤ m0 ∧ m0 ≤ 9000)
    (h : ∀ J, (∀ x, x ≠ 36 → J x = I x) → Q (some (vi (anS ((djF (I 24) (I 25) (arF I q True n (m0 + 3000)) (fun x => if x = fr then m0 else 1000000) (I 21 9).toNat 8).1 to)))) (shX nm no) (RX nm no) J) :
    ∀ (m k : Nat) (J : II) (s : Int) (l8 : Option AV), 8 - k < m → k ≤ 8 → (∀ x, x ≠ 36 → J x = I x) → eq8 (J 36) (djF (I 24) (I 25) (arF I q True n (m0 + 3000)) (fun x => if x = fr then m0 else 1000000) (I 21 9).toNat k).1 → (0 ≤ s ∧ s < 4096) → (∀ j, 0 ≤ j → j < 8 → (bt s j ↔ (djF (I 24) (I 25) (arF I q True n (m0 + 3000)) (fun x => if x = fr then m0 else 1000000) (I 21 9).toNat k).2 j)) → ¬ (djF (I 24) (I 25) (arF I q True n (m0 + 3000)) (fun x => if x = fr then m0 else 1000000) (I 21 9).toNat k).2 to → ctF (djF (I 24) (I 25) (arF I q True n (m0 + 3000)) (fun x => if x = fr then m0 else 1000000) (I 21 9).toNat k).2 8 = k → T g d mX4_aloneThere 0 0 23 [some (vr 21), some (vi fr), some (vi to), some (vi n), some (vi m0), some (vr q), some (vi s), some (vi k), l8] [] (shX nm no) (RX nm no) J Q := by
  have hDJ := djOK_of (q := q) (pr := True) (m0 := m0) hN hn.1 (show 0 ≤ m0 ∧ m0 ≤ m0 + 3000 ∧ m0 + 3000 < 1000000 by omega)
  have h0 : bdI m0 (m0 + 3000) (fun x => if x = fr then m0 else 1000000) := ⟨fun j _ _ => by show m0 ≤ (if j = fr then m0 else 1000000) ∧ ((if j = fr then m0 else 1000000) = 1000000 ∨ (if j = fr then m0 else 1000000) ≤ m0 + 3000); split <;> omega, if_neg (by omega)⟩
  intro m
  induction m with
  | zero => intro k J s l8 hm2; omega
  | succ m ih =>
    intro k J s l8 hm2 hk hF hE hs hbt hto hct
    have hB := dj_bd hDJ h0 k
    have hNJ := netI_of hN hF
    have hJ1 : StI J 28 29 30 31 12 := stI_fr (hF _ (by decide)) (hF _ (by decide)) (hF _ (by decide)) (hF _ (by decide)) h1
    have hJ2 : StI J 32 33 34 35 6 := stI_fr (hF _ (by decide)) (hF _ (by decide)) (hF _ (by decide)) (hF _ (by decide)) h2
    have hJb : ∀ j, 0 ≤ j → j < 8 → J 36 j ≤ 1000000 := fun j j0 j1 => by have := hB.1.1 j j0 j1; rw [hE j j0 j1]; omega
    have eAJ : J 24 = I 24 := hF 24 (by decide)
    have eBJ : J 25 = I 25 := hF 25 (by decide)
    have eWJ : J 21 9 = I 21 9 := by rw [hF 21 (by decide)]
    have arJ : arF J q True n (m0 + 3000) = arF I q True n (m0 + 3000) := by
      funext v m
      unfold arF fsF
      rw [show Kt J n = Kt I n from kt_of hF]
      rw [show ∀ K l, fsT J q True v K m l = fsT I q True v K m l from fun K l => funext fun r => fsT_frq hF hq36]
    have edb : dbF (J 36) (fun j => bt s j) 8 = dbF (djF (I 24) (I 25) (arF I q True n (m0 + 3000)) (fun x => if x = fr then m0 else 1000000) (I 21 9).toNat k).1 (djF (I 24) (I 25) (arF I q True n (m0 + 3000)) (fun x => if x = fr then m0 else 1000000) (I 21 9).toNat k).2 8 := db_congr hE hbt 8 (Nat.le_refl _)
    have hbd0 := db_bd (djF (I 24) (I 25) (arF I q True n (m0 + 3000)) (fun x => if x = fr then m0 else 1000000) (I 21 9).toNat k).1 (djF (I 24) (I 25) (arF I q True n (m0 + 3000)) (fun x => if x = fr then m0 else 1000000) (I 21 9).toNat k).2 8
    have ecb : cbF (J 36) (fun j => bt s j) 8 = cbF (djF (I 24) (I 25) (arF I q True n (m0 + 3000)) (fun x => if x = fr then m0 else 1000000) (I 21 9).toNat k).1 (djF (I 24) (I 25) (arF I q True n (m0 + 3000)) (fun x => if x = fr then m0 else 1000000) (I 21 9).toNat k).2 8 := by
      unfold cbF
      rw [edb]
      rcases (show dbF (djF (I 24) (I 25) (arF I q True n (m0 + 3000)) (fun x => if x = fr then m0 else 1000000) (I 21 9).toNat k).1 (djF (I 24) (I 25) (arF I q True n (m0 + 3000)) (fun x => if x = fr then m0 else 1000000) (I 21 9).toNat k).2 8 = -1 ∨ 0 ≤ dbF (djF (I 24) (I 25) (arF I q True n (m0 + 3000)) (fun x => if x = fr then m0 else 1000000) (I 21 9).toNat k).1 (djF (I 24) (I 25) (arF I q True n (m0 + 3000)) (fun x => if x = fr then m0 else 1000000) (I 21 9).toNat k).2 8 by omega) with z | z
      · rw [z, if_neg (fun y => y.1 rfl), if_neg (fun y => y.1 rfl)]
      · rw [hE _ z (by omega)]
    refine m_iload dX4_aloneThere_23 rfl ?_
    refine m_bipush dX4_aloneThere_25 rfl (by decide) ?_
    refine m_icmp_ge (tgt := 89) dX4_aloneThere_27 (by decide) (fun c27 => ?_) (fun c27 => ?_)
    · exfalso
      have ek : k = 8 := by omega
      subst ek
      have := ct_lt (djF (I 24) (I 25) (arF I q True n (m0 + 3000)) (fun x => if x = fr then m0 else 1000000) (I 21 9).toNat 8).2 8 ⟨to.toNat, by omega, by rw [show ((to.toNat : Nat) : Int) = to by omega]; exact hto⟩
      omega
    · refine m_aload_n dX4_aloneThere_30 rfl ?_
      refine m_iload dX4_aloneThere_31 rfl ?_
      refine m_Vi [_] dX4_aloneThere_33 lk_X4_90 rfl oX_21 rfl (Nat.le_of_ble_eq_true rfl) (by omega) (x_soonestBut (by omega) hs.1 hJb) ?_
      refine m_istore dX4_aloneThere_36 (by decide) rfl rfl ?_
      refine m_iload dX4_aloneThere_38 rfl ?_
      refine m_iconst dX4_aloneThere_40 (by decide) ?_
      refine m_icmp_ne (tgt := 46) dX4_aloneThere_41 (by decide) (fun c41 => ?_) (fun c41 => ?_)
      · refine m_iload dX4_aloneThere_46 rfl ?_
        refine m_iload_n dX4_aloneThere_48 rfl ?_
        refine m_icmp_ne (tgt := 59) dX4_aloneThere_49 (by decide) (fun c49 => ?_) (fun c49 => ?_)
        · have hcb : cbF (djF (I 24) (I 25) (arF I q True n (m0 + 3000)) (fun x => if x = fr then m0 else 1000000) (I 21 9).toNat k).1 (djF (I 24) (I 25) (arF I q True n (m0 + 3000)) (fun x => if x = fr then m0 else 1000000) (I 21 9).toNat k).2 8 = dbF (djF (I 24) (I 25) (arF I q True n (m0 + 3000)) (fun x => if x = fr then m0 else 1000000) (I 21 9).toNat k).1 (djF (I 24) (I 25) (arF I q True n (m0 + 3000)) (fun x => if x = fr then m0 else 1000000) (I 21 9).toNat k).2 8 ∧ (djF (I 24) (I 25) (arF I q True n (m0 + 3000)) (fun x => if x = fr then m0 else 1000000) (I 21 9).toNat k).1 (dbF (djF (I 24) (I 25) (arF I q True n (m0 + 3000)) (fun x => if x = fr then m0 else 1000000) (I 21 9).toNat k).1 (djF (I 24) (I 25) (arF I q True n (m0 + 3000)) (fun x => if x = fr then m0 else 1000000) (I 21 9).toNat k).2 8) < 1000000 := by
            rw [ecb] at c41
            unfold cbF at c41 ⊢
            by_cases z : dbF (djF (I 24) (I 25) (arF I q True n (m0 + 3000)) (fun x => if x = fr then m0 else 1000000) (I 21 9).toNat k).1 (djF (I 24) (I 25) (arF I q True n (m0 + 3000)) (fun x => if x = fr then m0 else 1000000) (I 21 9).toNat k).2 8 ≠ -1 ∧ (djF (I 24) (I 25) (arF I q True n (m0 + 3000)) (fun x => if x = fr then m0 else 1000000) (I 21 9).toNat k).1 (dbF (djF (I 24) (I 25) (arF I q True n (m0 + 3000)) (fun x => if x = fr then m0 else 1000000) (I 21 9).toNat k).1 (djF (I 24) (I 25) (arF I q True n (m0 + 3000)) (fun x => if x = fr then m0 else 1000000) (I 21 9).toNat k).2 8) < 1000000
            · rw [if_pos z]; exact ⟨rfl, z.2⟩
            · rw [if_neg z] at c41; exact absurd rfl c41
          rw [ecb, hcb.1] at c49 ⊢
          have hbd := db_bd (djF (I 24) (I 25) (arF I q True n (m0 + 3000)) (fun x => if x = fr then m0 else 1000000) (I 21 9).toNat k).1 (djF (I 24) (I 25) (arF I q True n (m0 + 3000)) (fun x => if x = fr then m0 else 1000000) (I 21 9).toNat k).2 8
          obtain ⟨b, eb⟩ : ∃ b : Nat, dbF (djF (I 24) (I 25) (arF I q True n (m0 + 3000)) (fun x => if x = fr then m0 else 1000000) (I 21 9).toNat k).1 (djF (I 24) (I 25) (arF I q True n (m0 + 3000)) (fun x => if x = fr then m0 else 1000000) (I 21 9).toNat k).2 8 = b := ⟨(dbF (djF (I 24) (I 25) (arF I q True n (m0 + 3000)) (fun x => if x = fr then m0 else 1000000) (I 21 9).toNat k).1 (djF (I 24) (I 25) (arF I q True n (m0 + 3000)) (fun x => if x = fr then m0 else 1000000) (I 21 9).toNat k).2 8).toNat, by rw [ecb, hcb.1] at c41; omega⟩
          have hnS := (db_min (djF (I 24) (I 25) (arF I q True n (m0 + 3000)) (fun x => if x = fr then m0 else 1000000) (I 21 9).toNat k).1 (djF (I 24) (I 25) (arF I q True n (m0 + 3000)) (fun x => if x = fr then m0 else 1000000) (I 21 9).toNat k).2 8 (by omega)).1
          have hmn := (db_min (djF (I 24) (I 25) (arF I q True n (m0 + 3000)) (fun x => if x = fr then m0 else 1000000) (I 21 9).toNat k).1 (djF (I 24) (I 25) (arF I q True n (m0 + 3000)) (fun x => if x = fr then m0 else 1000000) (I 21 9).toNat k).2 8 (by omega)).2
          rw [eb] at c49 hcb hnS hmn hbd ⊢
          refine m_iload dX4_aloneThere_59 rfl ?_
          refine m_iconst dX4_aloneThere_61 (by decide) ?_
          refine m_iload dX4_aloneThere_62 rfl ?_
          refine m_ishl dX4_aloneThere_64 ?_
          refine m_ior dX4_aloneThere_65 ?_
          refine m_istore dX4_aloneThere_66 (by decide) rfl rfl ?_
          refine m_aload_n dX4_aloneThere_68 rfl ?_
          refine m_iload dX4_aloneThere_69 rfl ?_
          refine m_iload_n dX4_aloneThere_71 rfl ?_
          refine m_iload dX4_aloneThere_72 rfl ?_
          refine m_sipush dX4_aloneThere_74 rfl (by decide) ?_
          refine m_iadd dX4_aloneThere_77 (by omega) ?_
          refine m_aload dX4_aloneThere_78 rfl ?_
          refine m_VV [_, _, _, _] dX4_aloneThere_80 lk_X4_93 rfl oX_21 rfl (Nat.le_of_ble_eq_true rfl) (by omega) (x_goOnFromO hO (m0 := m0) (S := fun x => (djF (I 24) (I 25) (arF I q True n (m0 + 3000)) (fun x => if x = fr then m0 else 1000000) (I 21 9).toNat k).2 x ∨ x = b) (r := (djF (I 24) (I 25) (arF I q True n (m0 + 3000)) (fun x => if x = fr then m0 else 1000000) (I 21 9).toNat k).1) hq36 (by omega) hNJ hJ1 hJ2 hn (by omega) ⟨hm.1, rfl, by omega⟩ hB.1 (by have := hB.1.1 b (by omega) (by omega); omega) (Or.inr rfl) (fun x x0 x1 hx => hx.elim (fun y => hB.2 x b y x0 x1 (by omega) (by omega) hnS) (fun y => by rw [y]; exact Int.le_refl _)) hE) ?_
          intro I80 q80
          refine m_iinc dX4_aloneThere_83 rfl (by decide) rfl rfl (by omega) ?_
          refine m_goto (tgt := 23) dX4_aloneThere_86 (by decide) ?_
          have hbo := fun j : Int => fun (j0 : 0 ≤ j) => bt_or (j := j) hs.1 hs.2 (show (0 : Int) ≤ b by omega) (show (b : Int) < 12 by omega) j0
          refine ih (k + 1) I80 (f_ior s (f_ishl 1 b)) _ (by omega) (by omega) (fun x hx => (q80.1 x hx).trans (hF x hx)) ?_ ⟨(hbo 0 (by omega)).1, (hbo 0 (by omega)).2.1⟩ (fun j j0 j1 => ?_) (fun z => ?_) ?_
          · rw [dj_1, eb, cif_t hcb.2]
            have q2 := q80.2
            rw [eAJ, eBJ, eWJ, arJ] at q2
            exact q2
          · rw [(hbo j j0).2.2, hbt j j0 j1, dj_2, eb]
          · rw [dj_2, eb] at z
            exact z.elim hto (fun y => c49 y.symm)
          · have ca := ct_add (djF (I 24) (I 25) (arF I q True n (m0 + 3000)) (fun x => if x = fr then m0 else 1000000) (I 21 9).toNat k).2 b 8 hnS
            rw [hct, if_pos (by omega)] at ca
            have e2 : (djF (I 24) (I 25) (arF I q True n (m0 + 3000)) (fun x => if x = fr then m0 else 1000000) (I 21 9).toNat (k + 1)).2 = fun x => (djF (I 24) (I 25) (arF I q True n (m0 + 3000)) (fun x => if x = fr then m0 else 1000000) (I 21 9).toNat k).2 x ∨ x = (b : Int) := by funext x; rw [propext dj_2, eb]
            rw [e2]
            exact ca
        · have hcb : cbF (djF (I 24) (I 25) (arF I q True n (m0 + 3000)) (fun x => if x = fr then m0 else 1000000) (I 21 9).toNat k).1 (djF (I 24) (I 25) (arF I q True n (m0 + 3000)) (fun x => if x = fr then m0 else 1000000) (I 21 9).toNat k).2 8 = dbF (djF (I 24) (I 25) (arF I q True n (m0 + 3000)) (fun x => if x = fr then m0 else 1000000) (I 21 9).toNat k).1 (djF (I 24) (I 25) (arF I q True n (m0 + 3000)) (fun x => if x = fr then m0 else 1000000) (I 21 9).toNat k).2 8 := by
            rw [ecb] at c41
            unfold cbF at c41 ⊢
            by_cases z : dbF (djF (I 24) (I 25) (arF I q True n (m0 + 3000)) (fun x => if x = fr then m0 else 1000000) (I 21 9).toNat k).1 (djF (I 24) (I 25) (arF I q True n (m0 + 3000)) (fun x => if x = fr then m0 else 1000000) (I 21 9).toNat k).2 8 ≠ -1 ∧ (djF (I 24) (I 25) (arF I q True n (m0 + 3000)) (fun x => if x = fr then m0 else 1000000) (I 21 9).toNat k).1 (dbF (djF (I 24) (I 25) (arF I q True n (m0 + 3000)) (fun x => if x = fr then m0 else 1000000) (I 21 9).toNat k).1 (djF (I 24) (I 25) (arF I q True n (m0 + 3000)) (fun x => if x = fr then m0 else 1000000) (I 21 9).toNat k).2 8) < 1000000
            · rw [if_pos z]
            · rw [if_neg z] at c41; exact absurd rfl c41
          rw [ecb, hcb] at c49
          have hto2 : (djF (I 24) (I 25) (arF I q True n (m0 + 3000)) (fun x => if x = fr then m0 else 1000000) (I 21 9).toNat (k + 1)).2 to := Or.inr c49.symm
          have he := (dj_S hto2 (8 - (k + 1))).2
          rw [show k + 1 + (8 - (k + 1)) = 8 by omega] at he
          have he2 : (djF (I 24) (I 25) (arF I q True n (m0 + 3000)) (fun x => if x = fr then m0 else 1000000) (I 21 9).toNat 8).1 to = (djF (I 24) (I 25) (arF I q True n (m0 + 3000)) (fun x => if x = fr then m0 else 1000000) (I 21 9).toNat k).1 to := by
            rw [he, dj_1]
            by_cases z : (djF (I 24) (I 25) (arF I q True n (m0 + 3000)) (fun x => if x = fr then m0 else 1000000) (I 21 9).toNat k).1 (dbF (djF (I 24) (I 25) (arF I q True n (m0 + 3000)) (fun x => if x = fr then m0 else 1000000) (I 21 9).toNat k).1 (djF (I 24) (I 25) (arF I q True n (m0 + 3000)) (fun x => if x = fr then m0 else 1000000) (I 21 9).toNat k).2 8) < 1000000
            · rw [cif_t z]; exact rl_S _ to (Or.inr c49.symm)
            · rw [cif_f z]
          refine m_aload_n dX4_aloneThere_52 rfl ?_
          refine m_gr (z := 8) dX4_aloneThere_53 fl_X4_43 oX_21 rfl rfl rX_21_8 ?_
          refine m_iload_n dX4_aloneThere_56 rfl ?_
          refine m_iald dX4_aloneThere_57 sX_36 (by omega) (by omega) ?_
          refine m_iret dX4_aloneThere_58 rfl ?_
          have hz := hE to ht.1 ht.2
          have hlt : (djF (I 24) (I 25) (arF I q True n (m0 + 3000)) (fun x => if x = fr then m0 else 1000000) (I 21 9).toNat k).1 to < 1000000 := by
            rw [ecb] at c41
            unfold cbF at c41
            by_cases z : dbF (djF (I 24) (I 25) (arF I q True n (m0 + 3000)) (fun x => if x = fr then m0 else 1000000) (I 21 9).toNat k).1 (djF (I 24) (I 25) (arF I q True n (m0 + 3000)) (fun x => if x = fr then m0 else 1000000) (I 21 9).toNat k).2 8 ≠ -1 ∧ (djF (I 24) (I 25) (arF I q True n (m0 + 3000)) (fun x => if x = fr then m0 else 1000000) (I 21 9).toNat k).1 (dbF (djF (I 24) (I 25) (arF I q True n (m0 + 3000)) (fun x => if x = fr then m0 else 1000000) (I 21 9).toNat k).1 (djF (I 24) (I 25) (arF I q True n (m0 + 3000)) (fun x => if x = fr then m0 else 1000000) (I 21 9).toNat k).2 8) < 1000000
            · rw [c49] at z; exact z.2
            · rw [if_neg z] at c41; exact absurd rfl c41
          rw [hz]
          have hx := h J hF
          rw [he2] at hx
          unfold anS at hx
          rw [if_neg (by omega)] at hx
          exact hx
      · have hall : ∀ u, 0 ≤ u → u < 8 → ¬ (djF (I 24) (I 25) (arF I q True n (m0 + 3000)) (fun x => if x = fr then m0 else 1000000) (I 21 9).toNat k).2 u → (djF (I 24) (I 25) (arF I q True n (m0 + 3000)) (fun x => if x = fr then m0 else 1000000) (I 21 9).toNat k).1 u = 1000000 := fun u u0 u1 hu => by
          have hd1 : dbF (djF (I 24) (I 25) (arF I q True n (m0 + 3000)) (fun x => if x = fr then m0 else 1000000) (I 21 9).toNat k).1 (djF (I 24) (I 25) (arF I q True n (m0 + 3000)) (fun x => if x = fr then m0 else 1000000) (I 21 9).toNat k).2 8 ≠ -1 := fun z => hu (db_none _ _ 8 z u u0 (by omega))
          have hd2 := (db_min _ _ 8 hd1).2 u u0 (by omega) hu
          have hd3 : ¬ (djF (I 24) (I 25) (arF I q True n (m0 + 3000)) (fun x => if x = fr then m0 else 1000000) (I 21 9).toNat k).1 (dbF (djF (I 24) (I 25) (arF I q True n (m0 + 3000)) (fun x => if x = fr then m0 else 1000000) (I 21 9).toNat k).1 (djF (I 24) (I 25) (arF I q True n (m0 + 3000)) (fun x => if x = fr then m0 else 1000000) (I 21 9).toNat k).2 8) < 1000000 := fun z => by rw [ecb] at c41; unfold cbF at c41; rw [if_pos ⟨hd1, z⟩] at c41; exact hd1 c41
          have := hB.1.1 u u0 u1
          omega
        have he := dj_end hDJ h0 hall (8 - k)
        rw [show k + (8 - k) = 8 by omega] at he
        refine m_iconst dX4_aloneThere_44 (by decide) ?_
        refine m_iret dX4_aloneThere_45 rfl ?_
        have hz : (djF (I 24) (I 25) (arF I q True n (m0 + 3000)) (fun x => if x = fr then m0 else 1000000) (I 21 9).toNat 8).1 to = 1000000 := by rw [he.1]; exact hall to ht.1 ht.2 hto
        have hx := h J hF
        rw [hz] at hx
        exact hx
theorem x_aloneThereO {q a b c : Nat} (hO : OrdAt (shX nm no) (RX nm no) q a b c) {fr to n m0 : Int} (hq36 : q ≠ 36) (hd : 5 ≤ d) (hN : NetI I) (h1 : StI I 28 29 30 31 12) (h2 : StI I 32 33 34 35 6) (hn : 1 ≤ n ∧ n ≤ 198) (hf : 0 ≤ fr ∧ fr < 8) (ht : 0 ≤ to ∧ to < 8) (hm : 0 ≤ m0 ∧ m0 ≤ 9000) (hne : fr ≠ to) : SI g d mX4_aloneThere [vr 21, vi fr, vi to, vi n, vi m0, vr q] (shX nm no) (RX nm no) I (fun r J => r = anS ((djF (I 24) (I 25) (arF I q True n (m0 + 3000)) (fun x => if x = fr then m0 else 1000000) (I 21 9).toNat 8).1 to) ∧ ∀ x, x ≠ 36 → J x = I x) := by
  intro Q h
  refine C_of rfl (Nat.le_of_ble_eq_true rfl) rfl ?_
  refine m_aload_n dX4_aloneThere_0 rfl ?_
  refine m_gr (z := 8) dX4_aloneThere_1 fl_X4_43 oX_21 rfl rfl rX_21_8 ?_
  refine m_ldc (a := 1000000) dX4_aloneThere_4 kc_X4_76 rfl ?_
  refine m_Sv [_, _] dX4_aloneThere_6 lk_X4_46 rfl rfl (Nat.le_of_ble_eq_true rfl) (by omega) (x_fill sX_36 (by decide)) ?_
  refine m_aload_n dX4_aloneThere_9 rfl ?_
  refine m_gr (z := 8) dX4_aloneThere_10 fl_X4_43 oX_21 rfl rfl rX_21_8 ?_
  refine m_iload_n dX4_aloneThere_13 rfl ?_
  refine m_iload dX4_aloneThere_14 rfl ?_
  refine m_iast dX4_aloneThere_16 sX_36 (by omega) (by omega) ?_
  refine m_iconst dX4_aloneThere_17 (by decide) ?_
  refine m_istore dX4_aloneThere_18 (by decide) rfl rfl ?_
  refine m_iconst dX4_aloneThere_20 (by decide) ?_
  refine m_istore dX4_aloneThere_21 (by decide) rfl rfl ?_
  refine x_al_loopO hO hq36 hd hN h1 h2 hn hf ht hm (fun J a => h _ J ⟨rfl, a⟩) 9 0 _ 0 _ (by omega) (by omega) (fun x hx => by rw [upI_o hx, cpI_o hx]) (fun j j0 j1 => ?_) (by omega) (fun j _ _ => ⟨fun z => absurd z (bt_0 j), fun z => z.elim⟩) (fun z => z) ?_
  · show _ = (if j = fr then m0 else 1000000)
    by_cases e : j = fr
    · rw [e, upI_s, if_pos rfl]
    · rw [upI_j e, if_neg e, cpI_in j0 (by omega)]
  · have : ∀ n : Nat, ctF (fun _ => False) n = 0 := by
      intro n
      induction n with
      | zero => rfl
      | succ n ih => unfold ctF; rw [ih, cif_f (fun z => z)]
    exact this 8
end
