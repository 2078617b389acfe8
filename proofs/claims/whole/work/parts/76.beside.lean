/-! BESIDE AND COUNT in both -/
section
variable {g : GH} {d nm no : Nat} {I : II}
def cntD (D : MV) (p : Int) : Nat → Int
  | 0 => 0
  | n + 1 => cntD D p n + (if D n 0 = p then 1 else 0)
theorem cntD_bd (D : MV) (p : Int) : ∀ n : Nat, 0 ≤ cntD D p n ∧ cntD D p n ≤ n
  | 0 => by unfold cntD; omega
  | n + 1 => by have := cntD_bd D p n; unfold cntD; split <;> omega
theorem cntD_congr {D D' : MV} {p : Int} : ∀ n : Nat, (∀ m, m < n → D m 0 = D' m 0) → cntD D p n = cntD D' p n
  | 0, _ => rfl
  | n + 1, h => by unfold cntD; rw [cntD_congr n (fun m hm => h m (by omega)), h n (by omega)]
theorem cntP_D (J : II) (p : Int) : ∀ n : Nat, cntP J p n = cntD (vX J) p n
  | 0 => rfl
  | n + 1 => by
    unfold cntP cntD
    rw [cntP_D J p n]
    show (cntD (vX J) p n + if J (200 + n) 5 = p then 1 else 0) = cntD (vX J) p n + if J (200 + n) 5 = p then 1 else 0
    rfl
theorem minT_gen {I J : II} {nm no : Nat} {lw t : Int} {D : MV} (e : ∀ x, x < 100 → x ≠ 36 → x ≠ 43 → J x = I x) (e3 : ∀ x, 300 ≤ x → J x = I x) (em2 : ∀ (m : Nat) (j : Int), j < 5 → J (200 + m) j = I (200 + m) j) : minT J nm no lw t D = minT I nm no lw t D := by
  have eq : ∀ o, J (goX I no o t) = I (goX I no o t) := fun o => by
    have q := oid_ge no (gbF I o t no)
    rcases q with q | q
    · exact e _ (by unfold goX; omega) (by unfold goX; omega) (by unfold goX; omega)
    · exact e3 _ q
  have eq0 : ∀ o, J (orw (goX I no o t) 0) = I (orw (goX I no o t) 0) := fun o => by
    have q := orw_ge (goX I no o t) 0 (oid_ge no (gbF I o t no)) (by omega)
    rcases q with q | q
    · exact e _ (by omega) (by omega) (by omega)
    · exact e3 _ q
  have eg : ∀ o, goX J no o t = goX I no o t := fun o => goX_eq e3 no o t
  have em : ∀ j : Int, j < 5 → (fun m : Nat => J (200 + m) j) = fun m : Nat => I (200 + m) j := fun j hj => by
    funext m
    exact em2 m j hj
  have eU : UX J lw t = UX I lw t := by
    funext v
    unfold UX upX stp
    rw [e 21 (by omega) (by omega) (by omega), e 28 (by omega) (by omega) (by omega), e 29 (by omega) (by omega) (by omega), e 30 (by omega) (by omega) (by omega), e 31 (by omega) (by omega) (by omega), e 32 (by omega) (by omega) (by omega), e 33 (by omega) (by omega) (by omega), e 34 (by omega) (by omega) (by omega), e 35 (by omega) (by omega) (by omega)]
  have eO : opX J t = opX I t := by
    funext o
    unfold opX
    rw [e 22 (by omega) (by omega) (by omega), e 23 (by omega) (by omega) (by omega)]
  have eWS : (fun o n k => wsX J (goX J no o t) n k) = fun o n k => wsX I (goX I no o t) n k := by
    funext o n k
    rw [eg]
    unfold wsX
    rw [eq]
  have eRK : (fun o k => J (orw (goX J no o t) 0) k) = fun o k => I (orw (goX I no o t) 0) k := by
    funext o k
    rw [eg, eq0]
  have eNT : (fun o => nightX J (goX J no o t) (t % 1440 / 60)) = fun o => nightX I (goX I no o t) (t % 1440 / 60) := by
    funext o
    rw [eg]
    unfold nightX
    rw [eq]
  unfold minT
  rw [e 21 (by omega) (by omega) (by omega), e 24 (by omega) (by omega) (by omega), e 25 (by omega) (by omega) (by omega), e 26 (by omega) (by omega) (by omega), e 27 (by omega) (by omega) (by omega), eU, eO, eWS, eRK, eNT, em 0 (by omega), em 1 (by omega), em 2 (by omega), em 4 (by omega)]
theorem minN_gen {I J : II} {nm no : Nat} {lw t : Int} {D : MV} (e : ∀ x, x < 100 → x ≠ 36 → x ≠ 43 → J x = I x) (e3 : ∀ x, 300 ≤ x → J x = I x) (em2 : ∀ (m : Nat) (j : Int), j < 5 → J (200 + m) j = I (200 + m) j) : ∀ n : Nat, minN J nm no lw t D n = minN I nm no lw t D n
  | 0 => rfl
  | n + 1 => by
    show minT J nm no lw (t + n) (minN J nm no lw t D n) = minT I nm no lw (t + n) (minN I nm no lw t D n)
    rw [minN_gen e e3 em2 n, minT_gen e e3 em2]
/-- the first i messages are kept -/
def kpI (I K : II) (nm i : Nat) : Prop := (∀ x, ¬ (230 ≤ x ∧ x < 230 + nm) → K x = I x) ∧ (∀ m, m < nm → ∀ j : Int, j < 5 → K (230 + m) j = I (230 + m) j) ∧ ∀ m, m < i → ∀ j : Int, 5 ≤ j → j ≤ 10 → K (230 + m) j = I (200 + m) j
theorem rd6 {K : II} {q : Nat} {f : Int → Int} {x : Nat} {j : Int} : upI (upI (upI (upI (upI (upI K q 5 (f 5)) q 6 (f 6)) q 7 (f 7)) q 8 (f 8)) q 9 (f 9)) q 10 (f 10) x j = if x = q ∧ 5 ≤ j ∧ j ≤ 10 then f j else K x j := by
  unfold upI
  by_cases hx : x = q
  · subst hx
    by_cases h : 5 ≤ j ∧ j ≤ 10
    · rcases (show j = 5 ∨ j = 6 ∨ j = 7 ∨ j = 8 ∨ j = 9 ∨ j = 10 by omega) with e | e | e | e | e | e <;> subst e <;> simp
    · rw [if_neg (fun z => by omega), if_neg (fun z => by omega), if_neg (fun z => by omega), if_neg (fun z => by omega), if_neg (fun z => by omega), if_neg (fun z => by omega), if_neg (fun z => h z.2)]
  · simp [hx]
theorem x_keep_loop {Q : QT} (hd : 1 ≤ d) (hc : I 43 4 = nm) (hm : nm ≤ 24) (h : ∀ K, kpI I K nm nm → Q none (shX nm no) (RX nm no) K) : ∀ (k i : Nat) (K : II), nm - i < k → i ≤ nm → kpI I K nm i → T g d mX6_keep 0 0 2 [some (vr 43), some (vi i)] [] (shX nm no) (RX nm no) K Q := by
  intro k
  induction k with
  | zero => intro i K hk; omega
  | succ k ih =>
    intro i K hk hi hK
    have e4 : K 43 4 = nm := by rw [hK.1 43 (by omega)]; exact hc
    refine m_iload_n dX6_keep_2 rfl ?_
    refine m_aload_n dX6_keep_3 rfl ?_
    refine m_gi (z := 4) dX6_keep_4 fl_X6_62 oX_43 rfl rfl ?_
    rw [e4]
    refine m_icmp_ge (tgt := 31) dX6_keep_7 (by decide) (fun c7 => ?_) (fun c7 => ?_)
    · have ei : i = nm := by omega
      subst ei
      refine m_vret dX6_keep_31 rfl ?_
      exact h K hK
    · have hq := sX_msg (no := no) (show i < nm by omega) hm
      have hq2 := sX_kept (no := no) (show i < nm by omega) hm
      refine m_aload_n dX6_keep_10 rfl ?_
      refine m_gr (z := 3) dX6_keep_11 fl_X6_17 oX_43 rfl rfl rX_43_3 ?_
      refine m_iload_n dX6_keep_14 rfl ?_
      refine m_al dX6_keep_15 sX_45 (by decide) (by omega) (by omega) (show RX nm no 45 (i : Int) = some (230 + i) from rX_kept (by omega) (by omega)) ?_
      refine m_aload_n dX6_keep_16 rfl ?_
      refine m_gr (z := 2) dX6_keep_17 fl_X6_11 oX_43 rfl rfl rX_43_2 ?_
      refine m_iload_n dX6_keep_20 rfl ?_
      refine m_al dX6_keep_21 sX_44 (by decide) (by omega) (by omega) (show RX nm no 44 (i : Int) = some (200 + i) from rX_msg (by omega) (by omega)) ?_
      refine m_Vv [_] dX6_keep_22 lk_X6_84 rfl hq2 rfl (Nat.le_of_ble_eq_true rfl) (by omega) (x_takeOver hq2 hq (by omega)) ?_
      refine m_iinc dX6_keep_25 rfl (by decide) rfl rfl (by omega) ?_
      refine m_goto (tgt := 2) dX6_keep_28 (by decide) ?_
      refine ih (i + 1) _ (by omega) (by omega) ⟨fun x hx => ?_, fun m hm2 j hj => ?_, fun m hm2 j j0 j1 => ?_⟩
      · funext j
        rw [rd6 (f := K (200 + i)), if_neg (fun z => by omega)]
        rw [hK.1 x hx]
      · rw [rd6 (f := K (200 + i)), if_neg (fun z => by omega)]; exact hK.2.1 m hm2 j hj
      · by_cases e : m = i
        · subst e; rw [rd6 (f := K (200 + m)), if_pos ⟨rfl, j0, j1⟩, hK.1 (200 + m) (by omega)]
        · rw [rd6 (f := K (200 + i)), if_neg (fun z => by omega)]; exact hK.2.2 m (by omega) j j0 j1
theorem x_keep (hd : 1 ≤ d) (hc : I 43 4 = nm) (hm : nm ≤ 24) : SV g d mX6_keep [vr 43] (shX nm no) (RX nm no) I (fun K => kpI I K nm nm) := by
  intro Q h
  refine C_of rfl (Nat.le_of_ble_eq_true rfl) rfl ?_
  refine m_iconst dX6_keep_0 (by decide) ?_
  refine m_istore_n dX6_keep_1 (by decide) rfl rfl ?_
  exact x_keep_loop hd hc hm h (nm + 1) 0 I (by omega) (by omega) ⟨fun _ _ => rfl, fun _ _ _ _ => rfl, fun m hm2 => by omega⟩
def rsI (I K : II) (nm i : Nat) : Prop := (∀ x, ¬ (200 ≤ x ∧ x < 200 + nm) → K x = I x) ∧ (∀ m, m < nm → ∀ j : Int, (j < 5 ∨ 10 < j) → K (200 + m) j = I (200 + m) j) ∧ ∀ m, m < i → ∀ j : Int, 5 ≤ j → j ≤ 10 → K (200 + m) j = I (230 + m) j
theorem x_restore_loop {tt : Int} {Q : QT} (hd : 1 ≤ d) (hc : I 43 4 = nm) (hm : nm ≤ 24) (h : ∀ K, rsI I K nm nm → Q none (shX nm no) (RX nm no) (upI K 43 5 tt)) : ∀ (k i : Nat) (K : II), nm - i < k → i ≤ nm → rsI I K nm i → T g d mX6_restore 0 0 2 [some (vr 43), some (vi tt), some (vi i)] [] (shX nm no) (RX nm no) K Q := by
  intro k
  induction k with
  | zero => intro i K hk; omega
  | succ k ih =>
    intro i K hk hi hK
    have e4 : K 43 4 = nm := by rw [hK.1 43 (by omega)]; exact hc
    refine m_iload_n dX6_restore_2 rfl ?_
    refine m_aload_n dX6_restore_3 rfl ?_
    refine m_gi (z := 4) dX6_restore_4 fl_X6_62 oX_43 rfl rfl ?_
    rw [e4]
    refine m_icmp_ge (tgt := 31) dX6_restore_7 (by decide) (fun c7 => ?_) (fun c7 => ?_)
    · have ei : i = nm := by omega
      subst ei
      refine m_aload_n dX6_restore_31 rfl ?_
      refine m_iload_n dX6_restore_32 rfl ?_
      refine m_pi (z := 5) dX6_restore_33 fl_X6_39 oX_43 rfl rfl rfl ?_
      refine m_vret dX6_restore_36 rfl ?_
      exact h K hK
    · have hq := sX_msg (no := no) (show i < nm by omega) hm
      have hq2 := sX_kept (no := no) (show i < nm by omega) hm
      refine m_aload_n dX6_restore_10 rfl ?_
      refine m_gr (z := 2) dX6_restore_11 fl_X6_11 oX_43 rfl rfl rX_43_2 ?_
      refine m_iload_n dX6_restore_14 rfl ?_
      refine m_al dX6_restore_15 sX_44 (by decide) (by omega) (by omega) (show RX nm no 44 (i : Int) = some (200 + i) from rX_msg (by omega) (by omega)) ?_
      refine m_aload_n dX6_restore_16 rfl ?_
      refine m_gr (z := 3) dX6_restore_17 fl_X6_17 oX_43 rfl rfl rX_43_3 ?_
      refine m_iload_n dX6_restore_20 rfl ?_
      refine m_al dX6_restore_21 sX_45 (by decide) (by omega) (by omega) (show RX nm no 45 (i : Int) = some (230 + i) from rX_kept (by omega) (by omega)) ?_
      refine m_Vv [_] dX6_restore_22 lk_X6_84 rfl hq rfl (Nat.le_of_ble_eq_true rfl) (by omega) (x_takeOver hq hq2 (by omega)) ?_
      refine m_iinc dX6_restore_25 rfl (by decide) rfl rfl (by omega) ?_
      refine m_goto (tgt := 2) dX6_restore_28 (by decide) ?_
      refine ih (i + 1) _ (by omega) (by omega) ⟨fun x hx => ?_, fun m hm2 j hj => ?_, fun m hm2 j j0 j1 => ?_⟩
      · funext j
        rw [rd6 (f := K (230 + i)), if_neg (fun z => by omega)]
        rw [hK.1 x hx]
      · rw [rd6 (f := K (230 + i)), if_neg (fun z => by omega)]; exact hK.2.1 m hm2 j hj
      · by_cases e : m = i
        · subst e; rw [rd6 (f := K (230 + m)), if_pos ⟨rfl, j0, j1⟩, hK.1 (230 + m) (by omega)]
        · rw [rd6 (f := K (230 + i)), if_neg (fun z => by omega)]; exact hK.2.2 m (by omega) j j0 j1
theorem x_restore {tt : Int} (hd : 1 ≤ d) (hc : I 43 4 = nm) (hm : nm ≤ 24) : SV g d mX6_restore [vr 43, vi tt] (shX nm no) (RX nm no) I (fun L => ∃ K, rsI I K nm nm ∧ L = upI K 43 5 tt) := by
  intro Q h
  refine C_of rfl (Nat.le_of_ble_eq_true rfl) rfl ?_
  refine m_iconst dX6_restore_0 (by decide) ?_
  refine m_istore_n dX6_restore_1 (by decide) rfl rfl ?_
  exact x_restore_loop hd hc hm (fun K hK => h _ ⟨K, hK, rfl⟩) (nm + 1) 0 I (by omega) (by omega) ⟨fun _ _ => rfl, fun _ _ _ _ => rfl, fun m hm2 => by omega⟩
def aBes (v n W t c : Int) : Int := if v = -1 ∨ (0 ≤ v ∧ v ≤ W - 1) then (if (1 ≤ n ∧ n ≤ 300) ∧ t + n ≤ 9000 then c else -3) else -2
def lwF (v : Int) : Int := if v = -1 then -9 else v
/-- what trying leaves -/
def FrV (I L : II) : Prop := (∀ x, ¬ (200 ≤ x ∧ x < 300) → x ≠ 36 → L x = I x) ∧ ∀ x, 200 ≤ x → x < 300 → ∀ j : Int, j < 5 → L x j = I x j
theorem FrV_rf {I : II} : FrV I I := ⟨fun _ _ _ => rfl, fun _ _ _ _ _ => rfl⟩

theorem kp_poI {I K : II} {nm no : Nat} (h : kpI I K nm nm) (hI : PoI I nm no) : PoI K nm no ∧ (∀ m, m < nm → vX K m = vX I m) ∧ FrV I K := by
  obtain ⟨a1, a2, a3, a4, a5, a6, a7, a8, a9, a10⟩ := id hI
  have e : ∀ x, ¬ (230 ≤ x ∧ x < 230 + nm) → K x = I x := h.1
  have hT : FrT I K nm := ⟨fun x hx => e x (by omega), fun m hm j hj => by rw [e (200 + m) (by omega)], by rw [e 100 (by omega)]; exact ⟨rfl, rfl, rfl, rfl, rfl, rfl⟩⟩
  have hV : ∀ m, m < nm → vX K m = vX I m := fun m hm => vX_same (e _ (by omega))
  refine ⟨⟨by rw [e 43 (by omega)]; exact a1, a2, netI_frT hT a3, stI_frT hT (by omega) (by omega) (by omega) (by omega) a4, stI_frT hT (by omega) (by omega) (by omega) (by omega) a5, lawI_frT hT a6, msgS_frT hT a7, fun m hm => ?_, fun m hm => cac_fr (fun x hx => e x (by omega)) (e _ (by omega)) (a9 m hm), by rw [e 43 (by omega)]; exact a10⟩, hV, fun x hx _ => e x (by omega), fun x x0 x1 j hj => ?_⟩
  · rw [hV m hm, e 21 (by omega), e 24 (by omega), e 25 (by omega), e 43 (by omega)]; exact a8 m hm
  · by_cases c : 230 ≤ x ∧ x < 230 + nm
    · have := h.2.1 (x - 230) (by omega) j hj
      rw [show 230 + (x - 230) = x by omega] at this
      exact this
    · rw [e x c]
theorem bes_end {I K J M L : II} {nm no : Nat} (hI : PoI I nm no) (hK : kpI I K nm nm) (hF : FrP K J nm) (hP : PoI J nm no) (hR : rsI J M nm nm) (hL : L = upI M 43 5 (I 43 5)) : PoI L nm no ∧ (∀ m, m < nm → vX L m = vX I m) ∧ FrV I L := by
  obtain ⟨a1, a2, a3, a4, a5, a6, a7, a8, a9, a10⟩ := id hI
  obtain ⟨-, -, f0⟩ := kp_poI hK hI
  have eL : ∀ x, ¬ (200 ≤ x ∧ x < 300) → x ≠ 36 → L x = I x := fun x hx h36 => by
    by_cases e43 : x = 43
    · subst e43
      funext j
      rw [hL]
      by_cases ej : j = 5
      · subst ej; rw [upI_s]
      · rw [upI_j ej, hR.1 43 (by omega), hF.2.1 j ej, f0.1 43 (by omega) (by omega)]
    · rw [hL, upI_o e43, hR.1 x (by omega), hF.1 x (by omega) h36 e43, f0.1 x hx h36]
  have eM : ∀ x, 200 ≤ x → x < 300 → ∀ j : Int, j < 5 → L x j = I x j := fun x x0 x1 j hj => by
    rw [hL, upI_o (by omega)]
    by_cases c : x < 200 + nm
    · have r1 := hR.2.1 (x - 200) (by omega) j (Or.inl hj)
      have r2 := hF.2.2 (x - 200) (by omega) j hj
      rw [show 200 + (x - 200) = x by omega] at r1 r2
      rw [r1, r2]; exact f0.2 x x0 x1 j hj
    · rw [hR.1 x (by omega), hF.1 x (by omega) (by omega) (by omega)]; exact f0.2 x x0 x1 j hj
  have hT : FrT I L nm := ⟨fun x hx => eL x (by omega) (by omega), fun m hm j hj => eM _ (by omega) (by omega) j hj, by rw [eL 100 (by omega) (by omega)]; exact ⟨rfl, rfl, rfl, rfl, rfl, rfl⟩⟩
  have e5 : ∀ m, m < nm → ∀ j : Int, 5 ≤ j → j ≤ 10 → L (200 + m) j = I (200 + m) j := fun m hm j j0 j1 => by
    rw [hL, upI_o (by omega), hR.2.2 m hm j j0 j1, hF.1 (230 + m) (by omega) (by omega) (by omega)]
    exact hK.2.2 m hm j j0 j1
  have hV : ∀ m, m < nm → vX L m = vX I m := fun m hm => by
    unfold vX
    rw [e5 m hm 5 (by omega) (by omega), e5 m hm 6 (by omega) (by omega), e5 m hm 7 (by omega) (by omega), e5 m hm 8 (by omega) (by omega), e5 m hm 9 (by omega) (by omega), e5 m hm 10 (by omega) (by omega)]
  have hJL : ∀ x, x < 28 → L x = J x := fun x hx => by rw [hL, upI_o (by omega), hR.1 x (by omega)]
  refine ⟨⟨by rw [eL 43 (by omega) (by omega)]; exact a1, a2, netI_frT hT a3, stI_frT hT (by omega) (by omega) (by omega) (by omega) a4, stI_frT hT (by omega) (by omega) (by omega) (by omega) a5, lawI_frT hT a6, msgS_frT hT a7, fun m hm => ?_, fun m hm => ?_, by rw [eL 43 (by omega) (by omega)]; exact a10⟩, hV, eL, eM⟩
  · rw [hV m hm, eL 21 (by omega) (by omega), eL 24 (by omega) (by omega), eL 25 (by omega) (by omega), eL 43 (by omega) (by omega)]; exact a8 m hm
  · refine cac_ew hJL (fun j hj => ?_) (hP.2.2.2.2.2.2.2.2.1 m hm)
    rw [hL, upI_o (by omega)]
    exact hR.2.1 m hm j hj
theorem px_beside {v n : Int} (hd : 7 ≤ d) (hI : PoI I nm no) : SI g d mX11_beside [vr 20, vi v, vi n] (shX nm no) (RX nm no) I (fun r L => (∃ D0 : MV, (∀ m, m < nm → D0 m = vX I m) ∧ r = aBes v n (I 21 9) (I 43 5) (cntD (minN I nm no (lwF v) (I 43 5) D0 n.toNat) 2 nm)) ∧ PoI L nm no ∧ (∀ m, m < nm → vX L m = vX I m) ∧ FrV I L) := by
  obtain ⟨a1, a2, a3, a4, a5, a6, a7, a8, a9, a10⟩ := id hI
  have hW := a3.1
  intro Q h
  refine C_of rfl (Nat.le_of_ble_eq_true rfl) rfl ?_
  refine m_iload_n dX11_beside_0 rfl ?_
  refine m_iconst dX11_beside_1 (by decide) ?_
  refine m_icmp_eq (tgt := 16) dX11_beside_2 (by decide) (fun c2 => ?_) (fun c2 => ?_)
  · refine m_iload_n dX11_beside_16 rfl ?_
    refine m_iconst dX11_beside_17 (by decide) ?_
    refine m_sipush dX11_beside_18 rfl (by decide) ?_
    refine m_Si [_, _, _] dX11_beside_21 lk_X11_71 rfl rfl (Nat.le_of_ble_eq_true rfl) (by omega) x_isWithin ?_
    refine m_if_eq (tgt := 42) dX11_beside_24 (by decide) (fun c24 => ?_) (fun c24 => ?_)
    · have z24 := bI_eq0 c24
      refine m_bipush dX11_beside_42 rfl (by decide) ?_
      refine m_iret dX11_beside_44 rfl ?_
      exact h _ _ ⟨⟨vX I, fun _ _ => rfl, by unfold aBes; rw [if_pos (by omega), if_neg (by omega)]⟩, hI, fun _ _ => rfl, FrV_rf⟩
    · have z24 := bI_ne0 c24
      refine m_aload_n dX11_beside_27 rfl ?_
      refine m_gr (z := 2) dX11_beside_28 fl_X11_28 oX_20 rfl rfl rX_20_2 ?_
      refine m_gi (z := 5) dX11_beside_31 fl_X11_105 oX_43 rfl rfl ?_
      refine m_iload_n dX11_beside_34 rfl ?_
      refine m_iadd dX11_beside_35 (by omega) ?_
      refine m_sipush dX11_beside_36 rfl (by decide) ?_
      refine m_icmp_le (tgt := 45) dX11_beside_39 (by decide) (fun c39 => ?_) (fun c39 => ?_)
      · refine m_aload_n dX11_beside_45 rfl ?_
        refine m_gr (z := 2) dX11_beside_46 fl_X11_28 oX_20 rfl rfl rX_20_2 ?_
        refine m_gi (z := 5) dX11_beside_49 fl_X11_105 oX_43 rfl rfl ?_
        refine m_istore_n dX11_beside_52 (by decide) rfl rfl ?_
        refine m_aload_n dX11_beside_53 rfl ?_
        refine m_gr (z := 2) dX11_beside_54 fl_X11_28 oX_20 rfl rfl rX_20_2 ?_
        refine m_VV [] dX11_beside_57 lk_X11_186 rfl oX_43 rfl (Nat.le_of_ble_eq_true rfl) (by omega) (x_keep (by omega) a1 a2) ?_
        intro I57 q57
        obtain ⟨k1, k2, k3⟩ := kp_poI q57 hI
        have k43 : I57 43 = I 43 := k3.1 43 (by omega) (by omega)
        refine m_aload_n dX11_beside_60 rfl ?_
        refine m_gr (z := 2) dX11_beside_61 fl_X11_28 oX_20 rfl rfl rX_20_2 ?_
        refine m_iload_n dX11_beside_64 rfl ?_
        refine m_iload_n dX11_beside_65 rfl ?_
        refine m_iconst dX11_beside_66 (by decide) ?_
        refine m_ticmp_ne (tgt := 74) (M := 77) dX11_beside_67 (by decide) (fun c67 hM67 => by
            refine m_iconst dX11_beside_74 (by decide) ?_
            refine m_iload_n dX11_beside_75 rfl ?_
            refine m_ishl dX11_beside_76 ?_
            exact hM67
          ) (fun c67 hM67 => by
            refine m_iconst dX11_beside_70 (by decide) ?_
            refine m_goto (tgt := 77) dX11_beside_71 (by decide) ?_
            exact hM67
          ) ?_
        refine m_top (if v = -1 then 0 else f_ishl 1 v) (by (repeat' split) <;> first | rfl | omega) ?_
        refine m_VV [_, _] dX11_beside_77 lk_X11_118 rfl oX_43 rfl (Nat.le_of_ble_eq_true rfl) (by omega) (x_pass (lw := lwF v) (by omega) k1 ⟨by omega, by rw [k43]; omega⟩ (by unfold lwF; by_cases e : v = -1; (rw [if_pos e, if_pos e]; exact Or.inl ⟨rfl, rfl⟩); (rw [if_neg e, if_neg e]; exact Or.inr ⟨by omega, by omega, rfl⟩))) ?_
        intro I77 q77
        obtain ⟨hF, hP, ht, hV⟩ := q77
        have eM : vX I77 = minN I nm no (lwF v) (I 43 5) (vX I57) n.toNat := by
          rw [hV, k43, minN_gen (fun x a b c => k3.1 x (by omega) b) (fun x a => k3.1 x (by omega) (by omega)) (fun m j hj => ?_)]
          by_cases c : m < 100
          · exact k3.2 _ (by omega) (by omega) j hj
          · rw [k3.1 (200 + m) (by omega) (by omega)]
        refine m_aload_n dX11_beside_80 rfl ?_
        refine m_gr (z := 2) dX11_beside_81 fl_X11_28 oX_20 rfl rfl rX_20_2 ?_
        refine m_iconst dX11_beside_84 (by decide) ?_
        refine m_Vi [_] dX11_beside_85 lk_X11_189 rfl oX_43 rfl (Nat.le_of_ble_eq_true rfl) (by omega) (x_inPlace hP.1 a2) ?_
        refine m_istore dX11_beside_88 (by decide) rfl rfl ?_
        refine m_aload_n dX11_beside_90 rfl ?_
        refine m_gr (z := 2) dX11_beside_91 fl_X11_28 oX_20 rfl rfl rX_20_2 ?_
        refine m_iload_n dX11_beside_94 rfl ?_
        refine m_VV [_] dX11_beside_95 lk_X11_192 rfl oX_43 rfl (Nat.le_of_ble_eq_true rfl) (by omega) (x_restore (by omega) hP.1 a2) ?_
        intro I95 q95
        refine m_iload dX11_beside_98 rfl ?_
        refine m_iret dX11_beside_100 rfl ?_
        obtain ⟨M, hR, hL⟩ := q95
        refine h _ _ ⟨⟨vX I57, k2, ?_⟩, bes_end hI q57 hF hP hR hL⟩
        unfold aBes
        rw [if_pos (by omega), if_pos (by omega), cntP_D, eM]
      · refine m_bipush dX11_beside_42 rfl (by decide) ?_
        refine m_iret dX11_beside_44 rfl ?_
        exact h _ _ ⟨⟨vX I, fun _ _ => rfl, by unfold aBes; rw [if_pos (by omega), if_neg (by omega)]⟩, hI, fun _ _ => rfl, FrV_rf⟩
  · refine m_aload_n dX11_beside_5 rfl ?_
    refine m_iload_n dX11_beside_6 rfl ?_
    refine m_Vi [_] dX11_beside_7 lk_X11_156 rfl oX_20 rfl (Nat.le_of_ble_eq_true rfl) (by omega) (x_isWire (by omega) ⟨by omega, by omega⟩) ?_
    refine m_if_ne (tgt := 16) dX11_beside_10 (by decide) (fun c10 => ?_) (fun c10 => ?_)
    · have z10 := bI_ne0 c10
      refine m_iload_n dX11_beside_16 rfl ?_
      refine m_iconst dX11_beside_17 (by decide) ?_
      refine m_sipush dX11_beside_18 rfl (by decide) ?_
      refine m_Si [_, _, _] dX11_beside_21 lk_X11_71 rfl rfl (Nat.le_of_ble_eq_true rfl) (by omega) x_isWithin ?_
      refine m_if_eq (tgt := 42) dX11_beside_24 (by decide) (fun c24 => ?_) (fun c24 => ?_)
      · have z24 := bI_eq0 c24
        refine m_bipush dX11_beside_42 rfl (by decide) ?_
        refine m_iret dX11_beside_44 rfl ?_
        exact h _ _ ⟨⟨vX I, fun _ _ => rfl, by unfold aBes; rw [if_pos (by omega), if_neg (by omega)]⟩, hI, fun _ _ => rfl, FrV_rf⟩
      · have z24 := bI_ne0 c24
        refine m_aload_n dX11_beside_27 rfl ?_
        refine m_gr (z := 2) dX11_beside_28 fl_X11_28 oX_20 rfl rfl rX_20_2 ?_
        refine m_gi (z := 5) dX11_beside_31 fl_X11_105 oX_43 rfl rfl ?_
        refine m_iload_n dX11_beside_34 rfl ?_
        refine m_iadd dX11_beside_35 (by omega) ?_
        refine m_sipush dX11_beside_36 rfl (by decide) ?_
        refine m_icmp_le (tgt := 45) dX11_beside_39 (by decide) (fun c39 => ?_) (fun c39 => ?_)
        · refine m_aload_n dX11_beside_45 rfl ?_
          refine m_gr (z := 2) dX11_beside_46 fl_X11_28 oX_20 rfl rfl rX_20_2 ?_
          refine m_gi (z := 5) dX11_beside_49 fl_X11_105 oX_43 rfl rfl ?_
          refine m_istore_n dX11_beside_52 (by decide) rfl rfl ?_
          refine m_aload_n dX11_beside_53 rfl ?_
          refine m_gr (z := 2) dX11_beside_54 fl_X11_28 oX_20 rfl rfl rX_20_2 ?_
          refine m_VV [] dX11_beside_57 lk_X11_186 rfl oX_43 rfl (Nat.le_of_ble_eq_true rfl) (by omega) (x_keep (by omega) a1 a2) ?_
          intro I57 q57
          obtain ⟨k1, k2, k3⟩ := kp_poI q57 hI
          have k43 : I57 43 = I 43 := k3.1 43 (by omega) (by omega)
          refine m_aload_n dX11_beside_60 rfl ?_
          refine m_gr (z := 2) dX11_beside_61 fl_X11_28 oX_20 rfl rfl rX_20_2 ?_
          refine m_iload_n dX11_beside_64 rfl ?_
          refine m_iload_n dX11_beside_65 rfl ?_
          refine m_iconst dX11_beside_66 (by decide) ?_
          refine m_ticmp_ne (tgt := 74) (M := 77) dX11_beside_67 (by decide) (fun c67 hM67 => by
              refine m_iconst dX11_beside_74 (by decide) ?_
              refine m_iload_n dX11_beside_75 rfl ?_
              refine m_ishl dX11_beside_76 ?_
              exact hM67
            ) (fun c67 hM67 => by
              refine m_iconst dX11_beside_70 (by decide) ?_
              refine m_goto (tgt := 77) dX11_beside_71 (by decide) ?_
              exact hM67
            ) ?_
          refine m_top (if v = -1 then 0 else f_ishl 1 v) (by (repeat' split) <;> first | rfl | omega) ?_
          refine m_VV [_, _] dX11_beside_77 lk_X11_118 rfl oX_43 rfl (Nat.le_of_ble_eq_true rfl) (by omega) (x_pass (lw := lwF v) (by omega) k1 ⟨by omega, by rw [k43]; omega⟩ (by unfold lwF; by_cases e : v = -1; (rw [if_pos e, if_pos e]; exact Or.inl ⟨rfl, rfl⟩); (rw [if_neg e, if_neg e]; exact Or.inr ⟨by omega, by omega, rfl⟩))) ?_
          intro I77 q77
          obtain ⟨hF, hP, ht, hV⟩ := q77
          have eM : vX I77 = minN I nm no (lwF v) (I 43 5) (vX I57) n.toNat := by
            rw [hV, k43, minN_gen (fun x a b c => k3.1 x (by omega) b) (fun x a => k3.1 x (by omega) (by omega)) (fun m j hj => ?_)]
            by_cases c : m < 100
            · exact k3.2 _ (by omega) (by omega) j hj
            · rw [k3.1 (200 + m) (by omega) (by omega)]
          refine m_aload_n dX11_beside_80 rfl ?_
          refine m_gr (z := 2) dX11_beside_81 fl_X11_28 oX_20 rfl rfl rX_20_2 ?_
          refine m_iconst dX11_beside_84 (by decide) ?_
          refine m_Vi [_] dX11_beside_85 lk_X11_189 rfl oX_43 rfl (Nat.le_of_ble_eq_true rfl) (by omega) (x_inPlace hP.1 a2) ?_
          refine m_istore dX11_beside_88 (by decide) rfl rfl ?_
          refine m_aload_n dX11_beside_90 rfl ?_
          refine m_gr (z := 2) dX11_beside_91 fl_X11_28 oX_20 rfl rfl rX_20_2 ?_
          refine m_iload_n dX11_beside_94 rfl ?_
          refine m_VV [_] dX11_beside_95 lk_X11_192 rfl oX_43 rfl (Nat.le_of_ble_eq_true rfl) (by omega) (x_restore (by omega) hP.1 a2) ?_
          intro I95 q95
          refine m_iload dX11_beside_98 rfl ?_
          refine m_iret dX11_beside_100 rfl ?_
          obtain ⟨M, hR, hL⟩ := q95
          refine h _ _ ⟨⟨vX I57, k2, ?_⟩, bes_end hI q57 hF hP hR hL⟩
          unfold aBes
          rw [if_pos (by omega), if_pos (by omega), cntP_D, eM]
        · refine m_bipush dX11_beside_42 rfl (by decide) ?_
          refine m_iret dX11_beside_44 rfl ?_
          exact h _ _ ⟨⟨vX I, fun _ _ => rfl, by unfold aBes; rw [if_pos (by omega), if_neg (by omega)]⟩, hI, fun _ _ => rfl, FrV_rf⟩
    · have z10 := bI_eq0 (show _ = (0 : Int) by omega)
      refine m_bipush dX11_beside_13 rfl (by decide) ?_
      refine m_iret dX11_beside_15 rfl ?_
      exact h _ _ ⟨⟨vX I, fun _ _ => rfl, by unfold aBes; rw [if_neg (by omega)]⟩, hI, fun _ _ => rfl, FrV_rf⟩
theorem stM_0 {J : II} {m : Nat} : stM J m 0 = J 110 (6 * m) := rfl
theorem y_given_loop {Q : QT} (hc : I 100 13 = nm) (hm : nm ≤ 24) (h : Q (some (vi (cntD (stM I) 2 nm))) (shX nm no) (RX nm no) I) : ∀ (k i : Nat), nm - i < k → i ≤ nm → T g d mX12_given 0 0 4 [some (vr 100), some (vi (cntD (stM I) 2 i)), some (vi i)] [] (shX nm no) (RX nm no) I Q := by
  intro k
  induction k with
  | zero => intro i hk; omega
  | succ k ih =>
    intro i hk hi
    have hb := cntD_bd (stM I) 2 i
    have e1 : cntD (stM I) 2 (i + 1) = cntD (stM I) 2 i + (if I 110 (6 * i) = 2 then 1 else 0) := rfl
    refine m_iload_n dX12_given_4 rfl ?_
    refine m_aload_n dX12_given_5 rfl ?_
    refine m_gi (z := 13) dX12_given_6 fl_X12_130 oX_100 rfl rfl ?_
    refine m_icmp_ge (tgt := 39) dX12_given_9 (by decide) (fun c9 => ?_) (fun c9 => ?_)
    · have ei : i = nm := by omega
      subst ei
      refine m_iload_n dX12_given_39 rfl ?_
      refine m_iret dX12_given_40 rfl ?_
      exact h
    · refine m_iload_n dX12_given_12 rfl ?_
      refine m_aload_n dX12_given_13 rfl ?_
      refine m_gr (z := 15) dX12_given_14 fl_X12_42 oX_100 rfl rfl rX_100_15 ?_
      refine m_bipush dX12_given_17 rfl (by decide) ?_
      refine m_iload_n dX12_given_19 rfl ?_
      refine m_imul dX12_given_20 (by omega) ?_
      refine m_iald dX12_given_21 sX_110 (by omega) (by omega) ?_
      refine m_iconst dX12_given_22 (by decide) ?_
      refine m_ticmp_ne (tgt := 30) (M := 31) dX12_given_23 (by decide) (fun c23 hM23 => by
          refine m_iconst dX12_given_30 (by decide) ?_
          exact hM23
        ) (fun c23 hM23 => by
          refine m_iconst dX12_given_26 (by decide) ?_
          refine m_goto (tgt := 31) dX12_given_27 (by decide) ?_
          exact hM23
        ) ?_
      refine m_top (if I 110 (6 * i) = 2 then 1 else 0) (by (repeat' split) <;> first | rfl | omega) ?_
      refine m_iadd dX12_given_31 (by split <;> omega) ?_
      rw [← e1]
      refine m_istore_n dX12_given_32 (by decide) rfl rfl ?_
      refine m_iinc dX12_given_33 rfl (by decide) rfl rfl (by omega) ?_
      refine m_goto (tgt := 4) dX12_given_36 (by decide) ?_
      exact ih (i + 1) (by omega) (by omega)
theorem y_given (hc : I 100 13 = nm) (hm : nm ≤ 24) : SP g d mX12_given 0 0 [vr 100] (shX nm no) (RX nm no) I (some (vi (cntD (stM I) 2 nm))) (shX nm no) (RX nm no) I := by
  intro Q h
  refine C_of rfl (Nat.le_of_ble_eq_true rfl) rfl ?_
  refine m_iconst dX12_given_0 (by decide) ?_
  refine m_istore_n dX12_given_1 (by decide) rfl rfl ?_
  refine m_iconst dX12_given_2 (by decide) ?_
  refine m_istore_n dX12_given_3 (by decide) rfl rfl ?_
  exact y_given_loop hc hm h (nm + 1) 0 (by omega) (by omega)
theorem y_bes_copy {v n : Int} {Q : QT} (hk : ∀ l3 : Int, T g d mX12_beside 0 0 69 [some (vr 100), some (vi v), some (vi n), some (vi l3), none] [] (shX nm no) (RX nm no) (cpI I 111 (I 110) 144) Q) : ∀ (m : Nat) (i : Int), (144 - i).toNat < m → 0 ≤ i → i ≤ 144 → T g d mX12_beside 0 0 44 [some (vr 100), some (vi v), some (vi n), some (vi i), none] [] (shX nm no) (RX nm no) (cpI I 111 (I 110) i) Q := by
  intro m
  induction m with
  | zero => intro i hm; omega
  | succ m ih =>
    intro i hm h0 h1
    refine m_iload_n dX12_beside_44 rfl ?_
    refine m_sipush dX12_beside_45 rfl (by decide) ?_
    refine m_icmp_ge (tgt := 69) dX12_beside_48 (by decide) (fun c48 => ?_) (fun c48 => ?_)
    · have ei : i = 144 := by omega
      subst ei
      exact hk _
    · refine m_aload_n dX12_beside_51 rfl ?_
      refine m_gr (z := 16) dX12_beside_52 fl_X12_45 oX_100 rfl rfl rX_100_16 ?_
      refine m_iload_n dX12_beside_55 rfl ?_
      refine m_aload_n dX12_beside_56 rfl ?_
      refine m_gr (z := 15) dX12_beside_57 fl_X12_42 oX_100 rfl rfl rX_100_15 ?_
      refine m_iload_n dX12_beside_60 rfl ?_
      refine m_iald dX12_beside_61 sX_110 (by omega) (by omega) ?_
      rw [cpI_o (show (110 : Nat) ≠ 111 by decide)]
      refine m_iast dX12_beside_62 sX_111 (by omega) (by omega) ?_
      refine m_iinc dX12_beside_63 rfl (by decide) rfl rfl (by omega) ?_
      refine m_goto (tgt := 44) dX12_beside_66 (by decide) ?_
      rw [cpI_up h0]
      exact ih (i + 1) (by omega) (by omega) (by omega)
theorem y_bes_back {v n x3 : Int} {Q : QT} (h : Q (some (vi x3)) (shX nm no) (RX nm no) (cpI I 110 (I 111) 144)) : ∀ (m : Nat) (i : Int), (144 - i).toNat < m → 0 ≤ i → i ≤ 144 → T g d mX12_beside 0 0 121 [some (vr 100), some (vi v), some (vi n), some (vi x3), some (vi i)] [] (shX nm no) (RX nm no) (cpI I 110 (I 111) i) Q := by
  intro m
  induction m with
  | zero => intro i hm; omega
  | succ m ih =>
    intro i hm h0 h1
    refine m_iload dX12_beside_121 rfl ?_
    refine m_sipush dX12_beside_123 rfl (by decide) ?_
    refine m_icmp_ge (tgt := 149) dX12_beside_126 (by decide) (fun c126 => ?_) (fun c126 => ?_)
    · have ei : i = 144 := by omega
      subst ei
      refine m_iload_n dX12_beside_149 rfl ?_
      refine m_iret dX12_beside_150 rfl ?_
      exact h
    · refine m_aload_n dX12_beside_129 rfl ?_
      refine m_gr (z := 15) dX12_beside_130 fl_X12_42 oX_100 rfl rfl rX_100_15 ?_
      refine m_iload dX12_beside_133 rfl ?_
      refine m_aload_n dX12_beside_135 rfl ?_
      refine m_gr (z := 16) dX12_beside_136 fl_X12_45 oX_100 rfl rfl rX_100_16 ?_
      refine m_iload dX12_beside_139 rfl ?_
      refine m_iald dX12_beside_141 sX_111 (by omega) (by omega) ?_
      rw [cpI_o (show (111 : Nat) ≠ 110 by decide)]
      refine m_iast dX12_beside_142 sX_110 (by omega) (by omega) ?_
      refine m_iinc dX12_beside_143 rfl (by decide) rfl rfl (by omega) ?_
      refine m_goto (tgt := 121) dX12_beside_146 (by decide) ?_
      rw [cpI_up h0]
      exact ih (i + 1) (by omega) (by omega) (by omega)
theorem y_bes_loop {v n t lw : Int} {D : MV} {Q : QT} (hd : 7 ≤ d) (hS : SttI I nm no) (hlw : lw = I 100 12) (ht : 0 ≤ t ∧ t + n ≤ 9000) (hm : DmI D nm (I 21 9) (I 24) (I 25) t) (hD : StD I nm D) (h0 : I 100 0 = t) (hn : 0 ≤ n ∧ n ≤ 300) (hk : ∀ (L : II) (l3 : Int), FrG I L → StD L nm (minN I nm no lw t D n.toNat) → T g d mX12_beside 0 0 107 [some (vr 100), some (vi v), some (vi n), some (vi l3), none] [] (shX nm no) (RX nm no) L Q) :
    ∀ (k i : Nat) (L : II), n.toNat - i < k → i ≤ n.toNat → FrG I L → StD L nm (minN I nm no lw t D i) → DmI (minN I nm no lw t D i) nm (I 21 9) (I 24) (I 25) (t + i) → T g d mX12_beside 0 0 86 [some (vr 100), some (vi v), some (vi n), some (vi i), none] [] (shX nm no) (RX nm no) L Q := by
  have h3 := hS.2.1.2.1.1
  intro k
  induction k with
  | zero => intro i L hk; omega
  | succ k ih =>
    intro i L hk2 hi hF hSL hDL
    have eL3 : L 100 3 = I 21 9 := by rw [hF 100 (by decide) (by decide)]; exact h3
    have hL0 : L 100 0 = t := by rw [hF 100 (by decide) (by decide)]; exact h0
    refine m_iload_n dX12_beside_86 rfl ?_
    refine m_iload_n dX12_beside_87 rfl ?_
    refine m_icmp_ge (tgt := 107) dX12_beside_88 (by decide) (fun c88 => ?_) (fun c88 => ?_)
    · have ei : i = n.toNat := by omega
      subst ei
      exact hk L _ hF hSL
    · refine m_aload_n dX12_beside_91 rfl ?_
      refine m_aload_n dX12_beside_92 rfl ?_
      refine m_gi (z := 0) dX12_beside_93 fl_X12_144 oX_100 rfl rfl ?_
      rw [hL0]
      refine m_iload_n dX12_beside_96 rfl ?_
      refine m_iadd dX12_beside_97 (by omega) ?_
      refine m_VV [_] dX12_beside_98 lk_X12_209 rfl oX_100 rfl (Nat.le_of_ble_eq_true rfl) (by omega) (y_goMinute (by omega) (MdI_fr hF (mdI_of hS hlw (by omega))) (by rw [eL3]; exact hDL) hSL) ?_
      intro I98 q98
      obtain ⟨w1, w2, w3⟩ := q98
      rw [eL3] at w2 w3
      refine m_iinc dX12_beside_101 rfl (by decide) rfl rfl (by omega) ?_
      refine m_goto (tgt := 86) dX12_beside_104 (by decide) ?_
      refine ih (i + 1) _ (by omega) (by omega) (FrG_tr hF w1) w2 ?_
      rw [show t + ((i + 1 : Nat) : Int) = t + i + 1 by omega]
      exact w3
theorem py_beside {v n : Int} {D : MV} (hd : 7 ≤ d) (hS : SttI I nm no) (hlw : I 100 12 = -9) (ht : 0 ≤ I 100 0 ∧ I 100 0 ≤ 9000) (hm : DmI D nm (I 21 9) (I 24) (I 25) (I 100 0)) (hD : StD I nm D) : SI g d mX12_beside [vr 100, vi v, vi n] (shX nm no) (RX nm no) I (fun r L => r = aBes v n (I 21 9) (I 100 0) (cntD (minN I nm no (lwF v) (I 100 0) D n.toNat) 2 nm) ∧ (∀ x, x ≠ 110 → x ≠ 111 → x ≠ 112 → L x = I x) ∧ StD L nm D) := by
  have h3 := hS.2.1.2.1.1
  have hW := hS.1.1.1
  have h24 := hS.1.2.2.2.2.2
  intro Q h
  refine C_of rfl (Nat.le_of_ble_eq_true rfl) rfl ?_
  refine m_iload_n dX12_beside_0 rfl ?_
  refine m_iconst dX12_beside_1 (by decide) ?_
  refine m_icmp_eq (tgt := 16) dX12_beside_2 (by decide) (fun c2 => ?_) (fun c2 => ?_)
  · refine m_iload_n dX12_beside_16 rfl ?_
    refine m_iconst dX12_beside_17 (by decide) ?_
    refine m_sipush dX12_beside_18 rfl (by decide) ?_
    refine m_Si [_, _, _] dX12_beside_21 lk_X12_123 rfl rfl (Nat.le_of_ble_eq_true rfl) (by omega) y_in ?_
    refine m_if_eq (tgt := 39) dX12_beside_24 (by decide) (fun c24 => ?_) (fun c24 => ?_)
    · have z24 := bI_eq0 c24
      refine m_bipush dX12_beside_39 rfl (by decide) ?_
      refine m_iret dX12_beside_41 rfl ?_
      exact h _ _ ⟨by unfold aBes; rw [if_pos (by omega), if_neg (by omega)], fun _ _ _ _ => rfl, hD⟩
    · have z24 := bI_ne0 c24
      refine m_aload_n dX12_beside_27 rfl ?_
      refine m_gi (z := 0) dX12_beside_28 fl_X12_144 oX_100 rfl rfl ?_
      refine m_iload_n dX12_beside_31 rfl ?_
      refine m_iadd dX12_beside_32 (by omega) ?_
      refine m_sipush dX12_beside_33 rfl (by decide) ?_
      refine m_icmp_le (tgt := 42) dX12_beside_36 (by decide) (fun c36 => ?_) (fun c36 => ?_)
      · refine m_iconst dX12_beside_42 (by decide) ?_
        refine m_istore_n dX12_beside_43 (by decide) rfl rfl ?_
        have z := y_bes_copy (g := g) (d := d) (nm := nm) (no := no) (I := I) (v := v) (n := n) (Q := Q) (fun l3 => ?_) _ 0 (Nat.lt_succ_self _) (by omega) (by omega)
        · rw [cpI_0] at z
          exact z
        refine m_aload_n dX12_beside_69 rfl ?_
        refine m_iload_n dX12_beside_70 rfl ?_
        refine m_iconst dX12_beside_71 (by decide) ?_
        refine m_ticmp_ne (tgt := 80) (M := 81) dX12_beside_72 (by decide) (fun c72 hM72 => by
            refine m_iload_n dX12_beside_80 rfl ?_
            exact hM72
          ) (fun c72 hM72 => by
            refine m_bipush dX12_beside_75 rfl (by decide) ?_
            refine m_goto (tgt := 81) dX12_beside_77 (by decide) ?_
            exact hM72
          ) ?_
        refine m_top (lwF v) (by unfold lwF; (repeat' split) <;> first | rfl | omega) ?_
        refine m_pi (z := 12) dX12_beside_81 fl_X12_35 oX_100 rfl rfl rfl ?_
        refine m_iconst dX12_beside_84 (by decide) ?_
        refine m_istore_n dX12_beside_85 (by decide) rfl rfl ?_
        have hT : FrT I (upI (cpI I 111 (I 110) 144) 100 12 (lwF v)) nm := ⟨fun x hx => by rw [upI_o (by omega), cpI_o (by omega)], fun m hm j hj => by rw [upI_o (by omega), cpI_o (by omega)], by rw [upI_j (by decide), upI_j (by decide), upI_j (by decide), upI_j (by decide), upI_j (by decide), upI_j (by decide), cpI_o (by decide)]; exact ⟨rfl, rfl, rfl, rfl, rfl, rfl⟩⟩
        have hS2 := sttI_frT hT hS
        have e0 : upI (cpI I 111 (I 110) 144) 100 12 (lwF v) 100 0 = I 100 0 := by rw [upI_j (by decide), cpI_o (by decide)]
        have hD2 : StD (upI (cpI I 111 (I 110) 144) 100 12 (lwF v)) nm D := fun j hj => by rw [stM_fr (show upI (cpI I 111 (I 110) 144) 100 12 (lwF v) 110 = I 110 by rw [upI_o (by decide), cpI_o (by decide)])]; exact hD j hj
        have hm2 : DmI D nm (upI (cpI I 111 (I 110) 144) 100 12 (lwF v) 21 9) (upI (cpI I 111 (I 110) 144) 100 12 (lwF v) 24) (upI (cpI I 111 (I 110) 144) 100 12 (lwF v) 25) (I 100 0) := hm
        have eN : minN (upI (cpI I 111 (I 110) 144) 100 12 (lwF v)) nm no (lwF v) (I 100 0) D n.toNat = minN I nm no (lwF v) (I 100 0) D n.toNat := minN_gen (fun x a b c => by rw [upI_o (by omega), cpI_o (by omega)]) (fun x a => by rw [upI_o (by omega), cpI_o (by omega)]) (fun m j hj => by rw [upI_o (by omega), cpI_o (by omega)]) _
        refine y_bes_loop (lw := lwF v) (t := I 100 0) hd hS2 upI_s.symm ⟨ht.1, by omega⟩ hm2 hD2 e0 ⟨by omega, by omega⟩ (fun L l3 hF hSL => ?_) _ 0 _ (Nat.lt_succ_self _) (by omega) FrG_rf hD2 (by rw [show I 100 0 + ((0 : Nat) : Int) = I 100 0 from Int.add_zero _]; exact hm2)
        have e13 : L 100 13 = nm := by rw [hF 100 (by decide) (by decide), upI_j (by decide), cpI_o (by decide)]; exact hS.2.2.2.1
        refine m_aload_n dX12_beside_107 rfl ?_
        refine m_Vi [] dX12_beside_108 lk_X12_220 rfl oX_100 rfl (Nat.le_of_ble_eq_true rfl) (by omega) (y_given e13 h24) ?_
        refine m_istore_n dX12_beside_111 (by decide) rfl rfl ?_
        refine m_aload_n dX12_beside_112 rfl ?_
        refine m_bipush dX12_beside_113 rfl (by decide) ?_
        refine m_pi (z := 12) dX12_beside_115 fl_X12_35 oX_100 rfl rfl rfl ?_
        refine m_iconst dX12_beside_118 (by decide) ?_
        refine m_istore dX12_beside_119 (by decide) rfl rfl ?_
        have z := y_bes_back (g := g) (d := d) (nm := nm) (no := no) (I := upI L 100 12 (-9)) (v := v) (n := n) (x3 := cntD (stM L) 2 nm) (Q := Q) (h _ _ ⟨?_, fun x a b c => ?_, fun j hj => ?_⟩) _ 0 (Nat.lt_succ_self _) (by omega) (by omega)
        · rw [cpI_0] at z
          exact z
        · unfold aBes
          rw [if_pos (by omega), if_pos (by omega), ← eN]
          exact cntD_congr nm (fun m hm => by rw [hSL m hm])
        · rw [cpI_o a]
          by_cases e : x = 100
          · subst e
            funext j
            by_cases ej : j = 12
            · subst ej; rw [upI_s]; exact hlw.symm
            · rw [upI_j ej, hF 100 (by decide) (by decide), upI_j ej, cpI_o (by decide)]
          · rw [upI_o e, hF x a c, upI_o e, cpI_o b]
        · rw [← hD j hj]
          have e1 : ∀ i : Int, 0 ≤ i → i < 144 → cpI (upI L 100 12 (-9)) 110 (upI L 100 12 (-9) 111) 144 110 i = I 110 i := fun i i0 i1 => by
            rw [cpI_in i0 i1, upI_o (by decide), hF 111 (by decide) (by decide), upI_o (by decide), cpI_in i0 i1]
          unfold stM
          rw [e1 (6 * j) (by omega) (by omega), e1 (6 * j + 1) (by omega) (by omega), e1 (6 * j + 2) (by omega) (by omega), e1 (6 * j + 3) (by omega) (by omega), e1 (6 * j + 4) (by omega) (by omega), e1 (6 * j + 5) (by omega) (by omega)]
      · refine m_bipush dX12_beside_39 rfl (by decide) ?_
        refine m_iret dX12_beside_41 rfl ?_
        exact h _ _ ⟨by unfold aBes; rw [if_pos (by omega), if_neg (by omega)], fun _ _ _ _ => rfl, hD⟩
  · refine m_aload_n dX12_beside_5 rfl ?_
    refine m_iload_n dX12_beside_6 rfl ?_
    refine m_Vi [_] dX12_beside_7 lk_X12_141 rfl oX_100 rfl (Nat.le_of_ble_eq_true rfl) (by omega) (y_isWire (by omega) ⟨by omega, by omega⟩) ?_
    refine m_if_ne (tgt := 16) dX12_beside_10 (by decide) (fun c10 => ?_) (fun c10 => ?_)
    · have z10 := bI_ne0 c10
      refine m_iload_n dX12_beside_16 rfl ?_
      refine m_iconst dX12_beside_17 (by decide) ?_
      refine m_sipush dX12_beside_18 rfl (by decide) ?_
      refine m_Si [_, _, _] dX12_beside_21 lk_X12_123 rfl rfl (Nat.le_of_ble_eq_true rfl) (by omega) y_in ?_
      refine m_if_eq (tgt := 39) dX12_beside_24 (by decide) (fun c24 => ?_) (fun c24 => ?_)
      · have z24 := bI_eq0 c24
        refine m_bipush dX12_beside_39 rfl (by decide) ?_
        refine m_iret dX12_beside_41 rfl ?_
        exact h _ _ ⟨by unfold aBes; rw [if_pos (by omega), if_neg (by omega)], fun _ _ _ _ => rfl, hD⟩
      · have z24 := bI_ne0 c24
        refine m_aload_n dX12_beside_27 rfl ?_
        refine m_gi (z := 0) dX12_beside_28 fl_X12_144 oX_100 rfl rfl ?_
        refine m_iload_n dX12_beside_31 rfl ?_
        refine m_iadd dX12_beside_32 (by omega) ?_
        refine m_sipush dX12_beside_33 rfl (by decide) ?_
        refine m_icmp_le (tgt := 42) dX12_beside_36 (by decide) (fun c36 => ?_) (fun c36 => ?_)
        · refine m_iconst dX12_beside_42 (by decide) ?_
          refine m_istore_n dX12_beside_43 (by decide) rfl rfl ?_
          have z := y_bes_copy (g := g) (d := d) (nm := nm) (no := no) (I := I) (v := v) (n := n) (Q := Q) (fun l3 => ?_) _ 0 (Nat.lt_succ_self _) (by omega) (by omega)
          · rw [cpI_0] at z
            exact z
          refine m_aload_n dX12_beside_69 rfl ?_
          refine m_iload_n dX12_beside_70 rfl ?_
          refine m_iconst dX12_beside_71 (by decide) ?_
          refine m_ticmp_ne (tgt := 80) (M := 81) dX12_beside_72 (by decide) (fun c72 hM72 => by
              refine m_iload_n dX12_beside_80 rfl ?_
              exact hM72
            ) (fun c72 hM72 => by
              refine m_bipush dX12_beside_75 rfl (by decide) ?_
              refine m_goto (tgt := 81) dX12_beside_77 (by decide) ?_
              exact hM72
            ) ?_
          refine m_top (lwF v) (by unfold lwF; (repeat' split) <;> first | rfl | omega) ?_
          refine m_pi (z := 12) dX12_beside_81 fl_X12_35 oX_100 rfl rfl rfl ?_
          refine m_iconst dX12_beside_84 (by decide) ?_
          refine m_istore_n dX12_beside_85 (by decide) rfl rfl ?_
          have hT : FrT I (upI (cpI I 111 (I 110) 144) 100 12 (lwF v)) nm := ⟨fun x hx => by rw [upI_o (by omega), cpI_o (by omega)], fun m hm j hj => by rw [upI_o (by omega), cpI_o (by omega)], by rw [upI_j (by decide), upI_j (by decide), upI_j (by decide), upI_j (by decide), upI_j (by decide), upI_j (by decide), cpI_o (by decide)]; exact ⟨rfl, rfl, rfl, rfl, rfl, rfl⟩⟩
          have hS2 := sttI_frT hT hS
          have e0 : upI (cpI I 111 (I 110) 144) 100 12 (lwF v) 100 0 = I 100 0 := by rw [upI_j (by decide), cpI_o (by decide)]
          have hD2 : StD (upI (cpI I 111 (I 110) 144) 100 12 (lwF v)) nm D := fun j hj => by rw [stM_fr (show upI (cpI I 111 (I 110) 144) 100 12 (lwF v) 110 = I 110 by rw [upI_o (by decide), cpI_o (by decide)])]; exact hD j hj
          have hm2 : DmI D nm (upI (cpI I 111 (I 110) 144) 100 12 (lwF v) 21 9) (upI (cpI I 111 (I 110) 144) 100 12 (lwF v) 24) (upI (cpI I 111 (I 110) 144) 100 12 (lwF v) 25) (I 100 0) := hm
          have eN : minN (upI (cpI I 111 (I 110) 144) 100 12 (lwF v)) nm no (lwF v) (I 100 0) D n.toNat = minN I nm no (lwF v) (I 100 0) D n.toNat := minN_gen (fun x a b c => by rw [upI_o (by omega), cpI_o (by omega)]) (fun x a => by rw [upI_o (by omega), cpI_o (by omega)]) (fun m j hj => by rw [upI_o (by omega), cpI_o (by omega)]) _
          refine y_bes_loop (lw := lwF v) (t := I 100 0) hd hS2 upI_s.symm ⟨ht.1, by omega⟩ hm2 hD2 e0 ⟨by omega, by omega⟩ (fun L l3 hF hSL => ?_) _ 0 _ (Nat.lt_succ_self _) (by omega) FrG_rf hD2 (by rw [show I 100 0 + ((0 : Nat) : Int) = I 100 0 from Int.add_zero _]; exact hm2)
          have e13 : L 100 13 = nm := by rw [hF 100 (by decide) (by decide), upI_j (by decide), cpI_o (by decide)]; exact hS.2.2.2.1
          refine m_aload_n dX12_beside_107 rfl ?_
          refine m_Vi [] dX12_beside_108 lk_X12_220 rfl oX_100 rfl (Nat.le_of_ble_eq_true rfl) (by omega) (y_given e13 h24) ?_
          refine m_istore_n dX12_beside_111 (by decide) rfl rfl ?_
          refine m_aload_n dX12_beside_112 rfl ?_
          refine m_bipush dX12_beside_113 rfl (by decide) ?_
          refine m_pi (z := 12) dX12_beside_115 fl_X12_35 oX_100 rfl rfl rfl ?_
          refine m_iconst dX12_beside_118 (by decide) ?_
          refine m_istore dX12_beside_119 (by decide) rfl rfl ?_
          have z := y_bes_back (g := g) (d := d) (nm := nm) (no := no) (I := upI L 100 12 (-9)) (v := v) (n := n) (x3 := cntD (stM L) 2 nm) (Q := Q) (h _ _ ⟨?_, fun x a b c => ?_, fun j hj => ?_⟩) _ 0 (Nat.lt_succ_self _) (by omega) (by omega)
          · rw [cpI_0] at z
            exact z
          · unfold aBes
            rw [if_pos (by omega), if_pos (by omega), ← eN]
            exact cntD_congr nm (fun m hm => by rw [hSL m hm])
          · rw [cpI_o a]
            by_cases e : x = 100
            · subst e
              funext j
              by_cases ej : j = 12
              · subst ej; rw [upI_s]; exact hlw.symm
              · rw [upI_j ej, hF 100 (by decide) (by decide), upI_j ej, cpI_o (by decide)]
            · rw [upI_o e, hF x a c, upI_o e, cpI_o b]
          · rw [← hD j hj]
            have e1 : ∀ i : Int, 0 ≤ i → i < 144 → cpI (upI L 100 12 (-9)) 110 (upI L 100 12 (-9) 111) 144 110 i = I 110 i := fun i i0 i1 => by
              rw [cpI_in i0 i1, upI_o (by decide), hF 111 (by decide) (by decide), upI_o (by decide), cpI_in i0 i1]
            unfold stM
            rw [e1 (6 * j) (by omega) (by omega), e1 (6 * j + 1) (by omega) (by omega), e1 (6 * j + 2) (by omega) (by omega), e1 (6 * j + 3) (by omega) (by omega), e1 (6 * j + 4) (by omega) (by omega), e1 (6 * j + 5) (by omega) (by omega)]
        · refine m_bipush dX12_beside_39 rfl (by decide) ?_
          refine m_iret dX12_beside_41 rfl ?_
          exact h _ _ ⟨by unfold aBes; rw [if_pos (by omega), if_neg (by omega)], fun _ _ _ _ => rfl, hD⟩
    · have z10 := bI_eq0 (show _ = (0 : Int) by omega)
      refine m_bipush dX12_beside_13 rfl (by decide) ?_
      refine m_iret dX12_beside_15 rfl ?_
      exact h _ _ ⟨by unfold aBes; rw [if_neg (by omega)], fun _ _ _ _ => rfl, hD⟩
end
