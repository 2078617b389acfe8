/-! PUBLIC: soonest; the reference: setsOut, soonest -/
section
variable {g : GH} {d nm no : Nat} {I : II}
def aSoo (fr to wd kd t now f : Int) : Int := if (0 ≤ fr ∧ fr ≤ 7) ∧ (0 ≤ to ∧ to ≤ 7) ∧ fr ≠ to then (if (1 ≤ wd ∧ wd ≤ 99) ∧ (0 ≤ kd ∧ kd ≤ 4) ∧ (now ≤ t ∧ t ≤ 9000) then f else -3) else -2
/-- the minute in which what is alone is there -/
noncomputable def sooF (I : II) (no : Nat) (fr to wd kd t : Int) : Int := anS ((djF (I 24) (I 25) (arF I (goX I no fr t) (kd = 2) (wsX I (goX I no fr t) wd kd) (t + 3000)) (fun x => if x = fr then t else 1000000) (I 21 9).toNat 8).1 to)
theorem goX_36 (I : II) (no : Nat) (o t : Int) : goX I no o t ≠ 36 := by
  rcases oid_ge no (gbF I o t no) with e | e
  · unfold goX; omega
  · unfold goX; omega
theorem px_soonest {fr to wd kd t : Int} (hd : 6 ≤ d) (hI : PoI I nm no) : SI g d mX11_soonest [vr 20, vi fr, vi to, vi wd, vi kd, vi t] (shX nm no) (RX nm no) I (fun r J => r = aSoo fr to wd kd t (I 43 5) (sooF I no fr to wd kd t) ∧ ∀ x, x ≠ 36 → J x = I x) := by
  obtain ⟨a1, a2, a3, a4, a5, a6, a7, a8, a9, a10⟩ := id hI
  intro Q h
  refine C_of rfl (Nat.le_of_ble_eq_true rfl) rfl ?_
  refine m_iload_n dX11_soonest_0 rfl ?_
  refine m_Si [_] dX11_soonest_1 lk_X11_67 rfl rfl (Nat.le_of_ble_eq_true rfl) (by omega) (x_isOffice (by omega)) ?_
  refine m_if_eq (tgt := 19) dX11_soonest_4 (by decide) (fun c4 => ?_) (fun c4 => ?_)
  · have z4 := bI_eq0 c4
    refine m_bipush dX11_soonest_19 rfl (by decide) ?_
    refine m_iret dX11_soonest_21 rfl ?_
    exact h _ _ ⟨by unfold aSoo; rw [if_neg (by omega)], fun _ _ => rfl⟩
  · have z4 := bI_ne0 c4
    refine m_iload_n dX11_soonest_7 rfl ?_
    refine m_Si [_] dX11_soonest_8 lk_X11_67 rfl rfl (Nat.le_of_ble_eq_true rfl) (by omega) (x_isOffice (by omega)) ?_
    refine m_if_eq (tgt := 19) dX11_soonest_11 (by decide) (fun c11 => ?_) (fun c11 => ?_)
    · have z11 := bI_eq0 c11
      refine m_bipush dX11_soonest_19 rfl (by decide) ?_
      refine m_iret dX11_soonest_21 rfl ?_
      exact h _ _ ⟨by unfold aSoo; rw [if_neg (by omega)], fun _ _ => rfl⟩
    · have z11 := bI_ne0 c11
      refine m_iload_n dX11_soonest_14 rfl ?_
      refine m_iload_n dX11_soonest_15 rfl ?_
      refine m_icmp_ne (tgt := 22) dX11_soonest_16 (by decide) (fun c16 => ?_) (fun c16 => ?_)
      · refine m_iload_n dX11_soonest_22 rfl ?_
        refine m_iconst dX11_soonest_23 (by decide) ?_
        refine m_bipush dX11_soonest_24 rfl (by decide) ?_
        refine m_Si [_, _, _] dX11_soonest_26 lk_X11_71 rfl rfl (Nat.le_of_ble_eq_true rfl) (by omega) x_isWithin ?_
        refine m_if_eq (tgt := 60) dX11_soonest_29 (by decide) (fun c29 => ?_) (fun c29 => ?_)
        · have z29 := bI_eq0 c29
          refine m_bipush dX11_soonest_60 rfl (by decide) ?_
          refine m_iret dX11_soonest_62 rfl ?_
          exact h _ _ ⟨by unfold aSoo; rw [if_pos ⟨z4, z11, c16⟩, if_neg (by omega)], fun _ _ => rfl⟩
        · have z29 := bI_ne0 c29
          refine m_iload dX11_soonest_32 rfl ?_
          refine m_iconst dX11_soonest_34 (by decide) ?_
          refine m_iconst dX11_soonest_35 (by decide) ?_
          refine m_Si [_, _, _] dX11_soonest_36 lk_X11_71 rfl rfl (Nat.le_of_ble_eq_true rfl) (by omega) x_isWithin ?_
          refine m_if_eq (tgt := 60) dX11_soonest_39 (by decide) (fun c39 => ?_) (fun c39 => ?_)
          · have z39 := bI_eq0 c39
            refine m_bipush dX11_soonest_60 rfl (by decide) ?_
            refine m_iret dX11_soonest_62 rfl ?_
            exact h _ _ ⟨by unfold aSoo; rw [if_pos ⟨z4, z11, c16⟩, if_neg (by omega)], fun _ _ => rfl⟩
          · have z39 := bI_ne0 c39
            refine m_iload dX11_soonest_42 rfl ?_
            refine m_aload_n dX11_soonest_44 rfl ?_
            refine m_gr (z := 2) dX11_soonest_45 fl_X11_28 oX_20 rfl rfl rX_20_2 ?_
            refine m_gi (z := 5) dX11_soonest_48 fl_X11_105 oX_43 rfl rfl ?_
            refine m_sipush dX11_soonest_51 rfl (by decide) ?_
            refine m_Si [_, _, _] dX11_soonest_54 lk_X11_71 rfl rfl (Nat.le_of_ble_eq_true rfl) (by omega) x_isWithin ?_
            refine m_if_ne (tgt := 63) dX11_soonest_57 (by decide) (fun c57 => ?_) (fun c57 => ?_)
            · have z57 := bI_ne0 c57
              have hO := ord_id (nm := nm) a2 a6.2.1 (gbF I fr t no)
              have hoi := a6.2.2 (gbF I fr t no)
              refine m_aload_n dX11_soonest_63 rfl ?_
              refine m_gr (z := 1) dX11_soonest_64 fl_X11_19 oX_20 rfl rfl rX_20_1 ?_
              refine m_iload_n dX11_soonest_67 rfl ?_
              refine m_iload dX11_soonest_68 rfl ?_
              refine m_Vr [_, _] dX11_soonest_70 lk_X11_173 rfl oX_37 rfl (Nat.le_of_ble_eq_true rfl) (by omega) (x_goneBy (by omega) a2 a6.2.1 a6.1 (by omega) (by omega)) ?_
              refine m_astore dX11_soonest_73 (by decide) rfl rfl ?_
              refine m_aload_n dX11_soonest_75 rfl ?_
              refine m_gr (z := 0) dX11_soonest_76 fl_X11_10 oX_20 rfl rfl rX_20_0 ?_
              refine m_iload_n dX11_soonest_79 rfl ?_
              refine m_iload_n dX11_soonest_80 rfl ?_
              refine m_aload dX11_soonest_81 rfl ?_
              refine m_iload_n dX11_soonest_83 rfl ?_
              refine m_iload dX11_soonest_84 rfl ?_
              refine m_Vi [_, _] dX11_soonest_86 lk_X11_177 rfl hO.1 rfl (Nat.le_of_ble_eq_true rfl) (by omega) (x_wordsSent (by omega) hO hoi.1.1 (by omega) (by omega) ⟨by omega, by omega⟩) ?_
              refine m_iload dX11_soonest_89 rfl ?_
              refine m_iload dX11_soonest_91 rfl ?_
              refine m_iconst dX11_soonest_93 (by decide) ?_
              refine m_icmp_ne (tgt := 102) dX11_soonest_94 (by decide) (fun c94 => ?_) (fun c94 => ?_)
              · have e94 : (kd = 2) = False := eq_false c94
                refine m_null dX11_soonest_102 ?_
                refine m_VI [_, _, _, _, _] dX11_soonest_103 lk_X11_182 rfl oX_21 rfl (Nat.le_of_ble_eq_true rfl) (by omega) (x_aloneThereN (q := goX I no fr t) (goX_36 I no fr t) (by omega) a3 a4 a5 (wsX_bd (by omega)) (by omega) (by omega) (by omega) c16) ?_
                intro r103 I103 q103
                refine m_iret dX11_soonest_106 rfl ?_
                exact h _ _ ⟨by unfold aSoo sooF; rw [if_pos ⟨z4, z11, c16⟩, if_pos ⟨z29, z39, z57⟩, e94]; exact q103.1, q103.2⟩
              · have e94 : (kd = 2) = True := eq_true (by omega)
                refine m_aload dX11_soonest_97 rfl ?_
                refine m_goto (tgt := 103) dX11_soonest_99 (by decide) ?_
                refine m_VI [_, _, _, _, _] dX11_soonest_103 lk_X11_182 rfl oX_21 rfl (Nat.le_of_ble_eq_true rfl) (by omega) (x_aloneThereO hO (goX_36 I no fr t) (by omega) a3 a4 a5 (wsX_bd (by omega)) (by omega) (by omega) (by omega) c16) ?_
                intro r103 I103 q103
                refine m_iret dX11_soonest_106 rfl ?_
                exact h _ _ ⟨by unfold aSoo sooF; rw [if_pos ⟨z4, z11, c16⟩, if_pos ⟨z29, z39, z57⟩, e94]; exact q103.1, q103.2⟩
            · have z57 := bI_eq0 (show _ = (0 : Int) by omega)
              refine m_bipush dX11_soonest_60 rfl (by decide) ?_
              refine m_iret dX11_soonest_62 rfl ?_
              exact h _ _ ⟨by unfold aSoo; rw [if_pos ⟨z4, z11, c16⟩, if_neg (by omega)], fun _ _ => rfl⟩
      · refine m_bipush dX11_soonest_19 rfl (by decide) ?_
        refine m_iret dX11_soonest_21 rfl ?_
        exact h _ _ ⟨by unfold aSoo; rw [if_neg (by omega)], fun _ _ => rfl⟩
noncomputable def soF (I : II) (q : Nat) (pr : Prop) (n last v m : Int) : Int := if fsF I q pr v (Kt I n v) m (last - Kt I n v) = -1 then 1000000 else fsF I q pr v (Kt I n v) m (last - Kt I n v)
theorem tri {kd : Int} {a b c : Prop} [Decidable a] [Decidable b] : (if bI a = 0 then (0 : Int) else if bI b = 0 then 0 else if kd ≠ 2 then 1 else if bP c = 0 then 0 else 1) = bP (a ∧ b ∧ (kd = 2 → c)) := by
  by_cases ha : a
  · rw [bI_t ha, if_neg (by decide)]
    by_cases hb : b
    · rw [bI_t hb, if_neg (by decide)]
      by_cases hk : kd ≠ 2
      · rw [if_pos hk, bP_t ⟨ha, hb, fun z => absurd z hk⟩]
      · rw [if_neg hk]
        by_cases hc : c
        · rw [bP_t hc, if_neg (by decide), bP_t ⟨ha, hb, fun _ => hc⟩]
        · rw [bP_f hc, if_pos rfl, bP_f (fun z => hc (z.2.2 (by omega)))]
    · rw [bI_f hb, if_pos rfl, bP_f (fun z => hb z.2.1)]
  · rw [bI_f ha, if_pos rfl, bP_f (fun z => ha z.1)]
theorem isB_bP {P : Prop} : isB (bP P) P := ⟨bP_01, ⟨fun z => bP_ne0 (by rw [z]; decide), fun z => bP_t z⟩⟩
theorem upM_upX {I : II} {t v : Int} (hr : rNet I) (hlw : I 100 12 = -9) (h0 : 0 ≤ v) (h1 : v < I 21 9) : upM I t v ↔ upX I t v := by
  rw [upM_of hr h0 h1, hlw]
  exact ⟨fun z => z.2.1, fun z => ⟨h0, z, by omega⟩⟩
theorem y_so_up {v kd by_ n m last t : Int} {P0 : Prop} {Q : QT} (hd : 2 ≤ d) (hS : SttI I nm no) (hlw : I 100 12 = -9) (hb : -1 ≤ by_ ∧ by_ < no) (hv : 0 ≤ v ∧ v < I 21 9) (hn : 1 ≤ n ∧ n ≤ 198) (ht : 0 ≤ t ∧ t ≤ 20000)
    (hk : ∀ f u, isB f (P0 ∧ ∀ x, t ≤ x → x ≤ t + Kt I n v → upX I x v) → T g d mX12_setsOut 0 0 109 [some (vr 100), some (vi v), some (vi kd), some (vi by_), some (vi n), some (vi m), some (vi last), some (vi (Kt I n v)), some (vi t), some (vi f), some (vi u)] [] (shX nm no) (RX nm no) I Q) :
    ∀ (k : Nat) (u f : Int), (t + Kt I n v + 1 - u).toNat < k → t ≤ u → u ≤ t + Kt I n v + 1 → isB f (P0 ∧ ∀ x, t ≤ x → x < u → upX I x v) → T g d mX12_setsOut 0 0 79 [some (vr 100), some (vi v), some (vi kd), some (vi by_), some (vi n), some (vi m), some (vi last), some (vi (Kt I n v)), some (vi t), some (vi f), some (vi u)] [] (shX nm no) (RX nm no) I Q := by
  have hNM := netM_of hS.1.1 hS.1.2.1 hS.1.2.2.1 hS.2.1
  have hKt : 1 ≤ Kt I n v ∧ Kt I n v ≤ n := tk_bd hn.1 (hS.1.1.2.1 v hv.1 hv.2).2.2.2.1.1
  intro k
  induction k with
  | zero => intro u f hk2; omega
  | succ k ih =>
    intro u f hk2 h0 h1 hf
    have hf1 := hf.1
    refine m_iload dX12_setsOut_79 rfl ?_
    refine m_iload dX12_setsOut_81 rfl ?_
    refine m_iload dX12_setsOut_83 rfl ?_
    refine m_iadd dX12_setsOut_85 (by omega) ?_
    refine m_icmp_gt (tgt := 109) dX12_setsOut_86 (by decide) (fun c86 => ?_) (fun c86 => ?_)
    · have eu : u = t + Kt I n v + 1 := by omega
      have hf2 := hf.cg (P' := P0 ∧ ∀ x, t ≤ x → x ≤ t + Kt I n v → upX I x v) ⟨fun z => ⟨z.1, fun x x0 x1 => z.2 x x0 (by omega)⟩, fun z => ⟨z.1, fun x x0 x1 => z.2 x x0 (by omega)⟩⟩
      exact hk _ _ hf2
    · refine m_iload dX12_setsOut_89 rfl ?_
      refine m_if_eq (tgt := 109) dX12_setsOut_91 (by decide) (fun c91 => ?_) (fun c91 => ?_)
      · have hf2 : isB f (P0 ∧ ∀ x, t ≤ x → x ≤ t + Kt I n v → upX I x v) := by
          rw [c91]
          exact isB_0 (fun z => by have := hf.2.mpr ⟨z.1, fun x x0 x1 => z.2 x x0 (by omega)⟩; omega)
        exact hk _ _ hf2
      · have hf3 := hf.2.mp (by omega)
        refine m_aload_n dX12_setsOut_94 rfl ?_
        refine m_iload_n dX12_setsOut_95 rfl ?_
        refine m_iload dX12_setsOut_96 rfl ?_
        refine m_Vi [_, _] dX12_setsOut_98 lk_X12_174 rfl oX_100 rfl (Nat.le_of_ble_eq_true rfl) (by omega) (y_isUp (by omega) hNM) ?_
        refine m_istore dX12_setsOut_101 (by decide) rfl rfl ?_
        refine m_iinc dX12_setsOut_103 rfl (by decide) rfl rfl (by omega) ?_
        refine m_goto (tgt := 79) dX12_setsOut_106 (by decide) ?_
        refine ih (u + 1) _ (by omega) (by omega) (by omega) (isB_bP.cg ?_)
        rw [upM_upX hS.2.1 hlw hv.1 hv.2]
        constructor
        · intro z
          refine ⟨hf3.1, fun x x0 x1 => ?_⟩
          rcases (show x < u ∨ x = u by omega) with y | y
          · exact hf3.2 x x0 y
          · rw [y]; exact z
        · intro z; exact z.2 u h0 (by omega)
theorem sok_of {I : II} {nm no : Nat} {v kd by_ n t : Int} (hS : SttI I nm no) (hb : -1 ≤ by_ ∧ by_ < no) : (((I 101 (I 103 v) ≤ t % 1440 ∧ t % 1440 ≤ I 102 (I 103 v)) ∧ (I 101 (I 104 v) ≤ t % 1440 ∧ t % 1440 ≤ I 102 (I 104 v)) ∧ (kd = 2 → ngO I by_ (t % 1440 / 60))) ∧ ∀ x, t ≤ x → x ≤ t + Kt I n v → upX I x v) ↔ sokT I (oid no by_) (kd = 2) v (Kt I n v) t := by
  unfold sokT opX
  have hr := hS.2.1.1
  rw [hr.1, hr.2.1, hr.2.2.1, hr.2.2.2.1]
  have z := (hS.2.2.1.2.2.2 by_ hb.1 hb.2).2.2.2.2.1 (t % 1440 / 60) (by omega) (by omega)
  constructor
  · rintro ⟨⟨a, b, c⟩, e⟩; exact ⟨a, b, fun k => z.mpr (c k), e⟩
  · rintro ⟨a, b, c, e⟩; exact ⟨⟨a, b, fun k => z.mp (c k)⟩, e⟩
theorem y_so_loop {v kd by_ n m last : Int} {Q : QT} (hd : 3 ≤ d) (hS : SttI I nm no) (hlw : I 100 12 = -9) (hb : -1 ≤ by_ ∧ by_ < no) (hv : 0 ≤ v ∧ v < I 21 9) (hn : 1 ≤ n ∧ n ≤ 198) (hm : 0 ≤ m ∧ m ≤ 13000) (hl : last ≤ 13000) (h : Q (some (vi (soF I (oid no by_) (kd = 2) n last v m))) (shX nm no) (RX nm no) I) :
    ∀ (k : Nat) (t : Int) (l9 l10 : Option AV), (last + 1 - t).toNat < k → m ≤ t → t ≤ 20000 → (∀ x, m ≤ x → x < t → ¬ sokT I (oid no by_) (kd = 2) v (Kt I n v) x) → T g d mX12_setsOut 0 0 13 [some (vr 100), some (vi v), some (vi kd), some (vi by_), some (vi n), some (vi m), some (vi last), some (vi (Kt I n v)), some (vi t), l9, l10] [] (shX nm no) (RX nm no) I Q := by
  have hNM := netM_of hS.1.1 hS.1.2.1 hS.1.2.2.1 hS.2.1
  have hvk := hNM.2.2.2 v hv.1 (by rw [hS.2.1.2.1.1]; exact hv.2)
  have hW := hS.1.1.1
  have hKt : 1 ≤ Kt I n v ∧ Kt I n v ≤ n := tk_bd hn.1 (hS.1.1.2.1 v hv.1 hv.2).2.2.2.1.1
  intro k
  induction k with
  | zero => intro t l9 l10 hk2 h0 h1 hno; omega
  | succ k ih =>
    intro t l9 l10 hk2 h0 h1 hno
    refine m_iload dX12_setsOut_13 rfl ?_
    refine m_iload dX12_setsOut_15 rfl ?_
    refine m_iadd dX12_setsOut_17 (by omega) ?_
    refine m_iload dX12_setsOut_18 rfl ?_
    refine m_icmp_gt (tgt := 123) dX12_setsOut_20 (by decide) (fun c20 => ?_) (fun c20 => ?_)
    · refine m_ldc (a := 1000000) dX12_setsOut_123 kc_X12_167 rfl ?_
      refine m_iret dX12_setsOut_125 rfl ?_
      have e : soF I (oid no by_) (kd = 2) n last v m = 1000000 := by
        unfold soF
        rw [fsF_eq hm.1 (Or.inl ⟨rfl, fun x x0 x1 => hno x x0 (by omega)⟩), if_pos rfl]
      rw [e] at h
      exact h
    · refine m_aload_n dX12_setsOut_23 rfl ?_
      refine m_aload_n dX12_setsOut_24 rfl ?_
      refine m_gr (z := 4) dX12_setsOut_25 fl_X12_16 oX_100 rfl rfl rX_100_4 ?_
      refine m_iload_n dX12_setsOut_28 rfl ?_
      refine m_iald dX12_setsOut_29 sX_103 (by omega) (by omega) ?_
      refine m_iload dX12_setsOut_30 rfl ?_
      refine m_Vi [_, _] dX12_setsOut_32 lk_X12_153 rfl oX_100 rfl (Nat.le_of_ble_eq_true rfl) (by omega) (y_isOpen (by omega) ⟨by omega, by omega⟩ (by omega)) ?_
      refine m_tif_eq (tgt := 72) (M := 73) dX12_setsOut_35 (by decide) (fun c35 hM35 => by
          refine m_iconst dX12_setsOut_72 (by decide) ?_
          exact hM35
        ) (fun c35 hM35 => by
          refine m_aload_n dX12_setsOut_38 rfl ?_
          refine m_aload_n dX12_setsOut_39 rfl ?_
          refine m_gr (z := 5) dX12_setsOut_40 fl_X12_19 oX_100 rfl rfl rX_100_5 ?_
          refine m_iload_n dX12_setsOut_43 rfl ?_
          refine m_iald dX12_setsOut_44 sX_104 (by omega) (by omega) ?_
          refine m_iload dX12_setsOut_45 rfl ?_
          refine m_Vi [_, _] dX12_setsOut_47 lk_X12_153 rfl oX_100 rfl (Nat.le_of_ble_eq_true rfl) (by omega) (y_isOpen (by omega) ⟨by omega, by omega⟩ (by omega)) ?_
          refine m_tif_eq (tgt := 72) (M := 73) dX12_setsOut_50 (by decide) (fun c50 hM50 => by
              refine m_iconst dX12_setsOut_72 (by decide) ?_
              exact hM50
            ) (fun c50 hM50 => by
              refine m_iload_n dX12_setsOut_53 rfl ?_
              refine m_iconst dX12_setsOut_54 (by decide) ?_
              refine m_ticmp_ne (tgt := 68) (M := 73) dX12_setsOut_55 (by decide) (fun c55 hM55 => by
                  refine m_iconst dX12_setsOut_68 (by decide) ?_
                  refine m_goto (tgt := 73) dX12_setsOut_69 (by decide) ?_
                  exact hM55
                ) (fun c55 hM55 => by
                  refine m_aload_n dX12_setsOut_58 rfl ?_
                  refine m_iload_n dX12_setsOut_59 rfl ?_
                  refine m_iload dX12_setsOut_60 rfl ?_
                  refine m_Vi [_, _] dX12_setsOut_62 lk_X12_193 rfl oX_100 rfl (Nat.le_of_ble_eq_true rfl) (by omega) (y_isNight (by omega) hS.2.2.1.1 hb (by omega)) ?_
                  refine m_tif_eq (tgt := 72) (M := 73) dX12_setsOut_65 (by decide) (fun c65 hM65 => by
                      refine m_iconst dX12_setsOut_72 (by decide) ?_
                      exact hM65
                    ) (fun c65 hM65 => by
                      refine m_iconst dX12_setsOut_68 (by decide) ?_
                      refine m_goto (tgt := 73) dX12_setsOut_69 (by decide) ?_
                      exact hM65
                    ) ?_
                  exact hM55
                ) ?_
              exact hM50
            ) ?_
          exact hM35
        ) ?_
      refine m_top (bP ((I 101 (I 103 v) ≤ t % 1440 ∧ t % 1440 ≤ I 102 (I 103 v)) ∧ (I 101 (I 104 v) ≤ t % 1440 ∧ t % 1440 ≤ I 102 (I 104 v)) ∧ (kd = 2 → ngO I by_ (t % 1440 / 60)))) tri ?_
      refine m_istore dX12_setsOut_73 (by decide) rfl rfl ?_
      refine m_iload dX12_setsOut_75 rfl ?_
      refine m_istore dX12_setsOut_77 (by decide) rfl rfl ?_
      refine y_so_up (P0 := ((I 101 (I 103 v) ≤ t % 1440 ∧ t % 1440 ≤ I 102 (I 103 v)) ∧ (I 101 (I 104 v) ≤ t % 1440 ∧ t % 1440 ≤ I 102 (I 104 v)) ∧ (kd = 2 → ngO I by_ (t % 1440 / 60)))) (by omega) hS hlw hb hv hn ⟨by omega, by omega⟩ (fun f u hf => ?_) _ t _ (Nat.lt_succ_self _) (by omega) (by omega) (isB_bP.cg ⟨fun z => ⟨z, fun x x0 x1 => by omega⟩, fun z => z.1⟩)
      have hf2 := hf.cg (sok_of hS hb)
      have hf1 := hf2.1
      refine m_iload dX12_setsOut_109 rfl ?_
      refine m_if_eq (tgt := 117) dX12_setsOut_111 (by decide) (fun c111 => ?_) (fun c111 => ?_)
      · refine m_iinc dX12_setsOut_117 rfl (by decide) rfl rfl (by omega) ?_
        refine m_goto (tgt := 13) dX12_setsOut_120 (by decide) ?_
        refine ih (t + 1) _ _ (by omega) (by omega) (by omega) (fun x x0 x1 => ?_)
        rcases (show x < t ∨ x = t by omega) with y | y
        · exact hno x x0 y
        · rw [y]; exact fun z => by have := hf2.2.mpr z; omega
      · refine m_iload dX12_setsOut_114 rfl ?_
        refine m_iret dX12_setsOut_116 rfl ?_
        have e : soF I (oid no by_) (kd = 2) n last v m = t := by
          unfold soF
          rw [fsF_eq hm.1 (Or.inr ⟨⟨h0, by omega⟩, hf2.2.mp (by omega), hno⟩), if_neg (by omega)]
        rw [e] at h
        exact h
theorem y_setsOut {v kd by_ n m last : Int} (hd : 3 ≤ d) (hS : SttI I nm no) (hlw : I 100 12 = -9) (hb : -1 ≤ by_ ∧ by_ < no) (hv : 0 ≤ v ∧ v < I 21 9) (hn : 1 ≤ n ∧ n ≤ 198) (hm : 0 ≤ m ∧ m ≤ 13000) (hl : last ≤ 13000) : SP g d mX12_setsOut 0 0 [vr 100, vi v, vi kd, vi by_, vi n, vi m, vi last] (shX nm no) (RX nm no) I (some (vi (soF I (oid no by_) (kd = 2) n last v m))) (shX nm no) (RX nm no) I := by
  have hW := hS.1.1.1
  intro Q h
  refine C_of rfl (Nat.le_of_ble_eq_true rfl) rfl ?_
  refine m_aload_n dX12_setsOut_0 rfl ?_
  refine m_iload_n dX12_setsOut_1 rfl ?_
  refine m_iload dX12_setsOut_2 rfl ?_
  refine m_Vi [_, _] dX12_setsOut_4 lk_X12_171 rfl oX_100 rfl (Nat.le_of_ble_eq_true rfl) (by omega) (y_takes ⟨by omega, by omega⟩ (by rw [hS.2.1.1.2.2.2.2.1]; exact (hS.1.1.2.1 v hv.1 hv.2).2.2.2.1) ⟨by omega, by omega⟩) ?_
  rw [hS.2.1.1.2.2.2.2.1]
  refine m_istore dX12_setsOut_7 (by decide) rfl rfl ?_
  refine m_iload dX12_setsOut_9 rfl ?_
  refine m_istore dX12_setsOut_11 (by decide) rfl rfl ?_
  exact y_so_loop hd hS hlw hb hv hn hm hl h _ m _ _ (Nat.lt_succ_self _) (by omega) (by omega) (fun x a b => by omega)
end
