/-! THE REFERENCE: isLine, isRead, fault -/
section
variable {g : GH} {d nm no : Nat} {I : II}
theorem lc_eq {a b : Int} : f_lcmp a b = 0 ↔ a = b := by
  unfold f_lcmp
  (repeat' split) <;> constructor <;> intro h <;> omega
theorem up114 {I : II} {i v : Int} : upI I 114 i v 114 = upF (I 114) i v := by
  funext j; unfold upI upF
  by_cases e : j = i
  · rw [if_pos ⟨rfl, e⟩, if_pos e]
  · rw [if_neg (fun h => e h.2), if_neg e]
def FrWd (I J : II) : Prop := (∀ x, x ≠ 100 → x ≠ 114 → J x = I x) ∧ ∀ j : Int, (j < 20 ∨ 25 < j) → J 100 j = I 100 j
theorem FrWd_rf {I : II} : FrWd I I := ⟨fun _ _ _ => rfl, fun _ _ => rfl⟩
theorem FrWd_tr {I J K : II} (h : FrWd I J) (h2 : FrWd J K) : FrWd I K := ⟨fun x a b => (h2.1 x a b).trans (h.1 x a b), fun j a => (h2.2 j a).trans (h.2 j a)⟩
theorem FrWd_y {I J : II} (h : FrY I J) : FrWd I J := ⟨fun x a _ => h.1 x a, fun j a => h.2 j (by omega)⟩
theorem FrWd_25 {I J : II} {v : Int} (h : FrWd I J) : FrWd I (upI J 100 25 v) := ⟨fun x a b => by rw [upI_o a]; exact h.1 x a b, fun j a => by rw [upI_j (by omega)]; exact h.2 j a⟩
theorem FrWd_14 {I J : II} {i v : Int} (h : FrWd I J) : FrWd I (upI J 114 i v) := ⟨fun x a b => by rw [upI_o b]; exact h.1 x a b, fun j a => by rw [upI_o (by decide)]; exact h.2 j a⟩
theorem frW_f {I J : II} {f : Int → Int} (e : FrWd I J) (h : I 113 = f) : J 113 = f := (e.1 113 (by decide) (by decide)).trans h
theorem frW_n {I J : II} {n : Int} (e : FrWd I J) (h : I 100 18 = n) : J 100 18 = n := (e.2 18 (by decide)).trans h
theorem TyI_fr {I J : II} (h : TyI I) (e : FrWd I J) : TyI J := by
  unfold TyI at *
  rw [e.1 113 (by decide) (by decide), e.2 18 (by decide)]; exact h
theorem y_fails : SP g d mX12_fails 0 0 [vr 100] (shX nm no) (RX nm no) I (some (vi 0)) (shX nm no) (RX nm no) (upI I 100 25 (I 100 21)) := by
  intro Q h
  refine C_of rfl (Nat.le_of_ble_eq_true rfl) rfl ?_
  refine m_aload_n dX12_fails_0 rfl ?_
  refine m_aload_n dX12_fails_1 rfl ?_
  refine m_gi (z := 21) dX12_fails_2 fl_X12_232 oX_100 rfl rfl ?_
  refine m_pi (z := 25) dX12_fails_5 fl_X12_257 oX_100 rfl rfl rfl ?_
  refine m_iconst dX12_fails_8 (by decide) ?_
  refine m_zret dX12_fails_9 rfl (by first | omega | exact Or.inl rfl) ?_
  exact h
theorem y_isNumber {f : Int → Int} {n p : Int} (hf : I 113 = f) (hn : I 100 18 = n) (hT : TyI I) (h20 : I 100 20 = p) (hp : 0 ≤ p ∧ p ≤ n) {at_ mo : Int} (hd : 3 ≤ d) (ha : 0 ≤ at_ ∧ at_ < 30) : SI g d mX12_isNumber [vr 100, vi at_, vi mo] (shX nm no) (RX nm no) I (fun r J => (nuP f n p mo ∧ r = 1 ∧ FrWd I J ∧ J 100 20 = tE f n p ∧ J 114 = upF (I 114) at_ (nvF f n p)) ∨ (¬ nuP f n p mo ∧ r = 0 ∧ FrWd I J ∧ J 100 25 = tS f n p)) := by
  intro Q h
  refine C_of rfl (Nat.le_of_ble_eq_true rfl) rfl ?_
  refine m_aload_n dX12_isNumber_0 rfl ?_
  refine m_VV [] dX12_isNumber_1 lk_X12_260 rfl oX_100 rfl (Nat.le_of_ble_eq_true rfl) (by omega) (y_nextToken (by omega) hf hn hT h20 hp) ?_
  intro I1 q1
  obtain ⟨f1, p1, s1, v1⟩ := q1
  have nu := tv_num (mo := mo) hp.2 v1
  refine m_aload_n dX12_isNumber_4 rfl ?_
  refine m_gl (z := 22) dX12_isNumber_5 fl_X12_243 oX_100 rfl rfl ?_
  refine m_ldc2 (a := -1) dX12_isNumber_8 kc_X12_253 rfl ?_
  refine m_lcmp dX12_isNumber_11 ?_
  refine m_if_ne (tgt := 27) dX12_isNumber_12 (by decide) (fun c12 => ?_) (fun c12 => ?_)
  · have z12 := fun y => c12 (lc_eq.mpr y)
    refine m_aload_n dX12_isNumber_27 rfl ?_
    refine m_Vi [] dX12_isNumber_28 lk_X12_263 rfl oX_100 rfl (Nat.le_of_ble_eq_true rfl) (by omega) y_fails ?_
    refine m_zret dX12_isNumber_31 rfl (Or.inl rfl) ?_
    exact h _ _ (Or.inr ⟨(fun y => by have y2 := nu.mpr y; first | exact z12 y2.1 | exact z24 y2.2), rfl, FrWd_25 (FrWd_y f1), upI_s.trans s1⟩)
  · have z12 := lc_eq.mp c12
    refine m_aload_n dX12_isNumber_15 rfl ?_
    refine m_gi (z := 24) dX12_isNumber_16 fl_X12_238 oX_100 rfl rfl ?_
    refine m_iconst dX12_isNumber_19 (by decide) ?_
    refine m_iload_n dX12_isNumber_20 rfl ?_
    refine m_Si [_, _, _] dX12_isNumber_21 lk_X12_123 rfl rfl (Nat.le_of_ble_eq_true rfl) (by omega) y_in ?_
    refine m_if_ne (tgt := 32) dX12_isNumber_24 (by decide) (fun c24 => ?_) (fun c24 => ?_)
    · have z24 := bI_ne0 c24
      refine m_aload_n dX12_isNumber_32 rfl ?_
      refine m_gr (z := 29) dX12_isNumber_33 fl_X12_57 oX_100 rfl rfl rX_100_29 ?_
      refine m_iload_n dX12_isNumber_36 rfl ?_
      refine m_aload_n dX12_isNumber_37 rfl ?_
      refine m_gi (z := 24) dX12_isNumber_38 fl_X12_238 oX_100 rfl rfl ?_
      refine m_iast dX12_isNumber_41 sX_114 (by omega) (by omega) ?_
      refine m_iconst dX12_isNumber_42 (by decide) ?_
      refine m_zret dX12_isNumber_43 rfl (by omega) ?_
      have y2 := nu.mp ⟨z12, z24⟩
      refine h _ _ (Or.inl ⟨y2, rfl, FrWd_14 (FrWd_y f1), (by rw [upI_o (by decide)]; exact p1), ?_⟩)
      rw [up114, f1.1 114 (by decide)]
      have e : I1 100 24 = nvF f n p := by
        rcases v1 with z | z | z | z
        · omega
        · have := tv_hash hp.2 z.1 z.2.1 z.2.2
          omega
        · have := z.2.2
          omega
        · have z2 := z.2.2.2
          rw [z12] at z2; split at z2 <;> omega
      rw [e]
    · have z24 := bI_eq0 (show _ = (0 : Int) by omega)
      refine m_aload_n dX12_isNumber_27 rfl ?_
      refine m_Vi [] dX12_isNumber_28 lk_X12_263 rfl oX_100 rfl (Nat.le_of_ble_eq_true rfl) (by omega) y_fails ?_
      refine m_zret dX12_isNumber_31 rfl (Or.inl rfl) ?_
      exact h _ _ (Or.inr ⟨(fun y => by have y2 := nu.mpr y; first | exact z12 y2.1 | exact z24 y2.2), rfl, FrWd_25 (FrWd_y f1), upI_s.trans s1⟩)
theorem y_ik_80 {f : Int → Int} {n p : Int} {at_ k : Int} {J : II} {Q : QT} (hd : 3 ≤ d) (hp : 0 ≤ p ∧ p ≤ n) (ha : 0 ≤ at_ ∧ at_ < 30) (hF : FrY I J) (p1 : J 100 20 = tE f n p) (s1 : J 100 21 = tS f n p) (hk : k = kdT f n p) (h : ∀ r J, (kdT f n p ≠ -1 ∧ r = 1 ∧ FrWd I J ∧ J 100 20 = tE f n p ∧ J 114 = upF (I 114) at_ (kdT f n p)) ∨ (kdT f n p = -1 ∧ r = 0 ∧ FrWd I J ∧ J 100 25 = tS f n p) → Q (some (vi r)) (shX nm no) (RX nm no) J) : T g d mX12_isKind 0 0 80 [some (vr 100), some (vi at_), none] [vi k] (shX nm no) (RX nm no) J Q := by
  refine m_istore_n dX12_isKind_80 (by decide) rfl rfl ?_
  refine m_aload_n dX12_isKind_81 rfl ?_
  refine m_gr (z := 29) dX12_isKind_82 fl_X12_57 oX_100 rfl rfl rX_100_29 ?_
  refine m_iload_n dX12_isKind_85 rfl ?_
  refine m_iload_n dX12_isKind_86 rfl ?_
  refine m_iast dX12_isKind_87 sX_114 (by omega) (by omega) ?_
  refine m_iload_n dX12_isKind_88 rfl ?_
  refine m_iconst dX12_isKind_89 (by decide) ?_
  refine m_icmp_ne (tgt := 100) dX12_isKind_90 (by decide) (fun c90 => ?_) (fun c90 => ?_)
  · have hj : J 114 = I 114 := hF.1 114 (by decide)
    refine m_iconst dX12_isKind_100 (by decide) ?_
    refine m_goto (tgt := 105) dX12_isKind_101 (by decide) ?_
    refine m_zret dX12_isKind_105 rfl (by first | exact Or.inl rfl | exact Or.inr rfl) ?_
    first
    | exact h _ _ (Or.inl ⟨fun y => c90 (hk.trans y), rfl, FrWd_14 (FrWd_y hF), (by rw [upI_o (by decide)]; exact p1), (by rw [up114, hj, hk])⟩)
    | exact h _ _ (Or.inr ⟨by omega, rfl, FrWd_25 (FrWd_14 (FrWd_y hF)), (upI_s.trans ((congrFun (upI_o (by decide)) 21).trans s1))⟩)
  · have hj : J 114 = I 114 := hF.1 114 (by decide)
    refine m_aload_n dX12_isKind_93 rfl ?_
    refine m_Vi [] dX12_isKind_94 lk_X12_263 rfl oX_100 rfl (Nat.le_of_ble_eq_true rfl) (by omega) y_fails ?_
    refine m_if_eq (tgt := 104) dX12_isKind_97 (by decide) (fun c97 => ?_) (fun c97 => ?_)
    · refine m_iconst dX12_isKind_104 (by decide) ?_
      refine m_zret dX12_isKind_105 rfl (by first | exact Or.inl rfl | exact Or.inr rfl) ?_
      first
      | exact h _ _ (Or.inl ⟨fun y => c90 (hk.trans y), rfl, FrWd_14 (FrWd_y hF), (by rw [upI_o (by decide)]; exact p1), (by rw [up114, hj, hk])⟩)
      | exact h _ _ (Or.inr ⟨by omega, rfl, FrWd_25 (FrWd_14 (FrWd_y hF)), (upI_s.trans ((congrFun (upI_o (by decide)) 21).trans s1))⟩)
    · exact absurd rfl c97
theorem y_isKind {f : Int → Int} {n p : Int} (hf : I 113 = f) (hn : I 100 18 = n) (hT : TyI I) (h20 : I 100 20 = p) (hp : 0 ≤ p ∧ p ≤ n) {at_ : Int} (hd : 3 ≤ d) (ha : 0 ≤ at_ ∧ at_ < 30) : SI g d mX12_isKind [vr 100, vi at_] (shX nm no) (RX nm no) I (fun r J => (kdT f n p ≠ -1 ∧ r = 1 ∧ FrWd I J ∧ J 100 20 = tE f n p ∧ J 114 = upF (I 114) at_ (kdT f n p)) ∨ (kdT f n p = -1 ∧ r = 0 ∧ FrWd I J ∧ J 100 25 = tS f n p)) := by
  intro Q h
  refine C_of rfl (Nat.le_of_ble_eq_true rfl) rfl ?_
  refine m_aload_n dX12_isKind_0 rfl ?_
  refine m_VV [] dX12_isKind_1 lk_X12_260 rfl oX_100 rfl (Nat.le_of_ble_eq_true rfl) (by omega) (y_nextToken (by omega) hf hn hT h20 hp) ?_
  intro I1 q1
  obtain ⟨f1, p1, s1, v1⟩ := q1
  refine m_aload_n dX12_isKind_4 rfl ?_
  refine m_gl (z := 22) dX12_isKind_5 fl_X12_243 oX_100 rfl rfl ?_
  refine m_ldc2 (a := 8740238) dX12_isKind_8 kc_X12_267 rfl ?_
  refine m_lcmp dX12_isKind_11 ?_
  refine m_if_ne (tgt := 19) dX12_isKind_12 (by decide) (fun c12 => ?_) (fun c12 => ?_)
  · have w12 : ¬ wdP f n p 1 := fun y => c12 (lc_eq.mpr ((tv_word (i := 1) (by decide) hp.2 v1).mpr y))
    refine m_aload_n dX12_isKind_19 rfl ?_
    refine m_gl (z := 22) dX12_isKind_20 fl_X12_243 oX_100 rfl rfl ?_
    refine m_ldc2 (a := 311034809) dX12_isKind_23 kc_X12_269 rfl ?_
    refine m_lcmp dX12_isKind_26 ?_
    refine m_if_ne (tgt := 34) dX12_isKind_27 (by decide) (fun c27 => ?_) (fun c27 => ?_)
    · have w27 : ¬ wdP f n p 2 := fun y => c27 (lc_eq.mpr ((tv_word (i := 2) (by decide) hp.2 v1).mpr y))
      refine m_aload_n dX12_isKind_34 rfl ?_
      refine m_gl (z := 22) dX12_isKind_35 fl_X12_243 oX_100 rfl rfl ?_
      refine m_ldc2 (a := 8861527) dX12_isKind_38 kc_X12_271 rfl ?_
      refine m_lcmp dX12_isKind_41 ?_
      refine m_if_ne (tgt := 49) dX12_isKind_42 (by decide) (fun c42 => ?_) (fun c42 => ?_)
      · have w42 : ¬ wdP f n p 3 := fun y => c42 (lc_eq.mpr ((tv_word (i := 3) (by decide) hp.2 v1).mpr y))
        refine m_aload_n dX12_isKind_49 rfl ?_
        refine m_gl (z := 22) dX12_isKind_50 fl_X12_243 oX_100 rfl rfl ?_
        refine m_ldc2 (a := 10492313) dX12_isKind_53 kc_X12_273 rfl ?_
        refine m_lcmp dX12_isKind_56 ?_
        refine m_if_ne (tgt := 64) dX12_isKind_57 (by decide) (fun c57 => ?_) (fun c57 => ?_)
        · have w57 : ¬ wdP f n p 4 := fun y => c57 (lc_eq.mpr ((tv_word (i := 4) (by decide) hp.2 v1).mpr y))
          refine m_aload_n dX12_isKind_64 rfl ?_
          refine m_gl (z := 22) dX12_isKind_65 fl_X12_243 oX_100 rfl rfl ?_
          refine m_ldc2 (a := 7214344) dX12_isKind_68 kc_X12_275 rfl ?_
          refine m_lcmp dX12_isKind_71 ?_
          refine m_if_ne (tgt := 79) dX12_isKind_72 (by decide) (fun c72 => ?_) (fun c72 => ?_)
          · have w72 : ¬ wdP f n p 5 := fun y => c72 (lc_eq.mpr ((tv_word (i := 5) (by decide) hp.2 v1).mpr y))
            refine m_iconst dX12_isKind_79 (by decide) ?_
            exact y_ik_80 hd hp ha f1 p1 s1 (by unfold kdT; rw [cif_f w12, cif_f w27, cif_f w42, cif_f w57, cif_f w72]) h
          · have w72 : wdP f n p 5 := (tv_word (i := 5) (by decide) hp.2 v1).mp (lc_eq.mp c72)
            refine m_iconst dX12_isKind_75 (by decide) ?_
            refine m_goto (tgt := 80) dX12_isKind_76 (by decide) ?_
            exact y_ik_80 hd hp ha f1 p1 s1 (by unfold kdT; rw [cif_f w12, cif_f w27, cif_f w42, cif_f w57, cif_t w72]) h
        · have w57 : wdP f n p 4 := (tv_word (i := 4) (by decide) hp.2 v1).mp (lc_eq.mp c57)
          refine m_iconst dX12_isKind_60 (by decide) ?_
          refine m_goto (tgt := 80) dX12_isKind_61 (by decide) ?_
          exact y_ik_80 hd hp ha f1 p1 s1 (by unfold kdT; rw [cif_f w12, cif_f w27, cif_f w42, cif_t w57]) h
      · have w42 : wdP f n p 3 := (tv_word (i := 3) (by decide) hp.2 v1).mp (lc_eq.mp c42)
        refine m_iconst dX12_isKind_45 (by decide) ?_
        refine m_goto (tgt := 80) dX12_isKind_46 (by decide) ?_
        exact y_ik_80 hd hp ha f1 p1 s1 (by unfold kdT; rw [cif_f w12, cif_f w27, cif_t w42]) h
    · have w27 : wdP f n p 2 := (tv_word (i := 2) (by decide) hp.2 v1).mp (lc_eq.mp c27)
      refine m_iconst dX12_isKind_30 (by decide) ?_
      refine m_goto (tgt := 80) dX12_isKind_31 (by decide) ?_
      exact y_ik_80 hd hp ha f1 p1 s1 (by unfold kdT; rw [cif_f w12, cif_t w27]) h
  · have w12 : wdP f n p 1 := (tv_word (i := 1) (by decide) hp.2 v1).mp (lc_eq.mp c12)
    refine m_iconst dX12_isKind_15 (by decide) ?_
    refine m_goto (tgt := 80) dX12_isKind_16 (by decide) ?_
    exact y_ik_80 hd hp ha f1 p1 s1 (by unfold kdT; rw [cif_t w12]) h
theorem y_isTo {f : Int → Int} {n p : Int} (hf : I 113 = f) (hn : I 100 18 = n) (hT : TyI I) (h20 : I 100 20 = p) (hp : 0 ≤ p ∧ p ≤ n) (hd : 3 ≤ d) : SI g d mX12_isWord [vr 100, vl 555] (shX nm no) (RX nm no) I (fun r J => (wdP f n p 8 ∧ r = 1 ∧ FrWd I J ∧ J 100 20 = tE f n p ∧ J 114 = I 114) ∨ (¬ wdP f n p 8 ∧ r = 0 ∧ FrWd I J ∧ J 100 25 = tS f n p)) := by
  intro Q h
  refine C_of rfl (Nat.le_of_ble_eq_true rfl) rfl ?_
  refine m_aload_n dX12_isWord_0 rfl ?_
  refine m_VV [] dX12_isWord_1 lk_X12_260 rfl oX_100 rfl (Nat.le_of_ble_eq_true rfl) (by omega) (y_nextToken (by omega) hf hn hT h20 hp) ?_
  intro I1 q1
  obtain ⟨f1, p1, s1, v1⟩ := q1
  have nw := tv_word (i := 8) (by decide) hp.2 v1
  refine m_aload_n dX12_isWord_4 rfl ?_
  refine m_gl (z := 22) dX12_isWord_5 fl_X12_243 oX_100 rfl rfl ?_
  refine m_lload_n dX12_isWord_8 rfl ?_
  refine m_lcmp dX12_isWord_9 ?_
  refine m_if_eq (tgt := 20) dX12_isWord_10 (by decide) (fun c10 => ?_) (fun c10 => ?_)
  · have z10 := nw.mp (lc_eq.mp c10)
    refine m_iconst dX12_isWord_20 (by decide) ?_
    refine m_goto (tgt := 25) dX12_isWord_21 (by decide) ?_
    refine m_zret dX12_isWord_25 rfl (by first | exact Or.inl rfl | exact Or.inr rfl) ?_
    first
    | exact h _ _ (Or.inl ⟨z10, rfl, FrWd_y f1, p1, f1.1 114 (by decide)⟩)
    | exact h _ _ (Or.inr ⟨z10, rfl, FrWd_25 (FrWd_y f1), upI_s.trans s1⟩)
  · have z10 : ¬ wdP f n p 8 := fun y => c10 (lc_eq.mpr (nw.mpr y))
    refine m_aload_n dX12_isWord_13 rfl ?_
    refine m_Vi [] dX12_isWord_14 lk_X12_263 rfl oX_100 rfl (Nat.le_of_ble_eq_true rfl) (by omega) y_fails ?_
    refine m_if_eq (tgt := 24) dX12_isWord_17 (by decide) (fun c17 => ?_) (fun c17 => ?_)
    · refine m_iconst dX12_isWord_24 (by decide) ?_
      refine m_zret dX12_isWord_25 rfl (by first | exact Or.inl rfl | exact Or.inr rfl) ?_
      first
      | exact h _ _ (Or.inl ⟨z10, rfl, FrWd_y f1, p1, f1.1 114 (by decide)⟩)
      | exact h _ _ (Or.inr ⟨z10, rfl, FrWd_25 (FrWd_y f1), upI_s.trans s1⟩)
    · exact absurd rfl c17
section
variable {f : Int → Int} {n p : Int}
theorem so_0 (w : wdP f n p 0) : soT f n p = 0 := by unfold soT; rw [cif_t w]
theorem so_1 (w : wdP f n p 6) : soT f n p = 1 := by unfold soT; rw [cif_f (fun z => absurd (wd_one (by decide) (by decide) z w) (by decide)), cif_t w]
theorem so_3 (w : wdP f n p 7) : soT f n p = 3 := by unfold soT; rw [cif_f (fun z => absurd (wd_one (by decide) (by decide) z w) (by decide)), cif_f (fun z => absurd (wd_one (by decide) (by decide) z w) (by decide)), cif_t w]
theorem so_4 (w : wdP f n p 9) : soT f n p = 4 := by unfold soT; rw [cif_f (fun z => absurd (wd_one (by decide) (by decide) z w) (by decide)), cif_f (fun z => absurd (wd_one (by decide) (by decide) z w) (by decide)), cif_f (fun z => absurd (wd_one (by decide) (by decide) z w) (by decide)), cif_t w]
theorem so_2 (w : wdP f n p 10) : soT f n p = 2 := by unfold soT; rw [cif_f (fun z => absurd (wd_one (by decide) (by decide) z w) (by decide)), cif_f (fun z => absurd (wd_one (by decide) (by decide) z w) (by decide)), cif_f (fun z => absurd (wd_one (by decide) (by decide) z w) (by decide)), cif_f (fun z => absurd (wd_one (by decide) (by decide) z w) (by decide)), cif_t w]
theorem so_5 (w : wdP f n p 11) : soT f n p = 5 := by unfold soT; rw [cif_f (fun z => absurd (wd_one (by decide) (by decide) z w) (by decide)), cif_f (fun z => absurd (wd_one (by decide) (by decide) z w) (by decide)), cif_f (fun z => absurd (wd_one (by decide) (by decide) z w) (by decide)), cif_f (fun z => absurd (wd_one (by decide) (by decide) z w) (by decide)), cif_f (fun z => absurd (wd_one (by decide) (by decide) z w) (by decide)), cif_t w]
theorem so_n (w0 : ¬ wdP f n p 0) (w1 : ¬ wdP f n p 6) (w2 : ¬ wdP f n p 10) (w3 : ¬ wdP f n p 7) (w4 : ¬ wdP f n p 9) (w5 : ¬ wdP f n p 11) : soT f n p = -1 := by unfold soT; rw [cif_f w0, cif_f w1, cif_f w3, cif_f w4, cif_f w2, cif_f w5]
end
theorem y_il_121 {f : Int → Int} {n p at_ v : Int} {M : II} {Q : QT} (hf : I 113 = f) (hn : I 100 18 = n) (hT : TyI I) (hp : 0 ≤ p ∧ p ≤ n) (hd : 5 ≤ d) (ha : 0 ≤ at_ ∧ at_ + 2 < 30) (hv : v = soT f n p) (hF : FrWd I M) (m20 : M 100 20 = tE f n p) (m21 : M 100 21 = tS f n p) (m0 : M 114 at_ = v) (m1 : M 114 (at_ + 1) = 0) (m2 : M 114 (at_ + 2) = 0) (m3 : ∀ j : Int, j < at_ → M 114 j = I 114 j)
    (h : ∀ r J, (lnR f n p = -1 ∧ r = 1 ∧ FrWd I J ∧ J 100 20 = lnN f n p ∧ (J 114 at_ = soT f n p ∧ J 114 (at_ + 1) = lnA f n p ∧ J 114 (at_ + 2) = lnB f n p) ∧ ∀ j : Int, j < at_ → J 114 j = I 114 j) ∨ (lnR f n p ≠ -1 ∧ r = 0 ∧ FrWd I J ∧ J 100 25 = lnR f n p) → Q (some (vi r)) (shX nm no) (RX nm no) J) : T g d mX12_isLine 0 0 121 [some (vr 100), some (vi at_), some (vi v)] [] (shX nm no) (RX nm no) M Q := by
  have hb1 := t_bd (f := f) hp.2
  have hb2 := t_bd (f := f) hb1.2.2.1
  have hb3 := t_bd (f := f) hb2.2.2.1
  have hb4 := t_bd (f := f) hb3.2.2.1
  refine m_iload_n dX12_isLine_121 rfl ?_
  by_cases e122_0 : v = 0
  · refine m_tableIn (tgt := 160) 0 dX12_isLine_122 e122_0 (by decide) (by decide) rfl (by decide) ?_
    refine m_aload_n dX12_isLine_160 rfl ?_
    refine m_iload_n dX12_isLine_161 rfl ?_
    refine m_iconst dX12_isLine_162 (by decide) ?_
    refine m_iadd dX12_isLine_163 (by omega) ?_
    refine m_VI [_] dX12_isLine_164 lk_X12_289 rfl oX_100 rfl (Nat.le_of_ble_eq_true rfl) (by omega) (y_isKind (frW_f hF hf) (frW_n hF hn) (TyI_fr hT hF) m20 ⟨by omega, by omega⟩ (by omega) (by omega)) ?_
    intro r164 I164 q164
    refine m_if_eq (tgt := 186) dX12_isLine_167 (by decide) (fun c167 => ?_) (fun c167 => ?_)
    · obtain ⟨k164, f164, v164⟩ : kdT f n (tE f n p) = -1 ∧ FrWd M I164 ∧ I164 100 25 = tS f n (tE f n p) := (by rcases q164 with q | q; exact absurd (q.2.1.symm.trans c167) (by decide); exact ⟨q.1, q.2.2.1, q.2.2.2⟩)
      refine m_iconst dX12_isLine_186 (by decide) ?_
      refine m_zret dX12_isLine_187 rfl (by first | exact Or.inl rfl | exact Or.inr rfl) ?_
      have es : soT f n p = 0 := hv.symm.trans e122_0
      first
      | (have hR : I176 100 25 = lnR f n p := by rw [lnR_0 es, if_neg k164, cif_f k176]; exact v176
         exact h _ _ (Or.inr ⟨by rw [← hR, v176]; omega, rfl, FrWd_tr g164 f176, hR⟩))
      | (have hR : I164 100 25 = lnR f n p := by rw [lnR_0 es, if_pos k164]; exact v164
         exact h _ _ (Or.inr ⟨by rw [← hR, v164]; omega, rfl, FrWd_tr hF f164, hR⟩))
    · obtain ⟨k164, f164, v164, u164⟩ : kdT f n (tE f n p) ≠ -1 ∧ FrWd M I164 ∧ I164 100 20 = tE f n (tE f n p) ∧ I164 114 = upF (M 114) (at_ + 1) (kdT f n (tE f n p)) := (by rcases q164 with q | q; exact ⟨q.1, q.2.2.1, q.2.2.2.1, q.2.2.2.2⟩; exact absurd q.2.1 c167)
      have g164 := FrWd_tr hF f164
      refine m_aload_n dX12_isLine_170 rfl ?_
      refine m_iload_n dX12_isLine_171 rfl ?_
      refine m_iconst dX12_isLine_172 (by decide) ?_
      refine m_iadd dX12_isLine_173 (by omega) ?_
      refine m_bipush dX12_isLine_174 rfl (by decide) ?_
      refine m_VI [_, _] dX12_isLine_176 lk_X12_292 rfl oX_100 rfl (Nat.le_of_ble_eq_true rfl) (by omega) (y_isNumber (frW_f g164 hf) (frW_n g164 hn) (TyI_fr hT g164) v164 ⟨by omega, by omega⟩ (by omega) (by omega)) ?_
      intro r176 I176 q176
      refine m_if_eq (tgt := 186) dX12_isLine_179 (by decide) (fun c179 => ?_) (fun c179 => ?_)
      · obtain ⟨k176, f176, v176⟩ : ¬ nuP f n (tE f n (tE f n p)) 9 ∧ FrWd I164 I176 ∧ I176 100 25 = tS f n (tE f n (tE f n p)) := (by rcases q176 with q | q; exact absurd (q.2.1.symm.trans c179) (by decide); exact ⟨q.1, q.2.2.1, q.2.2.2⟩)
        refine m_iconst dX12_isLine_186 (by decide) ?_
        refine m_zret dX12_isLine_187 rfl (by first | exact Or.inl rfl | exact Or.inr rfl) ?_
        have es : soT f n p = 0 := hv.symm.trans e122_0
        first
        | (have hR : I176 100 25 = lnR f n p := by rw [lnR_0 es, if_neg k164, cif_f k176]; exact v176
           exact h _ _ (Or.inr ⟨by rw [← hR, v176]; omega, rfl, FrWd_tr g164 f176, hR⟩))
        | (have hR : I164 100 25 = lnR f n p := by rw [lnR_0 es, if_pos k164]; exact v164
           exact h _ _ (Or.inr ⟨by rw [← hR, v164]; omega, rfl, FrWd_tr hF f164, hR⟩))
      · obtain ⟨k176, f176, v176, u176⟩ : nuP f n (tE f n (tE f n p)) 9 ∧ FrWd I164 I176 ∧ I176 100 20 = tE f n (tE f n (tE f n p)) ∧ I176 114 = upF (I164 114) (at_ + 2) (nvF f n (tE f n (tE f n p))) := (by rcases q176 with q | q; exact ⟨q.1, q.2.2.1, q.2.2.2.1, q.2.2.2.2⟩; exact absurd q.2.1 c179)
        have g176 := FrWd_tr g164 f176
        refine m_iconst dX12_isLine_182 (by decide) ?_
        refine m_goto (tgt := 187) dX12_isLine_183 (by decide) ?_
        refine m_zret dX12_isLine_187 rfl (by first | exact Or.inl rfl | exact Or.inr rfl) ?_
        have es : soT f n p = 0 := hv.symm.trans e122_0
        refine h _ _ (Or.inl ⟨by rw [lnR_0 es, if_neg k164, cif_t k176], rfl, g176, by rw [lnN_0 es]; exact v176, ⟨?_, ?_, ?_⟩, fun j hj => ?_⟩)
        · rw [u176, upF_n (show at_ ≠ at_ + 2 by omega), u164, upF_n (show at_ ≠ at_ + 1 by omega), m0, hv]
        · rw [u176, upF_n (show at_ + 1 ≠ at_ + 2 by omega), u164, upF_s, lnA_0 es]
        · rw [u176, upF_s, lnB_0 es]
        · rw [u176, upF_n (show j ≠ at_ + 2 by omega), u164, upF_n (show j ≠ at_ + 1 by omega)]; exact m3 j hj
  by_cases e122_1 : v = 1
  · refine m_tableIn (tgt := 188) 1 dX12_isLine_122 e122_1 (by decide) (by decide) rfl (by decide) ?_
    refine m_aload_n dX12_isLine_188 rfl ?_
    refine m_iload_n dX12_isLine_189 rfl ?_
    refine m_iconst dX12_isLine_190 (by decide) ?_
    refine m_iadd dX12_isLine_191 (by omega) ?_
    refine m_VI [_] dX12_isLine_192 lk_X12_289 rfl oX_100 rfl (Nat.le_of_ble_eq_true rfl) (by omega) (y_isKind (frW_f hF hf) (frW_n hF hn) (TyI_fr hT hF) m20 ⟨by omega, by omega⟩ (by omega) (by omega)) ?_
    intro r192 I192 q192
    refine m_if_eq (tgt := 214) dX12_isLine_195 (by decide) (fun c195 => ?_) (fun c195 => ?_)
    · obtain ⟨k192, f192, v192⟩ : kdT f n (tE f n p) = -1 ∧ FrWd M I192 ∧ I192 100 25 = tS f n (tE f n p) := (by rcases q192 with q | q; exact absurd (q.2.1.symm.trans c195) (by decide); exact ⟨q.1, q.2.2.1, q.2.2.2⟩)
      refine m_iconst dX12_isLine_214 (by decide) ?_
      refine m_zret dX12_isLine_215 rfl (by first | exact Or.inl rfl | exact Or.inr rfl) ?_
      have es : soT f n p = 1 := hv.symm.trans e122_1
      first
      | (have hR : I204 100 25 = lnR f n p := by rw [lnR_1 es, if_neg k192, cif_f k204]; exact v204
         exact h _ _ (Or.inr ⟨by rw [← hR, v204]; omega, rfl, FrWd_tr g192 f204, hR⟩))
      | (have hR : I192 100 25 = lnR f n p := by rw [lnR_1 es, if_pos k192]; exact v192
         exact h _ _ (Or.inr ⟨by rw [← hR, v192]; omega, rfl, FrWd_tr hF f192, hR⟩))
    · obtain ⟨k192, f192, v192, u192⟩ : kdT f n (tE f n p) ≠ -1 ∧ FrWd M I192 ∧ I192 100 20 = tE f n (tE f n p) ∧ I192 114 = upF (M 114) (at_ + 1) (kdT f n (tE f n p)) := (by rcases q192 with q | q; exact ⟨q.1, q.2.2.1, q.2.2.2.1, q.2.2.2.2⟩; exact absurd q.2.1 c195)
      have g192 := FrWd_tr hF f192
      refine m_aload_n dX12_isLine_198 rfl ?_
      refine m_iload_n dX12_isLine_199 rfl ?_
      refine m_iconst dX12_isLine_200 (by decide) ?_
      refine m_iadd dX12_isLine_201 (by omega) ?_
      refine m_bipush dX12_isLine_202 rfl (by decide) ?_
      refine m_VI [_, _] dX12_isLine_204 lk_X12_292 rfl oX_100 rfl (Nat.le_of_ble_eq_true rfl) (by omega) (y_isNumber (frW_f g192 hf) (frW_n g192 hn) (TyI_fr hT g192) v192 ⟨by omega, by omega⟩ (by omega) (by omega)) ?_
      intro r204 I204 q204
      refine m_if_eq (tgt := 214) dX12_isLine_207 (by decide) (fun c207 => ?_) (fun c207 => ?_)
      · obtain ⟨k204, f204, v204⟩ : ¬ nuP f n (tE f n (tE f n p)) 99 ∧ FrWd I192 I204 ∧ I204 100 25 = tS f n (tE f n (tE f n p)) := (by rcases q204 with q | q; exact absurd (q.2.1.symm.trans c207) (by decide); exact ⟨q.1, q.2.2.1, q.2.2.2⟩)
        refine m_iconst dX12_isLine_214 (by decide) ?_
        refine m_zret dX12_isLine_215 rfl (by first | exact Or.inl rfl | exact Or.inr rfl) ?_
        have es : soT f n p = 1 := hv.symm.trans e122_1
        first
        | (have hR : I204 100 25 = lnR f n p := by rw [lnR_1 es, if_neg k192, cif_f k204]; exact v204
           exact h _ _ (Or.inr ⟨by rw [← hR, v204]; omega, rfl, FrWd_tr g192 f204, hR⟩))
        | (have hR : I192 100 25 = lnR f n p := by rw [lnR_1 es, if_pos k192]; exact v192
           exact h _ _ (Or.inr ⟨by rw [← hR, v192]; omega, rfl, FrWd_tr hF f192, hR⟩))
      · obtain ⟨k204, f204, v204, u204⟩ : nuP f n (tE f n (tE f n p)) 99 ∧ FrWd I192 I204 ∧ I204 100 20 = tE f n (tE f n (tE f n p)) ∧ I204 114 = upF (I192 114) (at_ + 2) (nvF f n (tE f n (tE f n p))) := (by rcases q204 with q | q; exact ⟨q.1, q.2.2.1, q.2.2.2.1, q.2.2.2.2⟩; exact absurd q.2.1 c207)
        have g204 := FrWd_tr g192 f204
        refine m_iconst dX12_isLine_210 (by decide) ?_
        refine m_goto (tgt := 215) dX12_isLine_211 (by decide) ?_
        refine m_zret dX12_isLine_215 rfl (by first | exact Or.inl rfl | exact Or.inr rfl) ?_
        have es : soT f n p = 1 := hv.symm.trans e122_1
        refine h _ _ (Or.inl ⟨by rw [lnR_1 es, if_neg k192, cif_t k204], rfl, g204, by rw [lnN_1 es]; exact v204, ⟨?_, ?_, ?_⟩, fun j hj => ?_⟩)
        · rw [u204, upF_n (show at_ ≠ at_ + 2 by omega), u192, upF_n (show at_ ≠ at_ + 1 by omega), m0, hv]
        · rw [u204, upF_n (show at_ + 1 ≠ at_ + 2 by omega), u192, upF_s, lnA_1 es]
        · rw [u204, upF_s, lnB_1 es]
        · rw [u204, upF_n (show j ≠ at_ + 2 by omega), u192, upF_n (show j ≠ at_ + 1 by omega)]; exact m3 j hj
  by_cases e122_2 : v = 2
  · refine m_tableIn (tgt := 264) 2 dX12_isLine_122 e122_2 (by decide) (by decide) rfl (by decide) ?_
    refine m_aload_n dX12_isLine_264 rfl ?_
    refine m_iload_n dX12_isLine_265 rfl ?_
    refine m_iconst dX12_isLine_266 (by decide) ?_
    refine m_iadd dX12_isLine_267 (by omega) ?_
    refine m_bipush dX12_isLine_268 rfl (by decide) ?_
    refine m_VI [_, _] dX12_isLine_270 lk_X12_292 rfl oX_100 rfl (Nat.le_of_ble_eq_true rfl) (by omega) (y_isNumber (frW_f hF hf) (frW_n hF hn) (TyI_fr hT hF) m20 ⟨by omega, by omega⟩ (by omega) (by omega)) ?_
    intro r270 I270 q270
    refine m_zret dX12_isLine_273 rfl (by rcases q270 with z | z; exact Or.inr z.2.1; exact Or.inl z.2.1) ?_
    have es : soT f n p = 2 := hv.symm.trans e122_2
    rcases q270 with ⟨k1, zr, f1, v1, u1⟩ | ⟨k1, zr, f1, v1⟩
    · refine h _ _ (Or.inl ⟨by rw [lnR_2 es, cif_t k1], zr, FrWd_tr hF f1, by rw [lnN_2 es]; exact v1, ⟨?_, ?_, ?_⟩, fun j hj => ?_⟩)
      · rw [u1, upF_n (show at_ ≠ at_ + 2 by omega), m0, hv]
      · rw [u1, upF_n (show at_ + 1 ≠ at_ + 2 by omega), m1, lnA_2 es]
      · rw [u1, upF_s, lnB_2 es]
      · rw [u1, upF_n (show j ≠ at_ + 2 by omega)]; exact m3 j hj
    · have hR : I270 100 25 = lnR f n p := by rw [lnR_2 es, cif_f k1]; exact v1
      exact h _ _ (Or.inr ⟨by rw [← hR, v1]; omega, zr, FrWd_tr hF f1, hR⟩)
  by_cases e122_3 : v = 3
  · refine m_tableIn (tgt := 216) 3 dX12_isLine_122 e122_3 (by decide) (by decide) rfl (by decide) ?_
    refine m_aload_n dX12_isLine_216 rfl ?_
    refine m_iload_n dX12_isLine_217 rfl ?_
    refine m_iconst dX12_isLine_218 (by decide) ?_
    refine m_iadd dX12_isLine_219 (by omega) ?_
    refine m_bipush dX12_isLine_220 rfl (by decide) ?_
    refine m_VI [_, _] dX12_isLine_222 lk_X12_292 rfl oX_100 rfl (Nat.le_of_ble_eq_true rfl) (by omega) (y_isNumber (frW_f hF hf) (frW_n hF hn) (TyI_fr hT hF) m20 ⟨by omega, by omega⟩ (by omega) (by omega)) ?_
    intro r222 I222 q222
    refine m_if_eq (tgt := 254) dX12_isLine_225 (by decide) (fun c225 => ?_) (fun c225 => ?_)
    · obtain ⟨k222, f222, v222⟩ : ¬ nuP f n (tE f n p) 23 ∧ FrWd M I222 ∧ I222 100 25 = tS f n (tE f n p) := (by rcases q222 with q | q; exact absurd (q.2.1.symm.trans c225) (by decide); exact ⟨q.1, q.2.2.1, q.2.2.2⟩)
      refine m_iconst dX12_isLine_254 (by decide) ?_
      refine m_zret dX12_isLine_255 rfl (by first | exact Or.inl rfl | exact Or.inr rfl) ?_
      have es : soT f n p = 3 := hv.symm.trans e122_3
      first
      | (have hR : I244 100 25 = lnR f n p := by rw [lnR_3 es, cif_t k222, cif_t k232, cif_f k244]; exact v244
         exact h _ _ (Or.inr ⟨by rw [← hR, v244]; omega, rfl, FrWd_tr g232 f244, hR⟩))
      | (have hR : I232 100 25 = lnR f n p := by rw [lnR_3 es, cif_t k222, cif_f k232]; exact v232
         exact h _ _ (Or.inr ⟨by rw [← hR, v232]; omega, rfl, FrWd_tr g222 f232, hR⟩))
      | (have hR : I222 100 25 = lnR f n p := by rw [lnR_3 es, cif_f k222]; exact v222
         exact h _ _ (Or.inr ⟨by rw [← hR, v222]; omega, rfl, FrWd_tr hF f222, hR⟩))
    · obtain ⟨k222, f222, v222, u222⟩ : nuP f n (tE f n p) 23 ∧ FrWd M I222 ∧ I222 100 20 = tE f n (tE f n p) ∧ I222 114 = upF (M 114) (at_ + 1) (nvF f n (tE f n p)) := (by rcases q222 with q | q; exact ⟨q.1, q.2.2.1, q.2.2.2.1, q.2.2.2.2⟩; exact absurd q.2.1 c225)
      have g222 := FrWd_tr hF f222
      refine m_aload_n dX12_isLine_228 rfl ?_
      refine m_ldc2 (a := 555) dX12_isLine_229 kc_X12_295 rfl ?_
      refine m_VI [_] dX12_isLine_232 lk_X12_297 rfl oX_100 rfl (Nat.le_of_ble_eq_true rfl) (by omega) (y_isTo (frW_f g222 hf) (frW_n g222 hn) (TyI_fr hT g222) v222 ⟨by omega, by omega⟩ (by omega)) ?_
      intro r232 I232 q232
      refine m_if_eq (tgt := 254) dX12_isLine_235 (by decide) (fun c235 => ?_) (fun c235 => ?_)
      · obtain ⟨k232, f232, v232⟩ : ¬ wdP f n (tE f n (tE f n p)) 8 ∧ FrWd I222 I232 ∧ I232 100 25 = tS f n (tE f n (tE f n p)) := (by rcases q232 with q | q; exact absurd (q.2.1.symm.trans c235) (by decide); exact ⟨q.1, q.2.2.1, q.2.2.2⟩)
        refine m_iconst dX12_isLine_254 (by decide) ?_
        refine m_zret dX12_isLine_255 rfl (by first | exact Or.inl rfl | exact Or.inr rfl) ?_
        have es : soT f n p = 3 := hv.symm.trans e122_3
        first
        | (have hR : I244 100 25 = lnR f n p := by rw [lnR_3 es, cif_t k222, cif_t k232, cif_f k244]; exact v244
           exact h _ _ (Or.inr ⟨by rw [← hR, v244]; omega, rfl, FrWd_tr g232 f244, hR⟩))
        | (have hR : I232 100 25 = lnR f n p := by rw [lnR_3 es, cif_t k222, cif_f k232]; exact v232
           exact h _ _ (Or.inr ⟨by rw [← hR, v232]; omega, rfl, FrWd_tr g222 f232, hR⟩))
        | (have hR : I222 100 25 = lnR f n p := by rw [lnR_3 es, cif_f k222]; exact v222
           exact h _ _ (Or.inr ⟨by rw [← hR, v222]; omega, rfl, FrWd_tr hF f222, hR⟩))
      · obtain ⟨k232, f232, v232, u232⟩ : wdP f n (tE f n (tE f n p)) 8 ∧ FrWd I222 I232 ∧ I232 100 20 = tE f n (tE f n (tE f n p)) ∧ I232 114 = I222 114 := (by rcases q232 with q | q; exact ⟨q.1, q.2.2.1, q.2.2.2.1, q.2.2.2.2⟩; exact absurd q.2.1 c235)
        have g232 := FrWd_tr g222 f232
        refine m_aload_n dX12_isLine_238 rfl ?_
        refine m_iload_n dX12_isLine_239 rfl ?_
        refine m_iconst dX12_isLine_240 (by decide) ?_
        refine m_iadd dX12_isLine_241 (by omega) ?_
        refine m_bipush dX12_isLine_242 rfl (by decide) ?_
        refine m_VI [_, _] dX12_isLine_244 lk_X12_292 rfl oX_100 rfl (Nat.le_of_ble_eq_true rfl) (by omega) (y_isNumber (frW_f g232 hf) (frW_n g232 hn) (TyI_fr hT g232) v232 ⟨by omega, by omega⟩ (by omega) (by omega)) ?_
        intro r244 I244 q244
        refine m_if_eq (tgt := 254) dX12_isLine_247 (by decide) (fun c247 => ?_) (fun c247 => ?_)
        · obtain ⟨k244, f244, v244⟩ : ¬ nuP f n (tE f n (tE f n (tE f n p))) 23 ∧ FrWd I232 I244 ∧ I244 100 25 = tS f n (tE f n (tE f n (tE f n p))) := (by rcases q244 with q | q; exact absurd (q.2.1.symm.trans c247) (by decide); exact ⟨q.1, q.2.2.1, q.2.2.2⟩)
          refine m_iconst dX12_isLine_254 (by decide) ?_
          refine m_zret dX12_isLine_255 rfl (by first | exact Or.inl rfl | exact Or.inr rfl) ?_
          have es : soT f n p = 3 := hv.symm.trans e122_3
          first
          | (have hR : I244 100 25 = lnR f n p := by rw [lnR_3 es, cif_t k222, cif_t k232, cif_f k244]; exact v244
             exact h _ _ (Or.inr ⟨by rw [← hR, v244]; omega, rfl, FrWd_tr g232 f244, hR⟩))
          | (have hR : I232 100 25 = lnR f n p := by rw [lnR_3 es, cif_t k222, cif_f k232]; exact v232
             exact h _ _ (Or.inr ⟨by rw [← hR, v232]; omega, rfl, FrWd_tr g222 f232, hR⟩))
          | (have hR : I222 100 25 = lnR f n p := by rw [lnR_3 es, cif_f k222]; exact v222
             exact h _ _ (Or.inr ⟨by rw [← hR, v222]; omega, rfl, FrWd_tr hF f222, hR⟩))
        · obtain ⟨k244, f244, v244, u244⟩ : nuP f n (tE f n (tE f n (tE f n p))) 23 ∧ FrWd I232 I244 ∧ I244 100 20 = tE f n (tE f n (tE f n (tE f n p))) ∧ I244 114 = upF (I232 114) (at_ + 2) (nvF f n (tE f n (tE f n (tE f n p)))) := (by rcases q244 with q | q; exact ⟨q.1, q.2.2.1, q.2.2.2.1, q.2.2.2.2⟩; exact absurd q.2.1 c247)
          have g244 := FrWd_tr g232 f244
          refine m_iconst dX12_isLine_250 (by decide) ?_
          refine m_goto (tgt := 255) dX12_isLine_251 (by decide) ?_
          refine m_zret dX12_isLine_255 rfl (by first | exact Or.inl rfl | exact Or.inr rfl) ?_
          have es : soT f n p = 3 := hv.symm.trans e122_3
          refine h _ _ (Or.inl ⟨by rw [lnR_3 es, cif_t k222, cif_t k232, cif_t k244], rfl, g244, by rw [lnN_3 es]; exact v244, ⟨?_, ?_, ?_⟩, fun j hj => ?_⟩)
          · rw [u244, upF_n (show at_ ≠ at_ + 2 by omega), u232, u222, upF_n (show at_ ≠ at_ + 1 by omega), m0, hv]
          · rw [u244, upF_n (show at_ + 1 ≠ at_ + 2 by omega), u232, u222, upF_s, lnA_3 es]
          · rw [u244, upF_s, lnB_3 es]
          · rw [u244, upF_n (show j ≠ at_ + 2 by omega), u232, u222, upF_n (show j ≠ at_ + 1 by omega)]; exact m3 j hj
  by_cases e122_4 : v = 4
  · refine m_tableIn (tgt := 256) 4 dX12_isLine_122 e122_4 (by decide) (by decide) rfl (by decide) ?_
    refine m_aload_n dX12_isLine_256 rfl ?_
    refine m_iload_n dX12_isLine_257 rfl ?_
    refine m_iconst dX12_isLine_258 (by decide) ?_
    refine m_iadd dX12_isLine_259 (by omega) ?_
    refine m_VI [_] dX12_isLine_260 lk_X12_289 rfl oX_100 rfl (Nat.le_of_ble_eq_true rfl) (by omega) (y_isKind (frW_f hF hf) (frW_n hF hn) (TyI_fr hT hF) m20 ⟨by omega, by omega⟩ (by omega) (by omega)) ?_
    intro r260 I260 q260
    refine m_zret dX12_isLine_263 rfl (by rcases q260 with z | z; exact Or.inr z.2.1; exact Or.inl z.2.1) ?_
    have es : soT f n p = 4 := hv.symm.trans e122_4
    rcases q260 with ⟨k1, zr, f1, v1, u1⟩ | ⟨k1, zr, f1, v1⟩
    · refine h _ _ (Or.inl ⟨by rw [lnR_4 es, if_neg k1], zr, FrWd_tr hF f1, by rw [lnN_4 es]; exact v1, ⟨?_, ?_, ?_⟩, fun j hj => ?_⟩)
      · rw [u1, upF_n (show at_ ≠ at_ + 1 by omega), m0, hv]
      · rw [u1, upF_s, lnA_4 es]
      · rw [u1, upF_n (show at_ + 2 ≠ at_ + 1 by omega), m2, lnB_4 es]
      · rw [u1, upF_n (show j ≠ at_ + 1 by omega)]; exact m3 j hj
    · have hR : I260 100 25 = lnR f n p := by rw [lnR_4 es, if_pos k1]; exact v1
      exact h _ _ (Or.inr ⟨by rw [← hR, v1]; omega, zr, FrWd_tr hF f1, hR⟩)
  by_cases e122_5 : v = 5
  · refine m_tableIn (tgt := 264) 5 dX12_isLine_122 e122_5 (by decide) (by decide) rfl (by decide) ?_
    refine m_aload_n dX12_isLine_264 rfl ?_
    refine m_iload_n dX12_isLine_265 rfl ?_
    refine m_iconst dX12_isLine_266 (by decide) ?_
    refine m_iadd dX12_isLine_267 (by omega) ?_
    refine m_bipush dX12_isLine_268 rfl (by decide) ?_
    refine m_VI [_, _] dX12_isLine_270 lk_X12_292 rfl oX_100 rfl (Nat.le_of_ble_eq_true rfl) (by omega) (y_isNumber (frW_f hF hf) (frW_n hF hn) (TyI_fr hT hF) m20 ⟨by omega, by omega⟩ (by omega) (by omega)) ?_
    intro r270 I270 q270
    refine m_zret dX12_isLine_273 rfl (by rcases q270 with z | z; exact Or.inr z.2.1; exact Or.inl z.2.1) ?_
    have es : soT f n p = 5 := hv.symm.trans e122_5
    rcases q270 with ⟨k1, zr, f1, v1, u1⟩ | ⟨k1, zr, f1, v1⟩
    · refine h _ _ (Or.inl ⟨by rw [lnR_5 es, cif_t k1], zr, FrWd_tr hF f1, by rw [lnN_5 es]; exact v1, ⟨?_, ?_, ?_⟩, fun j hj => ?_⟩)
      · rw [u1, upF_n (show at_ ≠ at_ + 2 by omega), m0, hv]
      · rw [u1, upF_n (show at_ + 1 ≠ at_ + 2 by omega), m1, lnA_5 es]
      · rw [u1, upF_s, lnB_5 es]
      · rw [u1, upF_n (show j ≠ at_ + 2 by omega)]; exact m3 j hj
    · have hR : I270 100 25 = lnR f n p := by rw [lnR_5 es, cif_f k1]; exact v1
      exact h _ _ (Or.inr ⟨by rw [← hR, v1]; omega, zr, FrWd_tr hF f1, hR⟩)
  refine m_tableOut (tgt := 274) dX12_isLine_122 (by omega) (by decide) ?_
  refine m_aload_n dX12_isLine_274 rfl ?_
  refine m_Vi [] dX12_isLine_275 lk_X12_263 rfl oX_100 rfl (Nat.le_of_ble_eq_true rfl) (by omega) y_fails ?_
  refine m_zret dX12_isLine_278 rfl (Or.inl rfl) ?_
  have hb := so_bd (f := f) (n := n) (p := p)
  have es : soT f n p = -1 := by omega
  exact h _ _ (Or.inr ⟨by rw [lnR_none es]; omega, rfl, FrWd_25 hF, by rw [lnR_none es]; exact upI_s.trans m21⟩)
theorem y_il_95 {f : Int → Int} {n p at_ v : Int} {J : II} {Q : QT} (hf : I 113 = f) (hn : I 100 18 = n) (hT : TyI I) (hp : 0 ≤ p ∧ p ≤ n) (hd : 5 ≤ d) (ha : 0 ≤ at_ ∧ at_ + 2 < 30) (hv : v = soT f n p) (hF : FrY I J) (m20 : J 100 20 = tE f n p) (m21 : J 100 21 = tS f n p)
    (h : ∀ r J, (lnR f n p = -1 ∧ r = 1 ∧ FrWd I J ∧ J 100 20 = lnN f n p ∧ (J 114 at_ = soT f n p ∧ J 114 (at_ + 1) = lnA f n p ∧ J 114 (at_ + 2) = lnB f n p) ∧ ∀ j : Int, j < at_ → J 114 j = I 114 j) ∨ (lnR f n p ≠ -1 ∧ r = 0 ∧ FrWd I J ∧ J 100 25 = lnR f n p) → Q (some (vi r)) (shX nm no) (RX nm no) J) : T g d mX12_isLine 0 0 95 [some (vr 100), some (vi at_), none] [vi v] (shX nm no) (RX nm no) J Q := by
  refine m_istore_n dX12_isLine_95 (by decide) rfl rfl ?_
  refine m_aload_n dX12_isLine_96 rfl ?_
  refine m_gr (z := 29) dX12_isLine_97 fl_X12_57 oX_100 rfl rfl rX_100_29 ?_
  refine m_iload_n dX12_isLine_100 rfl ?_
  refine m_iload_n dX12_isLine_101 rfl ?_
  refine m_iast dX12_isLine_102 sX_114 (by omega) (by omega) ?_
  refine m_aload_n dX12_isLine_103 rfl ?_
  refine m_gr (z := 29) dX12_isLine_104 fl_X12_57 oX_100 rfl rfl rX_100_29 ?_
  refine m_iload_n dX12_isLine_107 rfl ?_
  refine m_iconst dX12_isLine_108 (by decide) ?_
  refine m_iadd dX12_isLine_109 (by omega) ?_
  refine m_iconst dX12_isLine_110 (by decide) ?_
  refine m_iast dX12_isLine_111 sX_114 (by omega) (by omega) ?_
  refine m_aload_n dX12_isLine_112 rfl ?_
  refine m_gr (z := 29) dX12_isLine_113 fl_X12_57 oX_100 rfl rfl rX_100_29 ?_
  refine m_iload_n dX12_isLine_116 rfl ?_
  refine m_iconst dX12_isLine_117 (by decide) ?_
  refine m_iadd dX12_isLine_118 (by omega) ?_
  refine m_iconst dX12_isLine_119 (by decide) ?_
  refine m_iast dX12_isLine_120 sX_114 (by omega) (by omega) ?_
  refine y_il_121 hf hn hT hp hd ha hv (FrWd_14 (FrWd_14 (FrWd_14 (FrWd_y hF)))) ?_ ?_ ?_ ?_ ?_ (fun j hj => ?_) h
  · rw [upI_o (by decide), upI_o (by decide), upI_o (by decide)]; exact m20
  · rw [upI_o (by decide), upI_o (by decide), upI_o (by decide)]; exact m21
  · rw [upI_j (by omega), upI_j (by omega), upI_s]
  · rw [upI_j (by omega), upI_s]
  · rw [upI_s]
  · rw [upI_j (by omega), upI_j (by omega), upI_j (by omega), hF.1 114 (by decide)]
theorem y_isLine {f : Int → Int} {n p : Int} (hf : I 113 = f) (hn : I 100 18 = n) (hT : TyI I) (h20 : I 100 20 = p) (hp : 0 ≤ p ∧ p ≤ n) {at_ : Int} (hd : 5 ≤ d) (ha : 0 ≤ at_ ∧ at_ + 2 < 30) : SI g d mX12_isLine [vr 100, vi at_] (shX nm no) (RX nm no) I (fun r J => (lnR f n p = -1 ∧ r = 1 ∧ FrWd I J ∧ J 100 20 = lnN f n p ∧ (J 114 at_ = soT f n p ∧ J 114 (at_ + 1) = lnA f n p ∧ J 114 (at_ + 2) = lnB f n p) ∧ ∀ j : Int, j < at_ → J 114 j = I 114 j) ∨ (lnR f n p ≠ -1 ∧ r = 0 ∧ FrWd I J ∧ J 100 25 = lnR f n p)) := by
  intro Q h
  refine C_of rfl (Nat.le_of_ble_eq_true rfl) rfl ?_
  refine m_aload_n dX12_isLine_0 rfl ?_
  refine m_VV [] dX12_isLine_1 lk_X12_260 rfl oX_100 rfl (Nat.le_of_ble_eq_true rfl) (by omega) (y_nextToken (by omega) hf hn hT h20 hp) ?_
  intro I1 q1
  obtain ⟨f1, p1, s1, v1⟩ := q1
  refine m_aload_n dX12_isLine_4 rfl ?_
  refine m_gl (z := 22) dX12_isLine_5 fl_X12_243 oX_100 rfl rfl ?_
  refine m_ldc2 (a := 355412) dX12_isLine_8 kc_X12_277 rfl ?_
  refine m_lcmp dX12_isLine_11 ?_
  refine m_if_ne (tgt := 19) dX12_isLine_12 (by decide) (fun c12 => ?_) (fun c12 => ?_)
  · have w12 : ¬ wdP f n p 0 := fun y => c12 (lc_eq.mpr ((tv_word (i := 0) (by decide) hp.2 v1).mpr y))
    refine m_aload_n dX12_isLine_19 rfl ?_
    refine m_gl (z := 22) dX12_isLine_20 fl_X12_243 oX_100 rfl rfl ?_
    refine m_ldc2 (a := 11716) dX12_isLine_23 kc_X12_279 rfl ?_
    refine m_lcmp dX12_isLine_26 ?_
    refine m_if_ne (tgt := 34) dX12_isLine_27 (by decide) (fun c27 => ?_) (fun c27 => ?_)
    · have w27 : ¬ wdP f n p 6 := fun y => c27 (lc_eq.mpr ((tv_word (i := 6) (by decide) hp.2 v1).mpr y))
      refine m_aload_n dX12_isLine_34 rfl ?_
      refine m_gl (z := 22) dX12_isLine_35 fl_X12_243 oX_100 rfl rfl ?_
      refine m_ldc2 (a := 6476969) dX12_isLine_38 kc_X12_281 rfl ?_
      refine m_lcmp dX12_isLine_41 ?_
      refine m_if_ne (tgt := 49) dX12_isLine_42 (by decide) (fun c42 => ?_) (fun c42 => ?_)
      · have w42 : ¬ wdP f n p 10 := fun y => c42 (lc_eq.mpr ((tv_word (i := 10) (by decide) hp.2 v1).mpr y))
        refine m_aload_n dX12_isLine_49 rfl ?_
        refine m_gl (z := 22) dX12_isLine_50 fl_X12_243 oX_100 rfl rfl ?_
        refine m_ldc2 (a := 7622660) dX12_isLine_53 kc_X12_283 rfl ?_
        refine m_lcmp dX12_isLine_56 ?_
        refine m_if_ne (tgt := 64) dX12_isLine_57 (by decide) (fun c57 => ?_) (fun c57 => ?_)
        · have w57 : ¬ wdP f n p 7 := fun y => c57 (lc_eq.mpr ((tv_word (i := 7) (by decide) hp.2 v1).mpr y))
          refine m_aload_n dX12_isLine_64 rfl ?_
          refine m_gl (z := 22) dX12_isLine_65 fl_X12_243 oX_100 rfl rfl ?_
          refine m_ldc2 (a := 261256151) dX12_isLine_68 kc_X12_285 rfl ?_
          refine m_lcmp dX12_isLine_71 ?_
          refine m_if_ne (tgt := 79) dX12_isLine_72 (by decide) (fun c72 => ?_) (fun c72 => ?_)
          · have w72 : ¬ wdP f n p 9 := fun y => c72 (lc_eq.mpr ((tv_word (i := 9) (by decide) hp.2 v1).mpr y))
            refine m_aload_n dX12_isLine_79 rfl ?_
            refine m_gl (z := 22) dX12_isLine_80 fl_X12_243 oX_100 rfl rfl ?_
            refine m_ldc2 (a := 40187) dX12_isLine_83 kc_X12_287 rfl ?_
            refine m_lcmp dX12_isLine_86 ?_
            refine m_if_ne (tgt := 94) dX12_isLine_87 (by decide) (fun c87 => ?_) (fun c87 => ?_)
            · have w87 : ¬ wdP f n p 11 := fun y => c87 (lc_eq.mpr ((tv_word (i := 11) (by decide) hp.2 v1).mpr y))
              refine m_iconst dX12_isLine_94 (by decide) ?_
              exact y_il_95 hf hn hT hp hd ha (so_n w12 w27 w42 w57 w72 w87).symm f1 p1 s1 h
            · have w87 : wdP f n p 11 := (tv_word (i := 11) (by decide) hp.2 v1).mp (lc_eq.mp c87)
              refine m_iconst dX12_isLine_90 (by decide) ?_
              refine m_goto (tgt := 95) dX12_isLine_91 (by decide) ?_
              exact y_il_95 hf hn hT hp hd ha (so_5 w87).symm f1 p1 s1 h
          · have w72 : wdP f n p 9 := (tv_word (i := 9) (by decide) hp.2 v1).mp (lc_eq.mp c72)
            refine m_iconst dX12_isLine_75 (by decide) ?_
            refine m_goto (tgt := 95) dX12_isLine_76 (by decide) ?_
            exact y_il_95 hf hn hT hp hd ha (so_4 w72).symm f1 p1 s1 h
        · have w57 : wdP f n p 7 := (tv_word (i := 7) (by decide) hp.2 v1).mp (lc_eq.mp c57)
          refine m_iconst dX12_isLine_60 (by decide) ?_
          refine m_goto (tgt := 95) dX12_isLine_61 (by decide) ?_
          exact y_il_95 hf hn hT hp hd ha (so_3 w57).symm f1 p1 s1 h
      · have w42 : wdP f n p 10 := (tv_word (i := 10) (by decide) hp.2 v1).mp (lc_eq.mp c42)
        refine m_iconst dX12_isLine_45 (by decide) ?_
        refine m_goto (tgt := 95) dX12_isLine_46 (by decide) ?_
        exact y_il_95 hf hn hT hp hd ha (so_2 w42).symm f1 p1 s1 h
    · have w27 : wdP f n p 6 := (tv_word (i := 6) (by decide) hp.2 v1).mp (lc_eq.mp c27)
      refine m_iconst dX12_isLine_30 (by decide) ?_
      refine m_goto (tgt := 95) dX12_isLine_31 (by decide) ?_
      exact y_il_95 hf hn hT hp hd ha (so_1 w27).symm f1 p1 s1 h
  · have w12 : wdP f n p 0 := (tv_word (i := 0) (by decide) hp.2 v1).mp (lc_eq.mp c12)
    refine m_iconst dX12_isLine_15 (by decide) ?_
    refine m_goto (tgt := 95) dX12_isLine_16 (by decide) ?_
    exact y_il_95 hf hn hT hp hd ha (so_0 w12).symm f1 p1 s1 h
def FrQ (I J : II) : Prop := (∀ x, x ≠ 100 → x ≠ 114 → J x = I x) ∧ ∀ j : Int, (j < 20 ∨ 25 < j) → j ≠ 28 → J 100 j = I 100 j
theorem FrQ_rf {I : II} : FrQ I I := ⟨fun _ _ _ => rfl, fun _ _ _ => rfl⟩
theorem FrQ_w {I J K : II} (h : FrQ I J) (h2 : FrWd J K) : FrQ I K := ⟨fun x a b => (h2.1 x a b).trans (h.1 x a b), fun j a b => (h2.2 j a).trans (h.2 j a b)⟩
theorem FrQ_up {I J : II} {i v : Int} (h : FrQ I J) (hi : i = 28 ∨ (20 ≤ i ∧ i ≤ 25)) : FrQ I (upI J 100 i v) := ⟨fun x a b => by rw [upI_o a]; exact h.1 x a b, fun j a b => by rw [upI_j (by omega)]; exact h.2 j a b⟩
def RDP (f : Int → Int) (n : Int) (I : II) (r : Int) (J : II) : Prop := FrQ I J ∧ ((r = 1 ∧ ∃ k, rdO f n k (-1) ∧ J 100 28 = (k : Int) + 1 ∧ ∀ x : Int, 0 ≤ x → x < 3 * ((k : Int) + 1) → J 114 x = lvF f n x) ∨ (r = 0 ∧ ∃ k, rdO f n k (J 100 25) ∧ J 100 25 ≠ -1))
theorem y_ir_12 {f : Int → Int} {n : Int} (hf : I 113 = f) (hn : I 100 18 = n) (hT : TyI I) (hd : 6 ≤ d) {Q : QT} (h : ∀ r J, RDP f n I r J → Q (some (vi r)) (shX nm no) (RX nm no) J) {k : Nat} {K : II} (hk : k ≤ 9) (hl : ∀ j, j < k → lnR f n (poF f n j) = -1 ∧ seP f n (lnN f n (poF f n j))) (hr : lnR f n (poF f n k) = -1) (hF : FrQ I K) (k21 : K 100 21 = tS f n (lnN f n (poF f n k))) (kt : tkV f n (lnN f n (poF f n k)) (K 100 22) (K 100 24)) (k28 : K 100 28 = (k : Int) + 1) (hv : ∀ x : Int, 0 ≤ x → x < 3 * ((k : Int) + 1) → K 114 x = lvF f n x) (hs : ¬ seP f n (lnN f n (poF f n k)) ∨ k = 9) : T g d mX12_isRead 0 0 12 [some (vr 100), some (vi 0)] [] (shX nm no) (RX nm no) K Q := by
  have hT1 := hT.1
  have hp := poF_bd (f := f) (show 0 ≤ n by omega) k
  have hN := lnN_bd (f := f) hp
  have hb := t_bd (f := f) hN.2
  have te := tv_end hN.2 kt
  refine m_iload_n dX12_isRead_12 rfl ?_
  refine m_if_eq (tgt := 74) dX12_isRead_13 (by decide) (fun c13 => ?_) (fun c13 => ?_)
  · refine m_aload_n dX12_isRead_74 rfl ?_
    refine m_gl (z := 22) dX12_isRead_75 fl_X12_243 oX_100 rfl rfl ?_
    refine m_ldc2 (a := -2) dX12_isRead_78 kc_X12_241 rfl ?_
    refine m_lcmp dX12_isRead_81 ?_
    refine m_if_eq (tgt := 92) dX12_isRead_82 (by decide) (fun c82 => ?_) (fun c82 => ?_)
    · have z82 := te.mp (lc_eq.mp c82)
      refine m_iconst dX12_isRead_92 (by decide) ?_
      refine m_goto (tgt := 97) dX12_isRead_93 (by decide) ?_
      refine m_zret dX12_isRead_97 rfl (by first | exact Or.inl rfl | exact Or.inr rfl) ?_
      exact h _ _ ⟨hF, Or.inl ⟨rfl, k, ⟨hk, hl, Or.inr (Or.inl ⟨hr, z82, rfl⟩)⟩, k28, hv⟩⟩
    · have z82 : ¬ _ := fun y => c82 (lc_eq.mpr (te.mpr y))
      refine m_aload_n dX12_isRead_85 rfl ?_
      refine m_Vi [] dX12_isRead_86 lk_X12_263 rfl oX_100 rfl (Nat.le_of_ble_eq_true rfl) (by omega) y_fails ?_
      refine m_if_eq (tgt := 96) dX12_isRead_89 (by decide) (fun c89 => ?_) (fun c89 => ?_)
      · refine m_iconst dX12_isRead_96 (by decide) ?_
        refine m_zret dX12_isRead_97 rfl (by first | exact Or.inl rfl | exact Or.inr rfl) ?_
        exact h _ _ ⟨FrQ_up hF (by decide), Or.inr ⟨rfl, k, ⟨hk, hl, Or.inr (Or.inr ⟨hr, z82, hs, upI_s.trans k21⟩)⟩, by rw [upI_s, k21]; omega⟩⟩
      · exact absurd rfl c89
  · exact absurd rfl c13
theorem y_ir_loop {f : Int → Int} {n : Int} (hf : I 113 = f) (hn : I 100 18 = n) (hT : TyI I) (hd : 6 ≤ d) {Q : QT} (h : ∀ r J, RDP f n I r J → Q (some (vi r)) (shX nm no) (RX nm no) J) :
    ∀ (m k : Nat) (K : II), 10 - k < m → k ≤ 9 → FrQ I K → K 100 20 = poF f n k → K 100 28 = k → (∀ x : Int, 0 ≤ x → x < 3 * (k : Int) → K 114 x = lvF f n x) → (∀ j, j < k → lnR f n (poF f n j) = -1 ∧ seP f n (lnN f n (poF f n j))) → T g d mX12_isRead 0 0 12 [some (vr 100), some (vi 1)] [] (shX nm no) (RX nm no) K Q := by
  have hT1 := hT.1
  intro m
  induction m with
  | zero => intro k K hm; omega
  | succ m ih =>
    intro k K hm hk hF h20 h28 hv hl
    have hp := poF_bd (f := f) (show 0 ≤ n by omega) k
    have hN := lnN_bd (f := f) hp
    have hb := t_bd (f := f) hN.2
    have kf : K 113 = f := (hF.1 113 (by decide) (by decide)).trans hf
    have kn : K 100 18 = n := (hF.2 18 (by decide) (by decide)).trans hn
    have kT : TyI K := by unfold TyI; rw [kf, kn, ← hf, ← hn]; exact hT
    refine m_iload_n dX12_isRead_12 rfl ?_
    refine m_if_eq (tgt := 74) dX12_isRead_13 (by decide) (fun c13 => ?_) (fun c13 => ?_)
    · exact absurd c13 (by decide)
    · refine m_aload_n dX12_isRead_16 rfl ?_
      refine m_iconst dX12_isRead_17 (by decide) ?_
      refine m_aload_n dX12_isRead_18 rfl ?_
      refine m_gi (z := 28) dX12_isRead_19 fl_X12_301 oX_100 rfl rfl ?_
      rw [h28]
      refine m_imul dX12_isRead_22 (by omega) ?_
      refine m_VI [_] dX12_isRead_23 lk_X12_304 rfl oX_100 rfl (Nat.le_of_ble_eq_true rfl) (by omega) (y_isLine (at_ := 3 * (k : Int)) kf kn kT h20 hp (by omega) (by omega)) ?_
      intro r23 I23 q23
      refine m_if_ne (tgt := 31) dX12_isRead_26 (by decide) (fun c26 => ?_) (fun c26 => ?_)
      · obtain ⟨l23, f23, p23, a23, w23⟩ : lnR f n (poF f n k) = -1 ∧ FrWd K I23 ∧ I23 100 20 = lnN f n (poF f n k) ∧ (I23 114 (3 * (k : Int)) = soT f n (poF f n k) ∧ I23 114 (3 * (k : Int) + 1) = lnA f n (poF f n k) ∧ I23 114 (3 * (k : Int) + 2) = lnB f n (poF f n k)) ∧ ∀ j : Int, j < 3 * (k : Int) → I23 114 j = K 114 j := (by rcases q23 with z | z; exact ⟨z.1, z.2.2⟩; exact absurd z.2.1 c26)
        refine m_aload_n dX12_isRead_31 rfl ?_
        refine m_dup dX12_isRead_32 (fun _ z => by cases z) ?_
        refine m_gi (z := 28) dX12_isRead_33 fl_X12_301 oX_100 rfl rfl ?_
        rw [f23.2 28 (by decide), h28]
        refine m_iconst dX12_isRead_36 (by decide) ?_
        refine m_iadd dX12_isRead_37 (by omega) ?_
        refine m_pi (z := 28) dX12_isRead_38 fl_X12_301 oX_100 rfl rfl rfl ?_
        refine m_aload_n dX12_isRead_41 rfl ?_
        refine m_VV [] dX12_isRead_42 lk_X12_260 rfl oX_100 rfl (Nat.le_of_ble_eq_true rfl) (by omega) (y_nextToken (p := lnN f n (poF f n k)) (by omega) ((upI_o (show (113 : Nat) ≠ 100 by decide)).trans (frW_f f23 kf)) ((upI_j (show (18 : Int) ≠ 28 by decide)).trans (frW_n f23 kn)) (show TyI (upI I23 100 28 ((k : Int) + 1)) by unfold TyI; rw [upI_o (show (113 : Nat) ≠ 100 by decide), upI_j (show (18 : Int) ≠ 28 by decide)]; exact TyI_fr kT f23) ((upI_j (show (20 : Int) ≠ 28 by decide)).trans p23) hN) ?_
        intro I42 q42
        have ts := tv_semi hN.2 q42.2.2.2
        have j28 : I42 100 28 = (k : Int) + 1 := by rw [q42.1.2 28 (by decide), upI_s]
        have j41 : FrQ I I42 := FrQ_w (FrQ_up (FrQ_w hF f23) (Or.inl rfl)) (FrWd_y q42.1)
        have jv : ∀ x : Int, 0 ≤ x → x < 3 * ((k : Int) + 1) → I42 114 x = lvF f n x := fun x x0 x1 => by
          rw [q42.1.1 114 (by decide), upI_o (by decide)]
          rcases (show x < 3 * (k : Int) ∨ x = 3 * (k : Int) ∨ x = 3 * (k : Int) + 1 ∨ x = 3 * (k : Int) + 2 by omega) with y | y | y | y
          · rw [w23 x y]; exact hv x x0 y
          · rw [y, lvF_0]; exact a23.1
          · rw [y, lvF_1]; exact a23.2.1
          · rw [y, lvF_2]; exact a23.2.2
        refine m_aload_n dX12_isRead_45 rfl ?_
        refine m_gl (z := 22) dX12_isRead_46 fl_X12_243 oX_100 rfl rfl ?_
        refine m_ldc2 (a := -3) dX12_isRead_49 kc_X12_255 rfl ?_
        refine m_lcmp dX12_isRead_52 ?_
        refine m_if_ne (tgt := 69) dX12_isRead_53 (by decide) (fun c53 => ?_) (fun c53 => ?_)
        · have z53 : ¬ _ := fun y => c53 (lc_eq.mpr y)
          refine m_iconst dX12_isRead_69 (by decide) ?_
          refine m_istore_n dX12_isRead_70 (by decide) rfl rfl ?_
          refine m_goto (tgt := 12) dX12_isRead_71 (by decide) ?_
          exact y_ir_12 hf hn hT hd h hk hl l23 j41 q42.2.2.1 q42.2.2.2 j28 jv (Or.inl fun y => z53 (ts.mpr y))
        · have z53 := lc_eq.mp c53
          refine m_aload_n dX12_isRead_56 rfl ?_
          refine m_gi (z := 28) dX12_isRead_57 fl_X12_301 oX_100 rfl rfl ?_
          rw [j28]
          refine m_bipush dX12_isRead_60 rfl (by decide) ?_
          refine m_icmp_ge (tgt := 69) dX12_isRead_62 (by decide) (fun c62 => ?_) (fun c62 => ?_)
          · refine m_iconst dX12_isRead_69 (by decide) ?_
            refine m_istore_n dX12_isRead_70 (by decide) rfl rfl ?_
            refine m_goto (tgt := 12) dX12_isRead_71 (by decide) ?_
            exact y_ir_12 hf hn hT hd h hk hl l23 j41 q42.2.2.1 q42.2.2.2 j28 jv (Or.inr (by omega))
          · refine m_iconst dX12_isRead_65 (by decide) ?_
            refine m_goto (tgt := 70) dX12_isRead_66 (by decide) ?_
            refine m_istore_n dX12_isRead_70 (by decide) rfl rfl ?_
            refine m_goto (tgt := 12) dX12_isRead_71 (by decide) ?_
            refine ih (k + 1) _ (by omega) (by omega) j41 q42.2.1 (by rw [j28]; omega) (fun x x0 x1 => jv x x0 (by omega)) (fun j hj => ?_)
            rcases (show j < k ∨ j = k by omega) with y | y
            · exact hl j y
            · rw [y]; exact ⟨l23, ts.mp z53⟩
      · obtain ⟨l23, f23, v23⟩ : lnR f n (poF f n k) ≠ -1 ∧ FrWd K I23 ∧ I23 100 25 = lnR f n (poF f n k) := (by rcases q23 with z | z; exact absurd z.2.1 (by omega); exact ⟨z.1, z.2.2⟩)
        refine m_iconst dX12_isRead_29 (by decide) ?_
        refine m_zret dX12_isRead_30 rfl (by omega) ?_
        exact h _ _ ⟨FrQ_w hF f23, Or.inr ⟨rfl, k, ⟨hk, hl, Or.inl ⟨l23, v23⟩⟩, by rw [v23]; exact l23⟩⟩
theorem y_isRead {f : Int → Int} {n : Int} (hf : I 113 = f) (hn : I 100 18 = n) (hT : TyI I) (hd : 6 ≤ d) : SI g d mX12_isRead [vr 100] (shX nm no) (RX nm no) I (RDP f n I) := by
  intro Q h
  refine C_of rfl (Nat.le_of_ble_eq_true rfl) rfl ?_
  refine m_aload_n dX12_isRead_0 rfl ?_
  refine m_iconst dX12_isRead_1 (by decide) ?_
  refine m_pi (z := 20) dX12_isRead_2 fl_X12_229 oX_100 rfl rfl rfl ?_
  refine m_aload_n dX12_isRead_5 rfl ?_
  refine m_iconst dX12_isRead_6 (by decide) ?_
  refine m_pi (z := 28) dX12_isRead_7 fl_X12_301 oX_100 rfl rfl rfl ?_
  refine m_iconst dX12_isRead_10 (by decide) ?_
  refine m_istore_n dX12_isRead_11 (by decide) rfl rfl ?_
  exact y_ir_loop hf hn hT hd h 11 0 _ (by omega) (by omega) (FrQ_up (FrQ_up FrQ_rf (by decide)) (by decide)) ((upI_j (by decide)).trans upI_s) upI_s (fun x x0 x1 => by omega) (fun j hj => absurd hj (Nat.not_lt_zero j))
theorem py_fault {f : Int → Int} {n : Int} (hf : I 113 = f) (hn : I 100 18 = n) (hT : TyI I) (hd : 7 ≤ d) : SI g d mX12_fault [vr 100] (shX nm no) (RX nm no) I (fun r J => FrQ I J ∧ ∃ k, rdO f n k r) := by
  intro Q h
  refine C_of rfl (Nat.le_of_ble_eq_true rfl) rfl ?_
  refine m_aload_n dX12_fault_0 rfl ?_
  refine m_VI [] dX12_fault_1 lk_X12_307 rfl oX_100 rfl (Nat.le_of_ble_eq_true rfl) (by omega) (y_isRead hf hn hT (by omega)) ?_
  intro r1 I1 q1
  refine m_if_eq (tgt := 11) dX12_fault_4 (by decide) (fun c4 => ?_) (fun c4 => ?_)
  · obtain ⟨f1, k1, z1⟩ : FrQ I I1 ∧ ∃ k, rdO f n k (I1 100 25) := (by rcases q1 with ⟨a, z | z⟩; exact absurd (z.1.symm.trans c4) (by decide); exact ⟨a, z.2.choose, z.2.choose_spec.1⟩)
    refine m_aload_n dX12_fault_11 rfl ?_
    refine m_gi (z := 25) dX12_fault_12 fl_X12_257 oX_100 rfl rfl ?_
    refine m_iret dX12_fault_15 rfl ?_
    exact h _ _ ⟨f1, k1, z1⟩
  · obtain ⟨f1, k1, z1⟩ : FrQ I I1 ∧ ∃ k, rdO f n k (-1) := (by rcases q1 with ⟨a, z | z⟩; exact ⟨a, z.2.choose, z.2.choose_spec.1⟩; exact absurd z.1 c4)
    refine m_iconst dX12_fault_7 (by decide) ?_
    refine m_goto (tgt := 15) dX12_fault_8 (by decide) ?_
    refine m_iret dX12_fault_15 rfl ?_
    exact h _ _ ⟨f1, k1, z1⟩
end
