/-! NEXT -/
/-- wire v begins a shortest way from o, by the costs s -/
def pBeg (A B K : Int → Int) (U : Int → Prop) (s : Int → Int) (o v : Int) : Prop := U v ∧ ((A v = o ∧ s (B v) + K v = s o) ∨ (B v = o ∧ s (A v) + K v = s o))
def isNx (W : Int) (A B K : Int → Int) (U : Int → Prop) (to o v : Int) : Prop := ∃ s, pSol W A B K U to s ∧ ((s o = 1000000 ∧ v = -1) ∨ (s o < 1000000 ∧ (0 ≤ v ∧ v < W) ∧ pBeg A B K U s o v ∧ ∀ w, 0 ≤ w → w < v → ¬ pBeg A B K U s o w))
theorem nx_uniq {W : Int} {A B K : Int → Int} {U : Int → Prop} {to o v v2 : Int} (hO : pOK W A B K U) (ht : 0 ≤ to ∧ to < 8) (ho : 0 ≤ o ∧ o < 8) (h : isNx W A B K U to o v) (h2 : isNx W A B K U to o v2) : v = v2 := by
  obtain ⟨s, hs, hv⟩ := h
  obtain ⟨s2, hs2, hv2⟩ := h2
  have e := p_uniq hO hs hs2 ht
  have eo := e o ho.1 ho.2
  have hb : ∀ w, 0 ≤ w → w < W → (pBeg A B K U s o w ↔ pBeg A B K U s2 o w) := fun w h0 h1 => by
    unfold pBeg
    by_cases hu : U w
    · obtain ⟨a, b, -⟩ := hO w ⟨h0, h1, hu⟩
      rw [e _ a.1 a.2, e _ b.1 b.2, eo]
    · exact ⟨fun z => absurd z.1 hu, fun z => absurd z.1 hu⟩
  rcases hv with ⟨a1, a2⟩ | ⟨a1, a2, a3, a4⟩ <;> rcases hv2 with ⟨b1, b2⟩ | ⟨b1, b2, b3, b4⟩
  · omega
  · omega
  · omega
  · rcases (show v < v2 ∨ v = v2 ∨ v2 < v by omega) with z | z | z
    · exact absurd ((hb v a2.1 a2.2).mp a3) (b4 v a2.1 z)
    · exact z
    · exact absurd ((hb v2 b2.1 b2.2).mpr b3) (a4 v2 b2.1 z)
/-- a shortest way that there is begins somewhere -/
theorem nx_some {W : Int} {A B K : Int → Int} {U : Int → Prop} {to o : Int} (hO : pOK W A B K U) (ho : 0 ≤ o ∧ o < 8) (hne : o ≠ to) {s : Int → Int} (hs : pSol W A B K U to s) (hlt : s o < 1000000) : ∃ w, (0 ≤ w ∧ w < W) ∧ pBeg A B K U s o w := by
  obtain ⟨w, hw, z⟩ := hs.1.2.2 o ho.1 ho.2 hne hlt
  have f := hs.2 w hw
  refine ⟨w, ⟨hw.1, hw.2.1⟩, hw.2.2, ?_⟩
  rcases z with ⟨z1, z2⟩ | ⟨z1, z2⟩
  · rw [z1] at f
    exact Or.inl ⟨z1, by omega⟩
  · rw [z1] at f
    exact Or.inr ⟨z1, by omega⟩
section
variable {g : GH} {d nm no : Nat} {I : II}
theorem x_towards_loop {J : II} {o to n by_ : Int} {Q : QT} (hd : 2 ≤ d) (hN : NetI I) (hn : 1 ≤ n ∧ n ≤ 1000) (hb : 0 ≤ by_) (ht : 0 ≤ to ∧ to < 8) (ho : 0 ≤ o ∧ o < 8) (hne : o ≠ to) (he : ∀ x, x ≠ 36 → J x = I x) (hs : pSol (I 21 9) (I 24) (I 25) (Kt I n) (fun v => bt by_ v) to (J 36)) (hlt : J 36 o < 1000000)
    (h : ∀ r, isNx (I 21 9) (I 24) (I 25) (Kt I n) (fun v => bt by_ v) to o r → Q (some (vi r)) (shX nm no) (RX nm no) J) :
    ∀ (m : Nat) (v : Int) (lv : Option AV), (I 21 9 - v).toNat < m → 0 ≤ v → v ≤ I 21 9 → (∀ w, 0 ≤ w → w < v → ¬ pBeg (I 24) (I 25) (Kt I n) (fun v => bt by_ v) (J 36) o w) → T g d mX4_wireTowards 0 0 24 [some (vr 21), some (vi o), some (vi to), some (vi n), some (vi by_), some (vi v), lv] [] (shX nm no) (RX nm no) J Q := by
  have hw := hN.1
  have hO := netOK hN hn.1 (U := fun v => bt by_ v)
  have hNJ := netI_of hN he
  have eW : J 21 9 = I 21 9 := by rw [he 21 (by decide)]
  have eA : J 24 = I 24 := he 24 (by decide)
  have eB : J 25 = I 25 := he 25 (by decide)
  have eK : Kt J n = Kt I n := kt_of he
  intro m
  induction m with
  | zero => intro v lv hm; omega
  | succ m ih =>
    intro v lv hm h0 h1 hv
    refine m_iload dX4_wireTowards_24 rfl ?_
    refine m_aload_n dX4_wireTowards_26 rfl ?_
    refine m_gi (z := 9) dX4_wireTowards_27 fl_X4_52 oX_21 rfl rfl ?_
    refine m_icmp_ge (tgt := 91) dX4_wireTowards_30 (by decide) (fun c30 => ?_) (fun c30 => ?_)
    · exfalso
      obtain ⟨u, u0, u1⟩ := nx_some hO ho hne hs hlt
      exact hv u u0.1 (by omega) u1
      skip
      skip
    · refine m_aload_n dX4_wireTowards_33 rfl ?_
      refine m_iload dX4_wireTowards_34 rfl ?_
      refine m_iload_n dX4_wireTowards_36 rfl ?_
      refine m_Vi [_, _] dX4_wireTowards_37 lk_X4_56 rfl oX_21 rfl (Nat.le_of_ble_eq_true rfl) (by omega) (x_otherEnd (by omega) (by omega)) ?_
      rw [eA, eB]
      have hk := hN.2.1 v h0 (by omega)
      generalize hoe : (if I 24 v = o then I 25 v else if I 25 v = o then I 24 v else -1) = oe
      refine m_istore dX4_wireTowards_40 (by decide) rfl rfl ?_
      refine m_iload dX4_wireTowards_42 rfl ?_
      refine m_iconst dX4_wireTowards_44 (by decide) ?_
      refine m_icmp_eq (tgt := 85) dX4_wireTowards_45 (by decide) (fun c45 => ?_) (fun c45 => ?_)
      · have HN : ¬ pBeg (I 24) (I 25) (Kt I n) (fun v => bt by_ v) (J 36) o v := fun z => by
          rcases z.2 with ⟨y, -⟩ | ⟨y, -⟩
          · rw [if_pos y] at hoe; omega
          · rw [if_neg (by omega), if_pos y] at hoe; omega
        refine m_iinc dX4_wireTowards_85 rfl (by decide) rfl rfl (by omega) ?_
        refine m_goto (tgt := 24) dX4_wireTowards_88 (by decide) ?_
        have hv2 : ∀ w, 0 ≤ w → w < v + 1 → ¬ pBeg (I 24) (I 25) (Kt I n) (fun v => bt by_ v) (J 36) o w := fun w w0 w1 => by
          rcases (show w < v ∨ w = v by omega) with z | z
          · exact hv w w0 z
          · rw [z]; exact HN
        exact ih (v + 1) _ (by omega) (by omega) (by omega) hv2
      · refine m_iload dX4_wireTowards_48 rfl ?_
        refine m_iload dX4_wireTowards_50 rfl ?_
        refine m_Ni [_, _] dX4_wireTowards_52 lk_X4_77 rfl rfl (Nat.le_of_ble_eq_true rfl) (by omega) (x_isIn hb h0 (by omega)) ?_
        refine m_if_eq (tgt := 85) dX4_wireTowards_55 (by decide) (fun c55 => ?_) (fun c55 => ?_)
        · have HN : ¬ pBeg (I 24) (I 25) (Kt I n) (fun v => bt by_ v) (J 36) o v := fun z => bI_eq0 c55 z.1
          refine m_iinc dX4_wireTowards_85 rfl (by decide) rfl rfl (by omega) ?_
          refine m_goto (tgt := 24) dX4_wireTowards_88 (by decide) ?_
          have hv2 : ∀ w, 0 ≤ w → w < v + 1 → ¬ pBeg (I 24) (I 25) (Kt I n) (fun v => bt by_ v) (J 36) o w := fun w w0 w1 => by
            rcases (show w < v ∨ w = v by omega) with z | z
            · exact hv w w0 z
            · rw [z]; exact HN
          exact ih (v + 1) _ (by omega) (by omega) (by omega) hv2
        · have z1 := bI_ne0 c55
          refine m_aload_n dX4_wireTowards_58 rfl ?_
          refine m_gr (z := 8) dX4_wireTowards_59 fl_X4_43 oX_21 rfl rfl rX_21_8 ?_
          have hoe2 : (I 24 v = o ∧ I 25 v = oe) ∨ (I 25 v = o ∧ I 24 v = oe) := by
            rw [← hoe]
            split
            · exact Or.inl ⟨by assumption, rfl⟩
            · split
              · exact Or.inr ⟨by assumption, rfl⟩
              · rename_i q1 q2
                rw [if_neg q1, if_neg q2] at hoe
                omega
          have roe := hs.1.2.1 oe (by omega) (by omega)
          have tk := tk_bd hn.1 hk.2.2.2.1.1
          refine m_iload dX4_wireTowards_62 rfl ?_
          refine m_iald dX4_wireTowards_64 sX_36 (by omega) (by omega) ?_
          refine m_aload_n dX4_wireTowards_65 rfl ?_
          refine m_iload dX4_wireTowards_66 rfl ?_
          refine m_iload_n dX4_wireTowards_68 rfl ?_
          refine m_Vi [_, _] dX4_wireTowards_69 lk_X4_80 rfl oX_21 rfl (Nat.le_of_ble_eq_true rfl) (by omega) (x_taken h0 (by omega) hNJ hn) ?_
          rw [eK]
          refine m_iadd dX4_wireTowards_72 (by show R32 (J 36 oe + (n + I 26 v - 1) / I 26 v); omega) ?_
          refine m_aload_n dX4_wireTowards_73 rfl ?_
          refine m_gr (z := 8) dX4_wireTowards_74 fl_X4_43 oX_21 rfl rfl rX_21_8 ?_
          refine m_iload_n dX4_wireTowards_77 rfl ?_
          refine m_iald dX4_wireTowards_78 sX_36 (by omega) (by omega) ?_
          refine m_icmp_ne (tgt := 85) dX4_wireTowards_79 (by decide) (fun c79 => ?_) (fun c79 => ?_)
          · have HN : ¬ pBeg (I 24) (I 25) (Kt I n) (fun v => bt by_ v) (J 36) o v := fun z => by
              rcases z.2 with ⟨y, y2⟩ | ⟨y, y2⟩
              · rcases hoe2 with ⟨x1, x2⟩ | ⟨x1, x2⟩
                · rw [x2] at y2; exact c79 y2
                · omega
              · rcases hoe2 with ⟨x1, x2⟩ | ⟨x1, x2⟩
                · omega
                · rw [x2] at y2; exact c79 y2
            refine m_iinc dX4_wireTowards_85 rfl (by decide) rfl rfl (by omega) ?_
            refine m_goto (tgt := 24) dX4_wireTowards_88 (by decide) ?_
            have hv2 : ∀ w, 0 ≤ w → w < v + 1 → ¬ pBeg (I 24) (I 25) (Kt I n) (fun v => bt by_ v) (J 36) o w := fun w w0 w1 => by
              rcases (show w < v ∨ w = v by omega) with z | z
              · exact hv w w0 z
              · rw [z]; exact HN
            exact ih (v + 1) _ (by omega) (by omega) (by omega) hv2
          · have HY : pBeg (I 24) (I 25) (Kt I n) (fun v => bt by_ v) (J 36) o v := ⟨z1, by
              rcases hoe2 with ⟨x1, x2⟩ | ⟨x1, x2⟩
              · exact Or.inl ⟨x1, by rw [x2]; exact c79⟩
              · exact Or.inr ⟨x1, by rw [x2]; exact c79⟩⟩
            refine m_iload dX4_wireTowards_82 rfl ?_
            refine m_iret dX4_wireTowards_84 rfl ?_
            exact h _ ⟨J 36, hs, Or.inr ⟨hlt, ⟨h0, by omega⟩, HY, hv⟩⟩
/-- wireTowards: NEXT -/
theorem x_wireTowards {o to n by_ : Int} (hd : 3 ≤ d) (hN : NetI I) (hn : 1 ≤ n ∧ n ≤ 1000) (hb : 0 ≤ by_) (ht : 0 ≤ to ∧ to < 8) (ho : 0 ≤ o ∧ o < 8) (hne : o ≠ to) : SI g d mX4_wireTowards [vr 21, vi o, vi to, vi n, vi by_] (shX nm no) (RX nm no) I (fun r I' => (∀ x, x ≠ 36 → I' x = I x) ∧ isNx (I 21 9) (I 24) (I 25) (Kt I n) (fun v => bt by_ v) to o r) := by
  intro Q h
  refine C_of rfl (Nat.le_of_ble_eq_true rfl) rfl ?_
  refine m_aload_n dX4_wireTowards_0 rfl ?_
  refine m_iload_n dX4_wireTowards_1 rfl ?_
  refine m_iload_n dX4_wireTowards_2 rfl ?_
  refine m_iload dX4_wireTowards_3 rfl ?_
  refine m_VV [_, _, _] dX4_wireTowards_5 lk_X4_86 rfl oX_21 rfl (Nat.le_of_ble_eq_true rfl) (by omega) (x_measureTo (by omega) hN hn hb ht) ?_
  intro I5 q5
  obtain ⟨he, hs⟩ := q5
  have hb3 := hs.1.2.1 o ho.1 ho.2
  refine m_aload_n dX4_wireTowards_8 rfl ?_
  refine m_gr (z := 8) dX4_wireTowards_9 fl_X4_43 oX_21 rfl rfl rX_21_8 ?_
  refine m_iload_n dX4_wireTowards_12 rfl ?_
  refine m_iald dX4_wireTowards_13 sX_36 (by omega) (by omega) ?_
  refine m_ldc (a := 1000000) dX4_wireTowards_14 kc_X4_76 rfl ?_
  refine m_icmp_ne (tgt := 21) dX4_wireTowards_16 (by decide) (fun c16 => ?_) (fun c16 => ?_)
  · refine m_iconst dX4_wireTowards_21 (by decide) ?_
    refine m_istore dX4_wireTowards_22 (by decide) rfl rfl ?_
    exact x_towards_loop (by omega) hN hn hb ht ho hne he hs (by omega) (fun r hr => h r I5 ⟨he, hr⟩) ((I 21 9).toNat + 1) 0 none (by omega) (by omega) hN.1.1 (fun w w0 w1 => by omega)
  · refine m_iconst dX4_wireTowards_19 (by decide) ?_
    refine m_iret dX4_wireTowards_20 rfl ?_
    exact h _ _ ⟨he, I5 36, hs, Or.inl ⟨by omega, rfl⟩⟩
end
