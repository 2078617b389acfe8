/-! REFERENCE: fewest -/
section
variable {g : GH} {d nm no : Nat} {I : II}
def okM (I : II) (a b c : Int) : Prop := msD (I 129) (I 100 46) a b c 3 ≤ I 100 47
def FwI (ok : Int → Int → Int → Prop) (K best least : Int) : Prop := (best = -1 ∧ ∀ a b c, rg a → rg b → rg c → 256 * a + 16 * b + c < K → ¬ ok a b c) ∨ ((0 ≤ best ∧ best < 4096) ∧ least ≠ 46 ∧ BpI ok K least (best / 256) (best / 16 % 16) (best % 16))
theorem fw_no {ok : Int → Int → Int → Prop} {K best least : Int} (h : FwI ok K best least) (hn : ∀ a b c, rg a → rg b → rg c → 256 * a + 16 * b + c = K → ok a b c → best ≠ -1 ∧ least ≤ a + b + c) : FwI ok (K + 1) best least := by
  rcases h with h | h
  · refine Or.inl ⟨h.1, fun a b c ra rb rc hlt ho => ?_⟩
    rcases (show 256 * a + 16 * b + c < K ∨ 256 * a + 16 * b + c = K by omega) with z | z
    · exact h.2 a b c ra rb rc z ho
    · exact (hn a b c ra rb rc z ho).1 h.1
  · exact Or.inr ⟨h.1, h.2.1, BpI_skip h.2.2 (fun a b c ra rb rc h1 h2 ho => (hn a b c ra rb rc (by omega) ho).2)⟩
theorem fw_yes {ok : Int → Int → Int → Prop} {a b c best least : Int} (ra : rg a) (rb : rg b) (rc : rg c) (h : FwI ok (256 * a + 16 * b + c) best least) (ho : ok a b c) (hl : best = -1 ∨ a + b + c < least) : FwI ok (256 * a + 16 * b + c + 1) (256 * a + 16 * b + c) (a + b + c) := by
  have r1 := ra; have r2 := rb; have r3 := rc
  unfold rg at r1 r2 r3
  have e1 : (256 * a + 16 * b + c) / 256 = a := by omega
  have e2 : (256 * a + 16 * b + c) / 16 % 16 = b := by omega
  have e3 : (256 * a + 16 * b + c) % 16 = c := by omega
  refine Or.inr ⟨by omega, by omega, ?_⟩
  rw [e1, e2, e3, show 256 * a + 16 * b + c + 1 = 256 * a + 16 * b + (c + 1) by omega]
  rcases h with h | h
  · exact BpI_take (t := 46) (c0 := 0) (c1 := 0) (c2 := 0) ⟨by omega, fun a b c ra rb rc h1 h2 => absurd h2 (h.2 a b c ra rb rc h1), Or.inl rfl⟩ ra rb rc ho (by omega)
  · exact BpI_take h.2.2 ra rb rc ho (hl.resolve_left (by omega))
theorem BpI_uniq {ok : Int → Int → Int → Prop} {t c0 c1 c2 t' e0 e1 e2 : Int} (h : BpI ok 4096 t c0 c1 c2) (h' : BpI ok 4096 t' e0 e1 e2) (ht : t ≠ 46) (ht' : t' ≠ 46) : t = t' ∧ c0 = e0 ∧ c1 = e1 ∧ c2 = e2 := by
  obtain ⟨_, h2, h3⟩ := h
  obtain ⟨_, k2, k3⟩ := h'
  obtain ⟨r0, r1, r2, ho, hs, hf⟩ := h3.resolve_left ht
  obtain ⟨q0, q1, q2, ko, ks, kf⟩ := k3.resolve_left ht'
  have u0 := r0; have u1 := r1; have u2 := r2; have v0 := q0; have v1 := q1; have v2 := q2
  unfold rg at u0 u1 u2 v0 v1 v2
  have a1 := h2 e0 e1 e2 q0 q1 q2 (by omega) ko
  have a2 := k2 c0 c1 c2 r0 r1 r2 (by omega) ho
  have ht2 : t = t' := by omega
  have n1 : ¬ (256 * e0 + 16 * e1 + e2 < 256 * c0 + 16 * c1 + c2) := fun z => by have := hf e0 e1 e2 q0 q1 q2 z ko; omega
  have n2 : ¬ (256 * c0 + 16 * c1 + c2 < 256 * e0 + 16 * e1 + e2) := fun z => by have := kf c0 c1 c2 r0 r1 r2 z ho; omega
  exact ⟨ht2, rg3 r0 r1 r2 q0 q1 q2 (by omega)⟩
theorem y_few_loop {k : Int} {Q : QT} (hd : 1 ≤ d) (hI : ShM I) (h : ∀ b l, FwI (okM I) 4096 b l → Q (some (vi (if b = -1 then -1 else if k = 0 then l else if k = 1 then b / 256 else if k = 2 then b / 16 % 16 else b % 16))) (shX nm no) (RX nm no) I) : ∀ (n : Nat) (i b l : Int) (l5 l6 l7 : Option AV), (4096 - i).toNat < n → 0 ≤ i → i ≤ 4096 → FwI (okM I) i b l → (-1 ≤ b ∧ b < 4096 ∧ 0 ≤ l ∧ l ≤ 46) → T g d mX12_fewest 0 0 19 [some (vr 100), some (vi k), some (vi b), some (vi l), some (vi i), l5, l6, l7] [] (shX nm no) (RX nm no) I Q := by
  intro n
  induction n with
  | zero => intro i b l l5 l6 l7 hk; omega
  | succ n ih =>
    intro i b l l5 l6 l7 hk h0 h1 hF hl
    refine m_iload dX12_fewest_19 rfl ?_
    refine m_sipush dX12_fewest_21 rfl (by decide) ?_
    refine m_icmp_ge (tgt := 104) dX12_fewest_24 (by decide) (fun c24 => ?_) (fun c24 => ?_)
    · have ei : i = 4096 := by omega
      subst ei
      replace h := h b l hF
      refine m_iload_n dX12_fewest_104 rfl ?_
      refine m_iconst dX12_fewest_105 (by decide) ?_
      refine m_ticmp_ne (tgt := 113) (M := 153) dX12_fewest_106 (by decide) (fun c106 hM106 => by
          refine m_iload_n dX12_fewest_113 rfl ?_
          refine m_tif_ne (tgt := 121) (M := 153) dX12_fewest_114 (by decide) (fun c114 hM114 => by
              refine m_iload_n dX12_fewest_121 rfl ?_
              refine m_iconst dX12_fewest_122 (by decide) ?_
              refine m_ticmp_ne (tgt := 134) (M := 153) dX12_fewest_123 (by decide) (fun c123 hM123 => by
                  refine m_iload_n dX12_fewest_134 rfl ?_
                  refine m_iconst dX12_fewest_135 (by decide) ?_
                  refine m_ticmp_ne (tgt := 149) (M := 153) dX12_fewest_136 (by decide) (fun c136 hM136 => by
                      refine m_iload_n dX12_fewest_149 rfl ?_
                      refine m_bipush dX12_fewest_150 rfl (by decide) ?_
                      refine m_irem dX12_fewest_152 (by omega) (by omega) ?_
                      exact hM136
                    ) (fun c136 hM136 => by
                      refine m_iload_n dX12_fewest_139 rfl ?_
                      refine m_bipush dX12_fewest_140 rfl (by decide) ?_
                      refine m_idiv dX12_fewest_142 (by omega) (by omega) ?_
                      refine m_bipush dX12_fewest_143 rfl (by decide) ?_
                      refine m_irem dX12_fewest_145 (by omega) (by omega) ?_
                      refine m_goto (tgt := 153) dX12_fewest_146 (by decide) ?_
                      exact hM136
                    ) ?_
                  exact hM123
                ) (fun c123 hM123 => by
                  refine m_iload_n dX12_fewest_126 rfl ?_
                  refine m_sipush dX12_fewest_127 rfl (by decide) ?_
                  refine m_idiv dX12_fewest_130 (by omega) (by omega) ?_
                  refine m_goto (tgt := 153) dX12_fewest_131 (by decide) ?_
                  exact hM123
                ) ?_
              exact hM114
            ) (fun c114 hM114 => by
              refine m_iload_n dX12_fewest_117 rfl ?_
              refine m_goto (tgt := 153) dX12_fewest_118 (by decide) ?_
              exact hM114
            ) ?_
          exact hM106
        ) (fun c106 hM106 => by
          refine m_iconst dX12_fewest_109 (by decide) ?_
          refine m_goto (tgt := 153) dX12_fewest_110 (by decide) ?_
          exact hM106
        ) ?_
      refine m_top (if b = -1 then -1 else if k = 0 then l else if k = 1 then b / 256 else if k = 2 then b / 16 % 16 else b % 16) (by (repeat' split) <;> first | rfl | omega) ?_
      refine m_iret dX12_fewest_153 rfl ?_
      exact h
    · have ra : rg (i / 256) := by unfold rg; omega
      have rb : rg (i / 16 % 16) := by unfold rg; omega
      have rc : rg (i % 16) := by unfold rg; omega
      have ra' := ra
      have rb' := rb
      have rc' := rc
      unfold rg at ra' rb' rc'
      have ei : 256 * (i / 256) + 16 * (i / 16 % 16) + i % 16 = i := by omega
      refine m_iload dX12_fewest_27 rfl ?_
      refine m_sipush dX12_fewest_29 rfl (by decide) ?_
      refine m_idiv dX12_fewest_32 (by omega) (by omega) ?_
      refine m_istore dX12_fewest_33 (by decide) rfl rfl ?_
      refine m_iload dX12_fewest_35 rfl ?_
      refine m_bipush dX12_fewest_37 rfl (by decide) ?_
      refine m_idiv dX12_fewest_39 (by omega) (by omega) ?_
      refine m_bipush dX12_fewest_40 rfl (by decide) ?_
      refine m_irem dX12_fewest_42 (by omega) (by omega) ?_
      refine m_istore dX12_fewest_43 (by decide) rfl rfl ?_
      refine m_iload dX12_fewest_45 rfl ?_
      refine m_bipush dX12_fewest_47 rfl (by decide) ?_
      refine m_irem dX12_fewest_49 (by omega) (by omega) ?_
      refine m_istore dX12_fewest_50 (by decide) rfl rfl ?_
      refine m_iload_n dX12_fewest_52 rfl ?_
      refine m_iconst dX12_fewest_53 (by decide) ?_
      refine m_icmp_eq (tgt := 69) dX12_fewest_54 (by decide) (fun c54 => ?_) (fun c54 => ?_)
      · refine m_aload_n dX12_fewest_69 rfl ?_
        refine m_iload dX12_fewest_70 rfl ?_
        refine m_iload dX12_fewest_72 rfl ?_
        refine m_iload dX12_fewest_74 rfl ?_
        refine m_Vi [_, _, _] dX12_fewest_76 lk_X12_352 rfl oX_100 rfl (Nat.le_of_ble_eq_true rfl) (by omega) (y_mostWaits hI ra' rb' rc') ?_
        refine m_aload_n dX12_fewest_79 rfl ?_
        refine m_gi (z := 47) dX12_fewest_80 fl_X12_349 oX_100 rfl rfl ?_
        refine m_icmp_gt (tgt := 98) dX12_fewest_83 (by decide) (fun c83 => ?_) (fun c83 => ?_)
        · refine m_iinc dX12_fewest_98 rfl (by decide) rfl rfl (by omega) ?_
          refine m_goto (tgt := 19) dX12_fewest_101 (by decide) ?_
          first
          | (have z := fw_yes ra rb rc (by rw [ei]; exact hF) hok (Or.inl c54); rw [ei] at z; exact ih (i + 1) _ _ _ _ _ (by omega) (by omega) (by omega) z (by omega))
          | (have z := fw_yes ra rb rc (by rw [ei]; exact hF) hok (Or.inr (by omega)); rw [ei] at z; exact ih (i + 1) _ _ _ _ _ (by omega) (by omega) (by omega) z (by omega))
          | (refine ih (i + 1) b l _ _ _ (by omega) (by omega) (by omega) (fw_no hF (fun a2 b2 c2 ra2 rb2 rc2 z2 ho => ?_)) hl
             obtain ⟨x1, x2, x3⟩ := rg3 ra2 rb2 rc2 ra rb rc (by rw [ei]; exact z2)
             subst x1; subst x2; subst x3
             first
             | exact ⟨c54, by omega⟩
             | (unfold okM at ho; omega))
        · have hok : okM I (i / 256) (i / 16 % 16) (i % 16) := by unfold okM; omega
          refine m_iload dX12_fewest_86 rfl ?_
          refine m_istore_n dX12_fewest_88 (by decide) rfl rfl ?_
          refine m_iload dX12_fewest_89 rfl ?_
          refine m_iload dX12_fewest_91 rfl ?_
          refine m_iadd dX12_fewest_93 (by omega) ?_
          refine m_iload dX12_fewest_94 rfl ?_
          refine m_iadd dX12_fewest_96 (by omega) ?_
          refine m_istore_n dX12_fewest_97 (by decide) rfl rfl ?_
          refine m_iinc dX12_fewest_98 rfl (by decide) rfl rfl (by omega) ?_
          refine m_goto (tgt := 19) dX12_fewest_101 (by decide) ?_
          first
          | (have z := fw_yes ra rb rc (by rw [ei]; exact hF) hok (Or.inl c54); rw [ei] at z; exact ih (i + 1) _ _ _ _ _ (by omega) (by omega) (by omega) z (by omega))
          | (have z := fw_yes ra rb rc (by rw [ei]; exact hF) hok (Or.inr (by omega)); rw [ei] at z; exact ih (i + 1) _ _ _ _ _ (by omega) (by omega) (by omega) z (by omega))
          | (refine ih (i + 1) b l _ _ _ (by omega) (by omega) (by omega) (fw_no hF (fun a2 b2 c2 ra2 rb2 rc2 z2 ho => ?_)) hl
             obtain ⟨x1, x2, x3⟩ := rg3 ra2 rb2 rc2 ra rb rc (by rw [ei]; exact z2)
             subst x1; subst x2; subst x3
             first
             | exact ⟨c54, by omega⟩
             | (unfold okM at ho; omega))
      · refine m_iload dX12_fewest_57 rfl ?_
        refine m_iload dX12_fewest_59 rfl ?_
        refine m_iadd dX12_fewest_61 (by omega) ?_
        refine m_iload dX12_fewest_62 rfl ?_
        refine m_iadd dX12_fewest_64 (by omega) ?_
        refine m_iload_n dX12_fewest_65 rfl ?_
        refine m_icmp_ge (tgt := 98) dX12_fewest_66 (by decide) (fun c66 => ?_) (fun c66 => ?_)
        · refine m_iinc dX12_fewest_98 rfl (by decide) rfl rfl (by omega) ?_
          refine m_goto (tgt := 19) dX12_fewest_101 (by decide) ?_
          first
          | (have z := fw_yes ra rb rc (by rw [ei]; exact hF) hok (Or.inl c54); rw [ei] at z; exact ih (i + 1) _ _ _ _ _ (by omega) (by omega) (by omega) z (by omega))
          | (have z := fw_yes ra rb rc (by rw [ei]; exact hF) hok (Or.inr (by omega)); rw [ei] at z; exact ih (i + 1) _ _ _ _ _ (by omega) (by omega) (by omega) z (by omega))
          | (refine ih (i + 1) b l _ _ _ (by omega) (by omega) (by omega) (fw_no hF (fun a2 b2 c2 ra2 rb2 rc2 z2 ho => ?_)) hl
             obtain ⟨x1, x2, x3⟩ := rg3 ra2 rb2 rc2 ra rb rc (by rw [ei]; exact z2)
             subst x1; subst x2; subst x3
             first
             | exact ⟨c54, by omega⟩
             | (unfold okM at ho; omega))
        · refine m_aload_n dX12_fewest_69 rfl ?_
          refine m_iload dX12_fewest_70 rfl ?_
          refine m_iload dX12_fewest_72 rfl ?_
          refine m_iload dX12_fewest_74 rfl ?_
          refine m_Vi [_, _, _] dX12_fewest_76 lk_X12_352 rfl oX_100 rfl (Nat.le_of_ble_eq_true rfl) (by omega) (y_mostWaits hI ra' rb' rc') ?_
          refine m_aload_n dX12_fewest_79 rfl ?_
          refine m_gi (z := 47) dX12_fewest_80 fl_X12_349 oX_100 rfl rfl ?_
          refine m_icmp_gt (tgt := 98) dX12_fewest_83 (by decide) (fun c83 => ?_) (fun c83 => ?_)
          · refine m_iinc dX12_fewest_98 rfl (by decide) rfl rfl (by omega) ?_
            refine m_goto (tgt := 19) dX12_fewest_101 (by decide) ?_
            first
            | (have z := fw_yes ra rb rc (by rw [ei]; exact hF) hok (Or.inl c54); rw [ei] at z; exact ih (i + 1) _ _ _ _ _ (by omega) (by omega) (by omega) z (by omega))
            | (have z := fw_yes ra rb rc (by rw [ei]; exact hF) hok (Or.inr (by omega)); rw [ei] at z; exact ih (i + 1) _ _ _ _ _ (by omega) (by omega) (by omega) z (by omega))
            | (refine ih (i + 1) b l _ _ _ (by omega) (by omega) (by omega) (fw_no hF (fun a2 b2 c2 ra2 rb2 rc2 z2 ho => ?_)) hl
               obtain ⟨x1, x2, x3⟩ := rg3 ra2 rb2 rc2 ra rb rc (by rw [ei]; exact z2)
               subst x1; subst x2; subst x3
               first
               | exact ⟨c54, by omega⟩
               | (unfold okM at ho; omega))
          · have hok : okM I (i / 256) (i / 16 % 16) (i % 16) := by unfold okM; omega
            refine m_iload dX12_fewest_86 rfl ?_
            refine m_istore_n dX12_fewest_88 (by decide) rfl rfl ?_
            refine m_iload dX12_fewest_89 rfl ?_
            refine m_iload dX12_fewest_91 rfl ?_
            refine m_iadd dX12_fewest_93 (by omega) ?_
            refine m_iload dX12_fewest_94 rfl ?_
            refine m_iadd dX12_fewest_96 (by omega) ?_
            refine m_istore_n dX12_fewest_97 (by decide) rfl rfl ?_
            refine m_iinc dX12_fewest_98 rfl (by decide) rfl rfl (by omega) ?_
            refine m_goto (tgt := 19) dX12_fewest_101 (by decide) ?_
            first
            | (have z := fw_yes ra rb rc (by rw [ei]; exact hF) hok (Or.inl c54); rw [ei] at z; exact ih (i + 1) _ _ _ _ _ (by omega) (by omega) (by omega) z (by omega))
            | (have z := fw_yes ra rb rc (by rw [ei]; exact hF) hok (Or.inr (by omega)); rw [ei] at z; exact ih (i + 1) _ _ _ _ _ (by omega) (by omega) (by omega) z (by omega))
            | (refine ih (i + 1) b l _ _ _ (by omega) (by omega) (by omega) (fw_no hF (fun a2 b2 c2 ra2 rb2 rc2 z2 ho => ?_)) hl
               obtain ⟨x1, x2, x3⟩ := rg3 ra2 rb2 rc2 ra rb rc (by rw [ei]; exact z2)
               subst x1; subst x2; subst x3
               first
               | exact ⟨c54, by omega⟩
               | (unfold okM at ho; omega))
theorem py_fewest {k : Int} (hd : 1 ≤ d) (hI : ShM I) : SI g d mX12_fewest [vr 100, vi k] (shX nm no) (RX nm no) I (fun r J => J = I ∧ ((¬ (0 ≤ k ∧ k ≤ 3) ∧ r = -3) ∨ ((0 ≤ k ∧ k ≤ 3) ∧ ∃ b l, FwI (okM I) 4096 b l ∧ r = (if b = -1 then -1 else if k = 0 then l else if k = 1 then b / 256 else if k = 2 then b / 16 % 16 else b % 16)))) := by
  intro Q h
  refine C_of rfl (Nat.le_of_ble_eq_true rfl) rfl ?_
  refine m_iload_n dX12_fewest_0 rfl ?_
  refine m_iconst dX12_fewest_1 (by decide) ?_
  refine m_iconst dX12_fewest_2 (by decide) ?_
  refine m_Si [_, _, _] dX12_fewest_3 lk_X12_123 rfl rfl (Nat.le_of_ble_eq_true rfl) (by omega) y_in ?_
  refine m_if_ne (tgt := 12) dX12_fewest_6 (by decide) (fun c6 => ?_) (fun c6 => ?_)
  · have z6 := bI_ne0 c6
    refine m_iconst dX12_fewest_12 (by decide) ?_
    refine m_istore_n dX12_fewest_13 (by decide) rfl rfl ?_
    refine m_iconst dX12_fewest_14 (by decide) ?_
    refine m_istore_n dX12_fewest_15 (by decide) rfl rfl ?_
    refine m_iconst dX12_fewest_16 (by decide) ?_
    refine m_istore dX12_fewest_17 (by decide) rfl rfl ?_
    exact y_few_loop hd hI (fun b l hF => h _ _ ⟨rfl, Or.inr ⟨z6, b, l, hF, rfl⟩⟩) _ 0 (-1) 0 _ _ _ (Nat.lt_succ_self _) (by omega) (by omega) (Or.inl ⟨rfl, fun a b c ra rb rc z => by unfold rg at ra rb rc; omega⟩) (by omega)
  · have z6 := bI_eq0 (show _ = (0 : Int) by omega)
    refine m_bipush dX12_fewest_9 rfl (by decide) ?_
    refine m_iret dX12_fewest_11 rfl ?_
    exact h _ _ ⟨rfl, Or.inl ⟨z6, rfl⟩⟩
end
