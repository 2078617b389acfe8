/-! THE REFERENCE: farFrom -/
section
variable {g : GH} {d nm no : Nat} {I : II}
theorem y_ff_copy {la lb : List Int} {ii n : Int} {i : Nat} {Q : QT} (hb : lb.length ≤ 39)
    (hk : ∀ (L : II) (l6 l7 : Option AV), (∀ x, x ≠ 123 → x ≠ 124 → L x = I x) → (∀ j : Nat, j ≤ lb.length → L 123 j = lev (gdL la) (gdL lb) (i + 1) j) → T g d mX12_farFrom 0 0 307 [some (vr 100), some (vi ii), some (vi n), some (vi (la.length : Int)), some (vi (lb.length : Int)), some (vi ((i + 1 : Nat) : Int)), l6, l7] [] (shX nm no) (RX nm no) L Q) :
    ∀ (m k : Nat) (K : II) (l7 : Option AV), lb.length + 1 - k < m → k ≤ lb.length + 1 → (∀ x, x ≠ 123 → x ≠ 124 → K x = I x) → (∀ j : Nat, j ≤ lb.length → K 124 j = lev (gdL la) (gdL lb) (i + 1) j) → (∀ j : Nat, j < k → K 123 j = lev (gdL la) (gdL lb) (i + 1) j) → T g d mX12_farFrom 0 0 280 [some (vr 100), some (vi ii), some (vi n), some (vi (la.length : Int)), some (vi (lb.length : Int)), some (vi ((i + 1 : Nat) : Int)), some (vi k), l7] [] (shX nm no) (RX nm no) K Q := by
  intro m
  induction m with
  | zero => intro k K l7 hm; omega
  | succ m ih =>
    intro k K l7 hm hkl hF hK hK2
    refine m_iload dX12_farFrom_280 rfl ?_
    refine m_iload dX12_farFrom_282 rfl ?_
    refine m_icmp_gt (tgt := 307) dX12_farFrom_284 (by decide) (fun c284 => ?_) (fun c284 => ?_)
    · exact hk K _ _ hF (fun j hj => hK2 j (by omega))
    · refine m_aload_n dX12_farFrom_287 rfl ?_
      refine m_gr (z := 38) dX12_farFrom_288 fl_X12_84 oX_100 rfl rfl rX_100_38 ?_
      refine m_iload dX12_farFrom_291 rfl ?_
      refine m_aload_n dX12_farFrom_293 rfl ?_
      refine m_gr (z := 39) dX12_farFrom_294 fl_X12_87 oX_100 rfl rfl rX_100_39 ?_
      refine m_iload dX12_farFrom_297 rfl ?_
      refine m_iald dX12_farFrom_299 sX_124 (by omega) (by omega) ?_
      rw [hK k (by omega)]
      refine m_iast dX12_farFrom_300 sX_123 (by omega) (by omega) ?_
      refine m_iinc dX12_farFrom_301 rfl (by decide) rfl rfl (by omega) ?_
      refine m_goto (tgt := 280) dX12_farFrom_304 (by decide) ?_
      refine ih (k + 1) _ _ (by omega) (by omega) (fun x a b => by rw [upI_o a]; exact hF x a b) (fun j hj => by rw [upI_o (by decide)]; exact hK j hj) (fun j hj => ?_)
      by_cases e : j = k
      · subst e; rw [upI_s]
      · rw [upI_j (by omega)]; exact hK2 j (by omega)
theorem y_ff_inner {la lb : List Int} {ii n : Int} {i : Nat} {Q : QT} (ha : la.length ≤ 39) (hb : lb.length ≤ 39) (hra : rwL I 121 la) (hrb : rwL I 122 lb) (hi : i < la.length)
    (hk : ∀ (K : II) (l6 l7 : Option AV), (∀ x, x ≠ 123 → x ≠ 124 → K x = I x) → (∀ j : Nat, j ≤ lb.length → K 124 j = lev (gdL la) (gdL lb) (i + 1) j) → T g d mX12_farFrom 0 0 277 [some (vr 100), some (vi ii), some (vi n), some (vi (la.length : Int)), some (vi (lb.length : Int)), some (vi ((i + 1 : Nat) : Int)), l6, l7] [] (shX nm no) (RX nm no) K Q) :
    ∀ (m k : Nat) (K : II) (l7 : Option AV), lb.length - k < m → k ≤ lb.length → (∀ x, x ≠ 123 → x ≠ 124 → K x = I x) → (∀ j : Nat, j ≤ lb.length → K 123 j = lev (gdL la) (gdL lb) i j) → (∀ j : Nat, j ≤ k → K 124 j = lev (gdL la) (gdL lb) (i + 1) j) → T g d mX12_farFrom 0 0 157 [some (vr 100), some (vi ii), some (vi n), some (vi (la.length : Int)), some (vi (lb.length : Int)), some (vi ((i + 1 : Nat) : Int)), some (vi ((k + 1 : Nat) : Int)), l7] [] (shX nm no) (RX nm no) K Q := by
  intro m
  induction m with
  | zero => intro k K l7 hm; omega
  | succ m ih =>
    intro k K l7 hm hkl hF hK hK2
    have l0 := lev_bd (gdL la) (gdL lb) i k
    have l1 := lev_bd (gdL la) (gdL lb) i (k + 1)
    have l2 := lev_bd (gdL la) (gdL lb) (i + 1) k
    have ls := lev_s (gdL la) (gdL lb) i k
    have e121 : K 121 = I 121 := hF 121 (by decide) (by decide)
    have e122 : K 122 = I 122 := hF 122 (by decide) (by decide)
    refine m_iload dX12_farFrom_157 rfl ?_
    refine m_iload dX12_farFrom_159 rfl ?_
    refine m_icmp_gt (tgt := 277) dX12_farFrom_161 (by decide) (fun c161 => ?_) (fun c161 => ?_)
    · have ek : k = lb.length := by omega
      subst ek
      exact hk K _ _ hF hK2
    · have eo : I 121 (((i + 1 : Nat) : Int) - 1) = gdL la i := by rw [show ((i + 1 : Nat) : Int) - 1 = i by omega]; exact hra i hi
      have ea : I 122 (((k + 1 : Nat) : Int) - 1) = gdL lb k := by rw [show ((k + 1 : Nat) : Int) - 1 = k by omega]; exact hrb k (by omega)
      have er1 : K 123 ((k + 1 : Nat) : Int) = lev (gdL la) (gdL lb) i (k + 1) := hK (k + 1) (by omega)
      have er0 : K 123 (((k + 1 : Nat) : Int) - 1) = lev (gdL la) (gdL lb) i k := by rw [show ((k + 1 : Nat) : Int) - 1 = k by omega]; exact hK k (by omega)
      have es0 : K 124 (((k + 1 : Nat) : Int) - 1) = lev (gdL la) (gdL lb) (i + 1) k := by rw [show ((k + 1 : Nat) : Int) - 1 = k by omega]; exact hK2 k (by omega)
      refine m_aload_n dX12_farFrom_164 rfl ?_
      refine m_gr (z := 38) dX12_farFrom_165 fl_X12_84 oX_100 rfl rfl rX_100_38 ?_
      refine m_iload dX12_farFrom_168 rfl ?_
      refine m_iconst dX12_farFrom_170 (by decide) ?_
      refine m_isub dX12_farFrom_171 (by omega) ?_
      refine m_iald dX12_farFrom_172 sX_123 (by omega) (by omega) ?_
      rw [er0]
      refine m_aload_n dX12_farFrom_173 rfl ?_
      refine m_gr (z := 36) dX12_farFrom_174 fl_X12_78 oX_100 rfl rfl rX_100_36 ?_
      refine m_iload dX12_farFrom_177 rfl ?_
      refine m_iconst dX12_farFrom_179 (by decide) ?_
      refine m_isub dX12_farFrom_180 (by omega) ?_
      refine m_iald dX12_farFrom_181 sX_121 (by omega) (by omega) ?_
      rw [e121, eo]
      refine m_aload_n dX12_farFrom_182 rfl ?_
      refine m_gr (z := 37) dX12_farFrom_183 fl_X12_81 oX_100 rfl rfl rX_100_37 ?_
      refine m_iload dX12_farFrom_186 rfl ?_
      refine m_iconst dX12_farFrom_188 (by decide) ?_
      refine m_isub dX12_farFrom_189 (by omega) ?_
      refine m_iald dX12_farFrom_190 sX_122 (by omega) (by omega) ?_
      rw [e122, ea]
      refine m_ticmp_ne (tgt := 198) (M := 199) dX12_farFrom_191 (by decide) (fun c191 hM191 => by
          refine m_iconst dX12_farFrom_198 (by decide) ?_
          exact hM191
        ) (fun c191 hM191 => by
          refine m_iconst dX12_farFrom_194 (by decide) ?_
          refine m_goto (tgt := 199) dX12_farFrom_195 (by decide) ?_
          exact hM191
        ) ?_
      refine m_top (if gdL la i = gdL lb k then 0 else 1) (by (repeat' split) <;> first | rfl | omega) ?_
      refine m_iadd dX12_farFrom_199 (by split <;> omega) ?_
      refine m_istore dX12_farFrom_200 (by decide) rfl rfl ?_
      refine m_aload_n dX12_farFrom_202 rfl ?_
      refine m_gr (z := 38) dX12_farFrom_203 fl_X12_84 oX_100 rfl rfl rX_100_38 ?_
      refine m_iload dX12_farFrom_206 rfl ?_
      refine m_iald dX12_farFrom_208 sX_123 (by omega) (by omega) ?_
      rw [er1]
      refine m_iconst dX12_farFrom_209 (by decide) ?_
      refine m_iadd dX12_farFrom_210 (by omega) ?_
      refine m_iload dX12_farFrom_211 rfl ?_
      refine m_ticmp_ge (tgt := 228) (M := 230) dX12_farFrom_213 (by decide) (fun c213 hM213 => by
          refine m_iload dX12_farFrom_228 rfl ?_
          exact hM213
        ) (fun c213 hM213 => by
          refine m_aload_n dX12_farFrom_216 rfl ?_
          refine m_gr (z := 38) dX12_farFrom_217 fl_X12_84 oX_100 rfl rfl rX_100_38 ?_
          refine m_iload dX12_farFrom_220 rfl ?_
          refine m_iald dX12_farFrom_222 sX_123 (by omega) (by omega) ?_
          rw [er1]
          refine m_iconst dX12_farFrom_223 (by decide) ?_
          refine m_iadd dX12_farFrom_224 (by omega) ?_
          refine m_goto (tgt := 230) dX12_farFrom_225 (by decide) ?_
          exact hM213
        ) ?_
      refine m_top (min (lev (gdL la) (gdL lb) i (k + 1) + 1) (lev (gdL la) (gdL lb) i k + (if gdL la i = gdL lb k then 0 else 1))) (by (repeat' split) <;> omega) ?_
      refine m_istore dX12_farFrom_230 (by decide) rfl rfl ?_
      refine m_aload_n dX12_farFrom_232 rfl ?_
      refine m_gr (z := 39) dX12_farFrom_233 fl_X12_87 oX_100 rfl rfl rX_100_39 ?_
      refine m_iload dX12_farFrom_236 rfl ?_
      refine m_aload_n dX12_farFrom_238 rfl ?_
      refine m_gr (z := 39) dX12_farFrom_239 fl_X12_87 oX_100 rfl rfl rX_100_39 ?_
      refine m_iload dX12_farFrom_242 rfl ?_
      refine m_iconst dX12_farFrom_244 (by decide) ?_
      refine m_isub dX12_farFrom_245 (by omega) ?_
      refine m_iald dX12_farFrom_246 sX_124 (by omega) (by omega) ?_
      rw [es0]
      refine m_iconst dX12_farFrom_247 (by decide) ?_
      refine m_iadd dX12_farFrom_248 (by omega) ?_
      refine m_iload dX12_farFrom_249 rfl ?_
      refine m_ticmp_ge (tgt := 268) (M := 270) dX12_farFrom_251 (by decide) (fun c251 hM251 => by
          refine m_iload dX12_farFrom_268 rfl ?_
          exact hM251
        ) (fun c251 hM251 => by
          refine m_aload_n dX12_farFrom_254 rfl ?_
          refine m_gr (z := 39) dX12_farFrom_255 fl_X12_87 oX_100 rfl rfl rX_100_39 ?_
          refine m_iload dX12_farFrom_258 rfl ?_
          refine m_iconst dX12_farFrom_260 (by decide) ?_
          refine m_isub dX12_farFrom_261 (by omega) ?_
          refine m_iald dX12_farFrom_262 sX_124 (by omega) (by omega) ?_
          rw [es0]
          refine m_iconst dX12_farFrom_263 (by decide) ?_
          refine m_iadd dX12_farFrom_264 (by omega) ?_
          refine m_goto (tgt := 270) dX12_farFrom_265 (by decide) ?_
          exact hM251
        ) ?_
      refine m_top (lev (gdL la) (gdL lb) (i + 1) (k + 1)) (by rw [ls]; (repeat' split) <;> omega) ?_
      refine m_iast dX12_farFrom_270 sX_124 (by omega) (by omega) ?_
      refine m_iinc dX12_farFrom_271 rfl (by decide) rfl rfl (by omega) ?_
      refine m_goto (tgt := 157) dX12_farFrom_274 (by decide) ?_
      refine ih (k + 1) _ _ (by omega) (by omega) (fun x a b => by rw [upI_o b]; exact hF x a b) (fun j hj => by rw [upI_o (by decide)]; exact hK j hj) (fun j hj => ?_)
      by_cases e : j = k + 1
      · subst e; rw [upI_s]
      · rw [upI_j (by omega)]; exact hK2 j (by omega)
theorem y_ff_outer {la lb : List Int} {ii n : Int} {Q : QT} (ha : la.length ≤ 39) (hb : lb.length ≤ 39) (hra : rwL I 121 la) (hrb : rwL I 122 lb)
    (h : ∀ K : II, (∀ x, x ≠ 123 → x ≠ 124 → K x = I x) → Q (some (vi (dsF la lb))) (shX nm no) (RX nm no) K) :
    ∀ (m i : Nat) (K : II) (l6 l7 : Option AV), la.length - i < m → i ≤ la.length → (∀ x, x ≠ 123 → x ≠ 124 → K x = I x) → (∀ j : Nat, j ≤ lb.length → K 123 j = lev (gdL la) (gdL lb) i j) → T g d mX12_farFrom 0 0 140 [some (vr 100), some (vi ii), some (vi n), some (vi (la.length : Int)), some (vi (lb.length : Int)), some (vi ((i + 1 : Nat) : Int)), l6, l7] [] (shX nm no) (RX nm no) K Q := by
  intro m
  induction m with
  | zero => intro i K l6 l7 hm; omega
  | succ m ih =>
    intro i K l6 l7 hm hi hF hK
    refine m_iload dX12_farFrom_140 rfl ?_
    refine m_iload_n dX12_farFrom_142 rfl ?_
    refine m_icmp_gt (tgt := 313) dX12_farFrom_143 (by decide) (fun c143 => ?_) (fun c143 => ?_)
    · have ei : i = la.length := by omega
      subst ei
      refine m_aload_n dX12_farFrom_313 rfl ?_
      refine m_gr (z := 38) dX12_farFrom_314 fl_X12_84 oX_100 rfl rfl rX_100_38 ?_
      refine m_iload dX12_farFrom_317 rfl ?_
      refine m_iald dX12_farFrom_319 sX_123 (by omega) (by omega) ?_
      rw [hK lb.length (Nat.le_refl _)]
      refine m_iret dX12_farFrom_320 rfl ?_
      exact h K hF
    · refine m_aload_n dX12_farFrom_146 rfl ?_
      refine m_gr (z := 39) dX12_farFrom_147 fl_X12_87 oX_100 rfl rfl rX_100_39 ?_
      refine m_iconst dX12_farFrom_150 (by decide) ?_
      refine m_iload dX12_farFrom_151 rfl ?_
      refine m_iast dX12_farFrom_153 sX_124 (by omega) (by omega) ?_
      refine m_iconst dX12_farFrom_154 (by decide) ?_
      refine m_istore dX12_farFrom_155 (by decide) rfl rfl ?_
      refine y_ff_inner (I := upI K 124 0 ((i + 1 : Nat) : Int)) ha hb (fun j hj => by rw [upI_o (by decide), hF 121 (by decide) (by decide)]; exact hra j hj) (fun j hj => by rw [upI_o (by decide), hF 122 (by decide) (by decide)]; exact hrb j hj) (show i < la.length by omega) (fun L l6 l7 hL hLK => ?_) _ 0 _ _ (Nat.lt_succ_self _) (by omega) (fun _ _ _ => rfl) (fun j hj => by rw [upI_o (by decide)]; exact hK j hj) (fun j hj => ?_)
      · refine m_iconst dX12_farFrom_277 (by decide) ?_
        refine m_istore dX12_farFrom_278 (by decide) rfl rfl ?_
        refine y_ff_copy (I := L) hb (fun L2 l6 l7 hL2 hLK2 => ?_) _ 0 L _ (Nat.lt_succ_self _) (by omega) (fun _ _ _ => rfl) hLK (fun j hj => by omega)
        refine m_iinc dX12_farFrom_307 rfl (by decide) rfl rfl (by omega) ?_
        refine m_goto (tgt := 140) dX12_farFrom_310 (by decide) ?_
        exact ih (i + 1) L2 _ _ (by omega) (by omega) (fun x a b => by rw [hL2 x a b, hL x a b, upI_o b]; exact hF x a b) hLK2
      · have e : j = 0 := by omega
        subst e
        rw [show ((0 : Nat) : Int) = 0 from rfl, upI_s, lev_0]
theorem y_ff_init {la lb : List Int} {ii n : Int} {Q : QT} (ha : la.length ≤ 39) (hb : lb.length ≤ 39) (hra : rwL I 121 la) (hrb : rwL I 122 lb)
    (h : ∀ K : II, (∀ x, x ≠ 123 → x ≠ 124 → K x = I x) → Q (some (vi (dsF la lb))) (shX nm no) (RX nm no) K) :
    ∀ (m i : Nat) (K : II), lb.length + 1 - i < m → i ≤ lb.length + 1 → (∀ x, x ≠ 123 → x ≠ 124 → K x = I x) → (∀ j : Nat, j < i → K 123 j = j) → T g d mX12_farFrom 0 0 115 [some (vr 100), some (vi ii), some (vi n), some (vi (la.length : Int)), some (vi (lb.length : Int)), some (vi i), none, none] [] (shX nm no) (RX nm no) K Q := by
  intro m
  induction m with
  | zero => intro i K hm; omega
  | succ m ih =>
    intro i K hm hi hF hK
    refine m_iload dX12_farFrom_115 rfl ?_
    refine m_iload dX12_farFrom_117 rfl ?_
    refine m_icmp_gt (tgt := 137) dX12_farFrom_119 (by decide) (fun c119 => ?_) (fun c119 => ?_)
    · refine m_iconst dX12_farFrom_137 (by decide) ?_
      refine m_istore dX12_farFrom_138 (by decide) rfl rfl ?_
      exact y_ff_outer ha hb hra hrb h _ 0 K _ _ (Nat.lt_succ_self _) (by omega) hF (fun j hj => hK j (by omega))
    · refine m_aload_n dX12_farFrom_122 rfl ?_
      refine m_gr (z := 38) dX12_farFrom_123 fl_X12_84 oX_100 rfl rfl rX_100_38 ?_
      refine m_iload dX12_farFrom_126 rfl ?_
      refine m_iload dX12_farFrom_128 rfl ?_
      refine m_iast dX12_farFrom_130 sX_123 (by omega) (by omega) ?_
      refine m_iinc dX12_farFrom_131 rfl (by decide) rfl rfl (by omega) ?_
      refine m_goto (tgt := 115) dX12_farFrom_134 (by decide) ?_
      refine ih (i + 1) _ (by omega) (by omega) (fun x a b => by rw [upI_o a]; exact hF x a b) (fun j hj => ?_)
      by_cases e : j = i
      · subst e; rw [upI_s]
      · rw [upI_j (by omega)]; exact hK j (by omega)
theorem y_ff_one {ii n : Int} {Q : QT} (hd : 1 ≤ d) (hn : 1 ≤ n ∧ n ≤ 8) (hc : ∀ k : Nat, (k : Int) < n → 97 ≤ I 120 k ∧ I 120 k ≤ 122) (hT : ∀ j : Nat, j < 26 → I 125 j = sgnT j)
    (hk : ∀ (J : II) (l4 : Int), (∀ x, x ≠ 121 → J x = I x) → rwL J 121 (wlF (fun k : Nat => (I 120 k - 97).toNat) n.toNat) → T g d mX12_farFrom 0 0 49 [some (vr 100), some (vi ii), some (vi n), some (vi ((wlF (fun k : Nat => (I 120 k - 97).toNat) n.toNat).length : Int)), some (vi l4), none, none, none] [] (shX nm no) (RX nm no) J Q) :
    ∀ (m k : Nat) (J : II), n.toNat - k < m → k ≤ n.toNat → (∀ x, x ≠ 121 → J x = I x) → rwL J 121 (wlF (fun k : Nat => (I 120 k - 97).toNat) k) → T g d mX12_farFrom 0 0 5 [some (vr 100), some (vi ii), some (vi n), some (vi ((wlF (fun k : Nat => (I 120 k - 97).toNat) k).length : Int)), some (vi k), none, none, none] [] (shX nm no) (RX nm no) J Q := by
  intro m
  induction m with
  | zero => intro k J hm; omega
  | succ m ih =>
    intro k J hm hkn hF hr
    have hlen := wlF_len (f := (fun k : Nat => (I 120 k - 97).toNat)) k (fun j hj => by have := hc j (by omega); show (I 120 j - 97).toNat < 26; omega)
    refine m_iload dX12_farFrom_5 rfl ?_
    refine m_iload_n dX12_farFrom_7 rfl ?_
    refine m_icmp_ge (tgt := 49) dX12_farFrom_8 (by decide) (fun c8 => ?_) (fun c8 => ?_)
    · have ek : k = n.toNat := by omega
      subst ek
      exact hk J _ hF hr
    · have hck := hc k (by omega)
      have ec : J 120 k = I 120 k := by rw [hF 120 (by decide)]
      refine m_iload dX12_farFrom_11 rfl ?_
      refine m_if_le (tgt := 26) dX12_farFrom_13 (by decide) (fun c13 => ?_) (fun c13 => ?_)
      · have ew : wlF (fun k : Nat => (I 120 k - 97).toNat) (k + 1) = wlF (fun k : Nat => (I 120 k - 97).toNat) k ++ slF ((fun k : Nat => (I 120 k - 97).toNat) k) := by
          show wlF (fun k : Nat => (I 120 k - 97).toNat) k ++ (if k = 0 then [] else [2]) ++ slF ((fun k : Nat => (I 120 k - 97).toNat) k) = _
          rw [if_pos (by omega), List.append_nil]
        refine m_aload_n dX12_farFrom_26 rfl ?_
        refine m_aload_n dX12_farFrom_27 rfl ?_
        refine m_gr (z := 36) dX12_farFrom_28 fl_X12_78 oX_100 rfl rfl rX_100_36 ?_
        refine m_iload_n dX12_farFrom_31 rfl ?_
        refine m_aload_n dX12_farFrom_32 rfl ?_
        refine m_gr (z := 35) dX12_farFrom_33 fl_X12_75 oX_100 rfl rfl rX_100_35 ?_
        refine m_iload dX12_farFrom_36 rfl ?_
        refine m_iald dX12_farFrom_38 sX_120 (by omega) (by omega) ?_
        rw [ec]
        refine m_VI [_, _, _] dX12_farFrom_39 lk_X12_320 rfl oX_100 rfl (Nat.le_of_ble_eq_true rfl) (by omega) (y_addSigns (l := wlF (fun k : Nat => (I 120 k - 97).toNat) k) sX_121 (by decide) hck (by omega) hr (fun j hj => by rw [hF 125 (by decide)]; exact hT j hj)) ?_
        intro r39 I39 q39
        refine m_istore_n dX12_farFrom_42 (by decide) rfl rfl ?_
        refine m_iinc dX12_farFrom_43 rfl (by decide) rfl rfl (by omega) ?_
        refine m_goto (tgt := 5) dX12_farFrom_46 (by decide) ?_
        rw [← ew] at q39
        rw [q39.1]
        exact ih (k + 1) I39 (by omega) (by omega) (fun x hx => (q39.2.1 x hx).trans (hF x hx)) q39.2.2
      · have ew : wlF (fun k : Nat => (I 120 k - 97).toNat) (k + 1) = wlF (fun k : Nat => (I 120 k - 97).toNat) k ++ [2] ++ slF ((fun k : Nat => (I 120 k - 97).toNat) k) := by
          show wlF (fun k : Nat => (I 120 k - 97).toNat) k ++ (if k = 0 then [] else [2]) ++ slF ((fun k : Nat => (I 120 k - 97).toNat) k) = _
          rw [if_neg (by omega)]
        have hr2 := rwL_push (x := 2) (v := ((wlF (fun k : Nat => (I 120 k - 97).toNat) k).length : Int)) hr rfl
        have h2 := List.length_append (as := wlF (fun k : Nat => (I 120 k - 97).toNat) k) (bs := [(2 : Int)])
        rw [List.length_singleton] at h2
        refine m_aload_n dX12_farFrom_16 rfl ?_
        refine m_gr (z := 36) dX12_farFrom_17 fl_X12_78 oX_100 rfl rfl rX_100_36 ?_
        refine m_iload_n dX12_farFrom_20 rfl ?_
        refine m_iconst dX12_farFrom_21 (by decide) ?_
        refine m_iast dX12_farFrom_22 sX_121 (by omega) (by omega) ?_
        refine m_iinc dX12_farFrom_23 rfl (by decide) rfl rfl (by omega) ?_
        refine m_aload_n dX12_farFrom_26 rfl ?_
        refine m_aload_n dX12_farFrom_27 rfl ?_
        refine m_gr (z := 36) dX12_farFrom_28 fl_X12_78 oX_100 rfl rfl rX_100_36 ?_
        refine m_iload_n dX12_farFrom_31 rfl ?_
        refine m_aload_n dX12_farFrom_32 rfl ?_
        refine m_gr (z := 35) dX12_farFrom_33 fl_X12_75 oX_100 rfl rfl rX_100_35 ?_
        refine m_iload dX12_farFrom_36 rfl ?_
        refine m_iald dX12_farFrom_38 sX_120 (by omega) (by omega) ?_
        rw [upI_o (show (120 : Nat) ≠ 121 by omega)]
        rw [ec]
        rw [show ((wlF (fun k : Nat => (I 120 k - 97).toNat) k).length : Int) + 1 = ((wlF (fun k : Nat => (I 120 k - 97).toNat) k ++ [2]).length : Int) by rw [h2]; omega]
        refine m_VI [_, _, _] dX12_farFrom_39 lk_X12_320 rfl oX_100 rfl (Nat.le_of_ble_eq_true rfl) (by omega) (y_addSigns (l := wlF (fun k : Nat => (I 120 k - 97).toNat) k ++ [2]) sX_121 (by decide) hck (by rw [h2]; omega) hr2 (fun j hj => by rw [upI_o (by decide), hF 125 (by decide)]; exact hT j hj)) ?_
        intro r39 I39 q39
        refine m_istore_n dX12_farFrom_42 (by decide) rfl rfl ?_
        refine m_iinc dX12_farFrom_43 rfl (by decide) rfl rfl (by omega) ?_
        refine m_goto (tgt := 5) dX12_farFrom_46 (by decide) ?_
        rw [← ew] at q39
        rw [q39.1]
        exact ih (k + 1) I39 (by omega) (by omega) (fun x hx => ((q39.2.1 x hx).trans (upI_o hx)).trans (hF x hx)) q39.2.2
theorem y_ff_two {ii n la : Int} {Q : QT} (hd : 1 ≤ d) (hi : 0 ≤ ii ∧ ii < 16) (hn : 1 ≤ I 118 ii ∧ I 118 ii ≤ 8) (hc : ∀ k : Nat, (k : Int) < I 118 ii → 97 ≤ I 119 (8 * ii + k) ∧ I 119 (8 * ii + k) ≤ 122) (hT : ∀ j : Nat, j < 26 → I 125 j = sgnT j)
    (hk : ∀ (J : II) (l5 : Int), (∀ x, x ≠ 122 → J x = I x) → rwL J 122 (wlF (fun k : Nat => (I 119 (8 * ii + k) - 97).toNat) (I 118 ii).toNat) → T g d mX12_farFrom 0 0 112 [some (vr 100), some (vi ii), some (vi n), some (vi la), some (vi ((wlF (fun k : Nat => (I 119 (8 * ii + k) - 97).toNat) (I 118 ii).toNat).length : Int)), some (vi l5), none, none] [] (shX nm no) (RX nm no) J Q) :
    ∀ (m k : Nat) (J : II), (I 118 ii).toNat - k < m → k ≤ (I 118 ii).toNat → (∀ x, x ≠ 122 → J x = I x) → rwL J 122 (wlF (fun k : Nat => (I 119 (8 * ii + k) - 97).toNat) k) → T g d mX12_farFrom 0 0 55 [some (vr 100), some (vi ii), some (vi n), some (vi la), some (vi ((wlF (fun k : Nat => (I 119 (8 * ii + k) - 97).toNat) k).length : Int)), some (vi k), none, none] [] (shX nm no) (RX nm no) J Q := by
  intro m
  induction m with
  | zero => intro k J hm; omega
  | succ m ih =>
    intro k J hm hkn hF hr
    have hlen := wlF_len (f := (fun k : Nat => (I 119 (8 * ii + k) - 97).toNat)) k (fun j hj => by have := hc j (by omega); show (I 119 (8 * ii + j) - 97).toNat < 26; omega)
    have e118 : J 118 ii = I 118 ii := by rw [hF 118 (by decide)]
    refine m_iload dX12_farFrom_55 rfl ?_
    refine m_aload_n dX12_farFrom_57 rfl ?_
    refine m_gr (z := 33) dX12_farFrom_58 fl_X12_69 oX_100 rfl rfl rX_100_33 ?_
    refine m_iload_n dX12_farFrom_61 rfl ?_
    refine m_iald dX12_farFrom_62 sX_118 (by omega) (by omega) ?_
    rw [e118]
    refine m_icmp_ge (tgt := 112) dX12_farFrom_63 (by decide) (fun c63 => ?_) (fun c63 => ?_)
    · have ek : k = (I 118 ii).toNat := by omega
      subst ek
      exact hk J _ hF hr
    · have hck := hc k (by omega)
      have ec : J 119 (8 * ii + k) = I 119 (8 * ii + k) := by rw [hF 119 (by decide)]
      refine m_iload dX12_farFrom_66 rfl ?_
      refine m_if_le (tgt := 82) dX12_farFrom_68 (by decide) (fun c68 => ?_) (fun c68 => ?_)
      · have ew : wlF (fun k : Nat => (I 119 (8 * ii + k) - 97).toNat) (k + 1) = wlF (fun k : Nat => (I 119 (8 * ii + k) - 97).toNat) k ++ slF ((fun k : Nat => (I 119 (8 * ii + k) - 97).toNat) k) := by
          show wlF (fun k : Nat => (I 119 (8 * ii + k) - 97).toNat) k ++ (if k = 0 then [] else [2]) ++ slF ((fun k : Nat => (I 119 (8 * ii + k) - 97).toNat) k) = _
          rw [if_pos (by omega), List.append_nil]
        refine m_aload_n dX12_farFrom_82 rfl ?_
        refine m_aload_n dX12_farFrom_83 rfl ?_
        refine m_gr (z := 37) dX12_farFrom_84 fl_X12_81 oX_100 rfl rfl rX_100_37 ?_
        refine m_iload dX12_farFrom_87 rfl ?_
        refine m_aload_n dX12_farFrom_89 rfl ?_
        refine m_gr (z := 34) dX12_farFrom_90 fl_X12_72 oX_100 rfl rfl rX_100_34 ?_
        refine m_bipush dX12_farFrom_93 rfl (by decide) ?_
        refine m_iload_n dX12_farFrom_95 rfl ?_
        refine m_imul dX12_farFrom_96 (by omega) ?_
        refine m_iload dX12_farFrom_97 rfl ?_
        refine m_iadd dX12_farFrom_99 (by omega) ?_
        refine m_iald dX12_farFrom_100 sX_119 (by omega) (by omega) ?_
        rw [ec]
        refine m_VI [_, _, _] dX12_farFrom_101 lk_X12_320 rfl oX_100 rfl (Nat.le_of_ble_eq_true rfl) (by omega) (y_addSigns (l := wlF (fun k : Nat => (I 119 (8 * ii + k) - 97).toNat) k) sX_122 (by decide) hck (by omega) hr (fun j hj => by rw [hF 125 (by decide)]; exact hT j hj)) ?_
        intro r101 I101 q101
        refine m_istore dX12_farFrom_104 (by decide) rfl rfl ?_
        refine m_iinc dX12_farFrom_106 rfl (by decide) rfl rfl (by omega) ?_
        refine m_goto (tgt := 55) dX12_farFrom_109 (by decide) ?_
        rw [← ew] at q101
        rw [q101.1]
        exact ih (k + 1) I101 (by omega) (by omega) (fun x hx => (q101.2.1 x hx).trans (hF x hx)) q101.2.2
      · have ew : wlF (fun k : Nat => (I 119 (8 * ii + k) - 97).toNat) (k + 1) = wlF (fun k : Nat => (I 119 (8 * ii + k) - 97).toNat) k ++ [2] ++ slF ((fun k : Nat => (I 119 (8 * ii + k) - 97).toNat) k) := by
          show wlF (fun k : Nat => (I 119 (8 * ii + k) - 97).toNat) k ++ (if k = 0 then [] else [2]) ++ slF ((fun k : Nat => (I 119 (8 * ii + k) - 97).toNat) k) = _
          rw [if_neg (by omega)]
        have hr2 := rwL_push (x := 2) (v := ((wlF (fun k : Nat => (I 119 (8 * ii + k) - 97).toNat) k).length : Int)) hr rfl
        have h2 := List.length_append (as := wlF (fun k : Nat => (I 119 (8 * ii + k) - 97).toNat) k) (bs := [(2 : Int)])
        rw [List.length_singleton] at h2
        refine m_aload_n dX12_farFrom_71 rfl ?_
        refine m_gr (z := 37) dX12_farFrom_72 fl_X12_81 oX_100 rfl rfl rX_100_37 ?_
        refine m_iload dX12_farFrom_75 rfl ?_
        refine m_iconst dX12_farFrom_77 (by decide) ?_
        refine m_iast dX12_farFrom_78 sX_122 (by omega) (by omega) ?_
        refine m_iinc dX12_farFrom_79 rfl (by decide) rfl rfl (by omega) ?_
        refine m_aload_n dX12_farFrom_82 rfl ?_
        refine m_aload_n dX12_farFrom_83 rfl ?_
        refine m_gr (z := 37) dX12_farFrom_84 fl_X12_81 oX_100 rfl rfl rX_100_37 ?_
        refine m_iload dX12_farFrom_87 rfl ?_
        refine m_aload_n dX12_farFrom_89 rfl ?_
        refine m_gr (z := 34) dX12_farFrom_90 fl_X12_72 oX_100 rfl rfl rX_100_34 ?_
        refine m_bipush dX12_farFrom_93 rfl (by decide) ?_
        refine m_iload_n dX12_farFrom_95 rfl ?_
        refine m_imul dX12_farFrom_96 (by omega) ?_
        refine m_iload dX12_farFrom_97 rfl ?_
        refine m_iadd dX12_farFrom_99 (by omega) ?_
        refine m_iald dX12_farFrom_100 sX_119 (by omega) (by omega) ?_
        rw [upI_o (show (119 : Nat) ≠ 122 by omega)]
        rw [ec]
        rw [show ((wlF (fun k : Nat => (I 119 (8 * ii + k) - 97).toNat) k).length : Int) + 1 = ((wlF (fun k : Nat => (I 119 (8 * ii + k) - 97).toNat) k ++ [2]).length : Int) by rw [h2]; omega]
        refine m_VI [_, _, _] dX12_farFrom_101 lk_X12_320 rfl oX_100 rfl (Nat.le_of_ble_eq_true rfl) (by omega) (y_addSigns (l := wlF (fun k : Nat => (I 119 (8 * ii + k) - 97).toNat) k ++ [2]) sX_122 (by decide) hck (by rw [h2]; omega) hr2 (fun j hj => by rw [upI_o (by decide), hF 125 (by decide)]; exact hT j hj)) ?_
        intro r101 I101 q101
        refine m_istore dX12_farFrom_104 (by decide) rfl rfl ?_
        refine m_iinc dX12_farFrom_106 rfl (by decide) rfl rfl (by omega) ?_
        refine m_goto (tgt := 55) dX12_farFrom_109 (by decide) ?_
        rw [← ew] at q101
        rw [q101.1]
        exact ih (k + 1) I101 (by omega) (by omega) (fun x hx => ((q101.2.1 x hx).trans (upI_o hx)).trans (hF x hx)) q101.2.2
theorem y_farFrom {ii n : Int} (hd : 1 ≤ d) (hn : 1 ≤ n ∧ n ≤ 8) (hc : ∀ k : Nat, (k : Int) < n → 97 ≤ I 120 k ∧ I 120 k ≤ 122) (hT : ∀ j : Nat, j < 26 → I 125 j = sgnT j) (hi : 0 ≤ ii ∧ ii < 16) (hm : 1 ≤ I 118 ii ∧ I 118 ii ≤ 8) (hc2 : ∀ k : Nat, (k : Int) < I 118 ii → 97 ≤ I 119 (8 * ii + k) ∧ I 119 (8 * ii + k) ≤ 122) : SI g d mX12_farFrom [vr 100, vi ii, vi n] (shX nm no) (RX nm no) I (fun r J => r = dsF (wlF (fun k : Nat => (I 120 k - 97).toNat) n.toNat) (wlF (fun k : Nat => (I 119 (8 * ii + k) - 97).toNat) (I 118 ii).toNat) ∧ ∀ x, x ≠ 121 → x ≠ 122 → x ≠ 123 → x ≠ 124 → J x = I x) := by
  intro Q h
  refine C_of rfl (Nat.le_of_ble_eq_true rfl) rfl ?_
  refine m_iconst dX12_farFrom_0 (by decide) ?_
  refine m_istore_n dX12_farFrom_1 (by decide) rfl rfl ?_
  refine m_iconst dX12_farFrom_2 (by decide) ?_
  refine m_istore dX12_farFrom_3 (by decide) rfl rfl ?_
  have hl1 := wlF_len (f := (fun k : Nat => (I 120 k - 97).toNat)) n.toNat (fun j hj => by have := hc j (by omega); show (I 120 j - 97).toNat < 26; omega)
  have hl2 := wlF_len (f := (fun k : Nat => (I 119 (8 * ii + k) - 97).toNat)) (I 118 ii).toNat (fun j hj => by have := hc2 j (by omega); show (I 119 (8 * ii + j) - 97).toNat < 26; omega)
  refine y_ff_one hd hn hc hT (fun J l4 hJ hrJ => ?_) _ 0 I (Nat.lt_succ_self _) (by omega) (fun _ _ => rfl) (fun j hj => absurd hj (Nat.not_lt_zero _))
  refine m_iconst dX12_farFrom_49 (by decide) ?_
  refine m_istore dX12_farFrom_50 (by decide) rfl rfl ?_
  refine m_iconst dX12_farFrom_52 (by decide) ?_
  refine m_istore dX12_farFrom_53 (by decide) rfl rfl ?_
  have e118 : J 118 = I 118 := hJ 118 (by decide)
  have e119 : J 119 = I 119 := hJ 119 (by decide)
  have z := y_ff_two (g := g) (d := d) (nm := nm) (no := no) (I := J) (ii := ii) (n := n) (la := ((wlF (fun k : Nat => (I 120 k - 97).toNat) n.toNat).length : Int)) (Q := Q) hd hi (by rw [e118]; exact hm) (by rw [e118, e119]; exact hc2) (by rw [hJ 125 (by decide)]; exact hT)
  rw [e118, e119] at z
  refine z (fun K l5 hK hrK => ?_) _ 0 J (Nat.lt_succ_self _) (by omega) (fun _ _ => rfl) (fun j hj => absurd hj (Nat.not_lt_zero _))
  refine m_iconst dX12_farFrom_112 (by decide) ?_
  refine m_istore dX12_farFrom_113 (by decide) rfl rfl ?_
  exact y_ff_init (I := K) (by omega) (by omega) (fun j hj => by rw [hK 121 (by decide)]; exact hrJ j hj) hrK (fun L hL => h _ L ⟨rfl, fun x a b c e => by rw [hL x c e, hK x b]; exact hJ x a⟩) _ 0 K (Nat.lt_succ_self _) (by omega) (fun _ _ _ => rfl) (fun j hj => by omega)
end
