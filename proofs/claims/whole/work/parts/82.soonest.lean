/-! THE REFERENCE: soonest -/
section
variable {g : GH} {d nm no : Nat} {I : II}
theorem sh01 {a i : Int} (h0 : 0 ≤ a) (h1 : R32 a) (hi : 0 ≤ i ∧ i < 32) : f_iand (f_ishr a i) 1 = bI (bt a i) := by
  have z := sh1 h0 h1 hi
  by_cases y : bt a i
  · rw [bI_t y]; exact z.mpr y
  · rw [bI_f y]
    have : f_iand (f_ishr a i) 1 ≠ 1 := fun q => y (z.mp q)
    rw [shr32 h1 hi.1 hi.2, and1] at this ⊢
    · omega
    · have hp : (1 : Int) ≤ 2 ^ i.toNat := by have h9 : (0 : Int) < 2 ^ i.toNat := Int.pow_pos (by decide); omega
      exact ⟨by have := Int.ediv_nonneg h0 (show (0 : Int) ≤ 2 ^ i.toNat by omega); omega, by have := Int.ediv_le_self (2 ^ i.toNat) h0; omega⟩
    · have hp : (1 : Int) ≤ 2 ^ i.toNat := by have h9 : (0 : Int) < 2 ^ i.toNat := Int.pow_pos (by decide); omega
      exact ⟨by have := Int.ediv_nonneg h0 (show (0 : Int) ≤ 2 ^ i.toNat by omega); omega, by have := Int.ediv_le_self (2 ^ i.toNat) h0; omega⟩
theorem sok_112 {I J : II} {q : Nat} {pr : Prop} {v K t : Int} (h : Fr112 I J) (hq : q ≠ 112) : sokT J q pr v K t = sokT I q pr v K t := by
  unfold sokT opX nightX upX stp
  rw [h 21 (by decide), h 22 (by decide), h 23 (by decide), h 24 (by decide), h 25 (by decide), h 28 (by decide), h 29 (by decide), h 30 (by decide), h 31 (by decide), h 32 (by decide), h 33 (by decide), h 34 (by decide), h 35 (by decide), h q hq]
theorem soF_112 {I J : II} {q : Nat} {pr : Prop} {n last v m : Int} (h : Fr112 I J) (hq : q ≠ 112) : soF J q pr n last v m = soF I q pr n last v m := by
  have e : ∀ K l, fsT J q pr v K m l = fsT I q pr v K m l := fun K l => by
    funext r
    unfold fsT
    simp only [sok_112 h hq]
  have ek : Kt J n = Kt I n := by unfold Kt; rw [h 26 (by decide)]
  unfold soF fsF
  rw [e, ek]
theorem soF_ar {I : II} {q : Nat} {pr : Prop} {n last v m : Int} (hm : 0 ≤ m) (hl : last < 1000000) (hk : 0 ≤ Kt I n v) : (if soF I q pr n last v m ≠ 1000000 then soF I q pr n last v m + Kt I n v else 1000000) = arF I q pr n last v m := by
  have z := fsF_sp (I := I) (q := q) (pr := pr) v (Kt I n v) m (last - Kt I n v)
  unfold soF arF
  by_cases y : fsF I q pr v (Kt I n v) m (last - Kt I n v) = -1
  · rw [if_pos y, if_pos y, if_neg (fun x => x rfl)]
  · rw [if_neg y, if_neg y, if_pos (by have := (z.resolve_left (fun x => y x.1)).1; omega)]
theorem fr112_T {I J : II} {nm : Nat} (h : Fr112 I J) : FrT I J nm := ⟨fun x hx => h x (by omega), fun m hm j hj => by rw [h (200 + m) (by omega)], by rw [h 100 (by decide)]; exact ⟨rfl, rfl, rfl, rfl, rfl, rfl⟩⟩
theorem y_sn_best {fr to wd kd t by_ n s k : Int} {l12 l13 l14 : Option AV} {Q : QT} (hs : 0 ≤ s ∧ s < 4096) (hk : ∀ l11 : Int, T g d mX12_soonest 0 0 190 [some (vr 100), some (vi fr), some (vi to), some (vi wd), some (vi kd), some (vi t), some (vi by_), some (vi n), some (vi s), some (vi k), some (vi (dbF (I 112) (fun j => bt s j) 8)), some (vi l11), l12, l13, l14] [] (shX nm no) (RX nm no) I Q) : ∀ (m i : Nat), 8 - i < m → i ≤ 8 → T g d mX12_soonest 0 0 135 [some (vr 100), some (vi fr), some (vi to), some (vi wd), some (vi kd), some (vi t), some (vi by_), some (vi n), some (vi s), some (vi k), some (vi (dbF (I 112) (fun j => bt s j) i)), some (vi i), l12, l13, l14] [] (shX nm no) (RX nm no) I Q := by
  intro m
  induction m with
  | zero => intro i hm; omega
  | succ m ih =>
    intro i hm hi
    have hb := db_bd (I 112) (fun j => bt s j) i
    have ed : dbF (I 112) (fun j => bt s j) (i + 1) = cif (¬ bt s i ∧ (dbF (I 112) (fun j => bt s j) i = -1 ∨ I 112 i < I 112 (dbF (I 112) (fun j => bt s j) i))) (i : Int) (dbF (I 112) (fun j => bt s j) i) := rfl
    refine m_iload dX12_soonest_135 rfl ?_
    refine m_bipush dX12_soonest_137 rfl (by decide) ?_
    refine m_icmp_ge (tgt := 190) dX12_soonest_139 (by decide) (fun c139 => ?_) (fun c139 => ?_)
    · have ei : i = 8 := by omega
      subst ei
      exact hk _
    · have e01 := sh01 (i := (i : Int)) hs.1 ⟨by omega, by omega⟩ ⟨by omega, by omega⟩
      refine m_iload dX12_soonest_142 rfl ?_
      refine m_iload dX12_soonest_144 rfl ?_
      refine m_ishr dX12_soonest_146 ?_
      refine m_iconst dX12_soonest_147 (by decide) ?_
      refine m_iand dX12_soonest_148 ?_
      rw [e01]
      refine m_tif_ne (tgt := 180) (M := 182) dX12_soonest_149 (by decide) (fun c149 hM149 => by
          refine m_iload dX12_soonest_180 rfl ?_
          exact hM149
        ) (fun c149 hM149 => by
          refine m_iload dX12_soonest_152 rfl ?_
          refine m_iconst dX12_soonest_154 (by decide) ?_
          refine m_ticmp_eq (tgt := 175) (M := 182) dX12_soonest_155 (by decide) (fun c155 hM155 => by
              refine m_iload dX12_soonest_175 rfl ?_
              refine m_goto (tgt := 182) dX12_soonest_177 (by decide) ?_
              exact hM155
            ) (fun c155 hM155 => by
              refine m_aload_n dX12_soonest_158 rfl ?_
              refine m_gr (z := 17) dX12_soonest_159 fl_X12_48 oX_100 rfl rfl rX_100_17 ?_
              refine m_iload dX12_soonest_162 rfl ?_
              refine m_iald dX12_soonest_164 sX_112 (by omega) (by omega) ?_
              refine m_aload_n dX12_soonest_165 rfl ?_
              refine m_gr (z := 17) dX12_soonest_166 fl_X12_48 oX_100 rfl rfl rX_100_17 ?_
              refine m_iload dX12_soonest_169 rfl ?_
              refine m_iald dX12_soonest_171 sX_112 (by omega) (by omega) ?_
              refine m_ticmp_ge (tgt := 180) (M := 182) dX12_soonest_172 (by decide) (fun c172 hM172 => by
                  refine m_iload dX12_soonest_180 rfl ?_
                  exact hM172
                ) (fun c172 hM172 => by
                  refine m_iload dX12_soonest_175 rfl ?_
                  refine m_goto (tgt := 182) dX12_soonest_177 (by decide) ?_
                  exact hM172
                ) ?_
              exact hM155
            ) ?_
          exact hM149
        ) ?_
      refine m_top (dbF (I 112) (fun j => bt s j) (i + 1)) (by
        rw [ed]
        by_cases y : bt s i
        · rw [bI_t y, if_pos (by decide), cif_f (fun z => z.1 y)]
        · rw [bI_f y, if_neg (fun z => z rfl)]
          by_cases y2 : dbF (I 112) (fun j => bt s j) i = -1
          · rw [if_pos y2, cif_t ⟨y, Or.inl y2⟩]
          · rw [if_neg y2]
            by_cases y3 : I 112 (dbF (I 112) (fun j => bt s j) i) ≤ I 112 i
            · rw [if_pos y3, cif_f (fun z => z.2.elim y2 (fun x => by omega))]
            · rw [if_neg y3, cif_t ⟨y, Or.inr (by omega)⟩]) ?_
      refine m_istore dX12_soonest_182 (by decide) rfl rfl ?_
      refine m_iinc dX12_soonest_184 rfl (by decide) rfl rfl (by omega) ?_
      refine m_goto (tgt := 135) dX12_soonest_187 (by decide) ?_
      exact ih (i + 1) (by omega) (by omega)
theorem y_sn_wires {fr to wd kd t by_ n s k b : Int} {q : Nat} {S : Int → Prop} {r : Int → Int} {Q : QT} (hd : 4 ≤ d) (hS : SttI I nm no) (hlw : I 100 12 = -9) (hby : -1 ≤ by_ ∧ by_ < no) (hq : q = oid no by_) (hn : 1 ≤ n ∧ n ≤ 198) (ht : 0 ≤ t ∧ t ≤ 9000) (hb : 0 ≤ b ∧ b < 8) (hB : bdI t (t + 3000) r) (hrb : r b < 1000000) (hSb : S b) (hs : 0 ≤ s ∧ s < 4096) (hbt : ∀ j, 0 ≤ j → j < 8 → (bt s j ↔ S j))
    (hk : ∀ (J : II) (l11 : Int) (l12 l13 l14 : Option AV), Fr112 I J → eq8 (J 112) (rlF (I 24) (I 25) (arF I q (kd = 2) n (t + 3000)) b S r (I 21 9).toNat) → T g d mX12_soonest 0 0 349 [some (vr 100), some (vi fr), some (vi to), some (vi wd), some (vi kd), some (vi t), some (vi by_), some (vi n), some (vi s), some (vi k), some (vi b), some (vi l11), l12, l13, l14] [] (shX nm no) (RX nm no) J Q) :
    ∀ (m v : Nat) (J : II) (l12 l13 l14 : Option AV), (I 21 9).toNat - v < m → v ≤ (I 21 9).toNat → Fr112 I J → eq8 (J 112) (rlF (I 24) (I 25) (arF I q (kd = 2) n (t + 3000)) b S r v) → T g d mX12_soonest 0 0 202 [some (vr 100), some (vi fr), some (vi to), some (vi wd), some (vi kd), some (vi t), some (vi by_), some (vi n), some (vi s), some (vi k), some (vi b), some (vi v), l12, l13, l14] [] (shX nm no) (RX nm no) J Q := by
  have hW := hS.1.1.1
  have hDJ := djOK_of (q := q) (pr := kd = 2) (m0 := t) hS.1.1 hn.1 (show 0 ≤ t ∧ t ≤ t + 3000 ∧ t + 3000 < 1000000 by omega)
  have hq112 : q ≠ 112 := by rcases oid_ge no by_ with e | e <;> omega
  have hrb2 := hB.1 b hb.1 hb.2
  intro m
  induction m with
  | zero => intro v J l12 l13 l14 hm; omega
  | succ m ih =>
    intro v J l12 l13 l14 hm hv hF hE
    have hSJ := sttI_frT (fr112_T (nm := nm) hF) hS
    have hlJ : J 100 12 = -9 := by rw [hF 100 (by decide)]; exact hlw
    have eW : J 100 3 = I 21 9 := by rw [hF 100 (by decide)]; exact hS.2.1.2.1.1
    have e103 : J 103 = I 24 := by rw [hF 103 (by decide)]; exact hS.2.1.1.2.2.1
    have e104 : J 104 = I 25 := by rw [hF 104 (by decide)]; exact hS.2.1.1.2.2.2.1
    have e105 : J 105 = I 26 := by rw [hF 105 (by decide)]; exact hS.2.1.1.2.2.2.2.1
    have eJb : J 112 b = r b := by rw [hE b hb.1 hb.2]; exact rl_S v b hSb
    have hBv := rl_bd (S := S) (r := r) (o := b) hDJ.1 ⟨hDJ.2.1.2.1, hDJ.2.1.2.2⟩ hB hrb2.1 (fun v hv => hDJ.2.2 v (r b) hv (by omega)) v hv
    refine m_iload dX12_soonest_202 rfl ?_
    refine m_aload_n dX12_soonest_204 rfl ?_
    refine m_gi (z := 3) dX12_soonest_205 fl_X12_127 oX_100 rfl rfl ?_
    rw [eW]
    refine m_icmp_ge (tgt := 349) dX12_soonest_208 (by decide) (fun c208 => ?_) (fun c208 => ?_)
    · have ev : v = (I 21 9).toNat := by omega
      subst ev
      exact hk J _ _ _ _ hF hE
    · have hvk := hS.1.1.2.1 v (by omega) (by omega)
      have hKt : 1 ≤ Kt I n v ∧ Kt I n v ≤ n := tk_bd hn.1 hvk.2.2.2.1.1
      have er : rlF (I 24) (I 25) (arF I q (kd = 2) n (t + 3000)) b S r (v + 1) = cif ((I 24 v = b ∨ I 25 v = b) ∧ ¬ S (othF (I 24) (I 25) v b)) (upF (rlF (I 24) (I 25) (arF I q (kd = 2) n (t + 3000)) b S r v) (othF (I 24) (I 25) v b) (min (rlF (I 24) (I 25) (arF I q (kd = 2) n (t + 3000)) b S r v (othF (I 24) (I 25) v b)) ((arF I q (kd = 2) n (t + 3000)) v (r b)))) (rlF (I 24) (I 25) (arF I q (kd = 2) n (t + 3000)) b S r v) := rfl
      have hx : 0 ≤ othF (I 24) (I 25) v b ∧ othF (I 24) (I 25) v b < 8 := by unfold othF; split <;> omega
      have e01 := sh01 (i := othF (I 24) (I 25) v b) hs.1 ⟨by omega, by omega⟩ ⟨by omega, by omega⟩
      have hox := hBv.1.1 (othF (I 24) (I 25) v b) hx.1 hx.2
      have hEx := hE _ hx.1 hx.2
      have hav := hDJ.2.2 v (r b) (by omega) (by omega)
      refine m_aload_n dX12_soonest_211 rfl ?_
      refine m_gr (z := 17) dX12_soonest_212 fl_X12_48 oX_100 rfl rfl rX_100_17 ?_
      refine m_iload dX12_soonest_215 rfl ?_
      refine m_iald dX12_soonest_217 sX_112 (by omega) (by omega) ?_
      refine m_ldc (a := 1000000) dX12_soonest_218 kc_X12_167 rfl ?_
      rw [eJb]
      refine m_icmp_ge (tgt := 349) dX12_soonest_220 (by decide) (fun c220 => ?_) (fun c220 => ?_)
      · exact absurd c220 (by omega)
      · refine m_aload_n dX12_soonest_223 rfl ?_
        refine m_iload dX12_soonest_224 rfl ?_
        refine m_iload dX12_soonest_226 rfl ?_
        refine m_Vi [_, _] dX12_soonest_228 lk_X12_177 rfl oX_100 rfl (Nat.le_of_ble_eq_true rfl) (by omega) (y_isAt ⟨by omega, by omega⟩) ?_
        rw [e103, e104]
        refine m_if_eq (tgt := 343) dX12_soonest_231 (by decide) (fun c231 => ?_) (fun c231 => ?_)
        · have hat := bI_eq0 c231
          have hE2 : eq8 (J 112) (rlF (I 24) (I 25) (arF I q (kd = 2) n (t + 3000)) b S r (v + 1)) := by rw [er, cif_f (fun z => hat z.1)]; exact hE
          refine m_iinc dX12_soonest_343 rfl (by decide) rfl rfl (by omega) ?_
          refine m_goto (tgt := 202) dX12_soonest_346 (by decide) ?_
          first
          | exact ih (v + 1) J _ _ _ (by omega) (by omega) hF hE2
          | (refine ih (v + 1) _ _ _ _ (by omega) (by omega) (fun x hx => by rw [upI_o hx]; exact hF x hx) ?_
             rw [upI_112, er]
             by_cases z : S (othF (I 24) (I 25) v b)
             · rw [cif_f (fun y => y.2 z)]
               refine eq8_id hE (fun _ _ => ?_)
               rw [bI_t ((hbt _ hx.1 hx.2).mpr z), if_neg (fun y => y rfl)] at hth
               omega
             · rw [cif_t ⟨hat, z⟩]
               rw [bI_f (fun y => z ((hbt _ hx.1 hx.2).mp y)), if_pos (by decide)] at hth
               exact eq8_up hE (by rw [hEx, hth]))
        · have hat := bI_ne0 c231
          refine m_aload_n dX12_soonest_234 rfl ?_
          refine m_iload dX12_soonest_235 rfl ?_
          refine m_iload dX12_soonest_237 rfl ?_
          refine m_Vi [_, _] dX12_soonest_239 lk_X12_168 rfl oX_100 rfl (Nat.le_of_ble_eq_true rfl) (by omega) (y_otherEnd ⟨by omega, by omega⟩) ?_
          rw [e103, e104]
          refine m_istore dX12_soonest_242 (by decide) rfl rfl ?_
          refine m_iload dX12_soonest_244 rfl ?_
          refine m_iload dX12_soonest_246 rfl ?_
          refine m_ishr dX12_soonest_248 ?_
          refine m_iconst dX12_soonest_249 (by decide) ?_
          refine m_iand dX12_soonest_250 ?_
          refine m_iconst dX12_soonest_251 (by decide) ?_
          rw [e01]
          refine m_ticmp_ne (tgt := 260) (M := 285) dX12_soonest_252 (by decide) (fun c252 hM252 => by
              refine m_aload_n dX12_soonest_260 rfl ?_
              refine m_iload dX12_soonest_261 rfl ?_
              refine m_iload dX12_soonest_263 rfl ?_
              refine m_iload dX12_soonest_265 rfl ?_
              refine m_iload dX12_soonest_267 rfl ?_
              refine m_aload_n dX12_soonest_269 rfl ?_
              refine m_gr (z := 17) dX12_soonest_270 fl_X12_48 oX_100 rfl rfl rX_100_17 ?_
              refine m_iload dX12_soonest_273 rfl ?_
              refine m_iald dX12_soonest_275 sX_112 (by omega) (by omega) ?_
              rw [eJb]
              refine m_iload dX12_soonest_276 rfl ?_
              refine m_sipush dX12_soonest_278 rfl (by decide) ?_
              refine m_iadd dX12_soonest_281 (by omega) ?_
              refine m_Vi [_, _, _, _, _, _] dX12_soonest_282 lk_X12_216 rfl oX_100 rfl (Nat.le_of_ble_eq_true rfl) (by omega) (y_setsOut (by omega) hSJ hlJ hby (by rw [hF 21 (by decide)]; omega) hn ⟨by omega, by omega⟩ (by omega)) ?_
              exact hM252
            ) (fun c252 hM252 => by
              refine m_ldc (a := 1000000) dX12_soonest_255 kc_X12_167 rfl ?_
              refine m_goto (tgt := 285) dX12_soonest_257 (by decide) ?_
              exact hM252
            ) ?_
          refine m_top (if bI (bt s (othF (I 24) (I 25) v b)) ≠ 1 then soF I q (kd = 2) n (t + 3000) v (r b) else 1000000) (by rw [soF_112 hF (by rw [← hq]; exact hq112), ← hq]) ?_
          generalize hso : (if bI (bt s (othF (I 24) (I 25) v b)) ≠ 1 then soF I q (kd = 2) n (t + 3000) v (r b) else 1000000) = so
          have hso2 : so ≤ 1000000 ∧ 0 ≤ so ∧ (so ≠ 1000000 → so ≤ t + 3000) := by
            rw [← hso]
            have z := fsF_sp (I := I) (q := q) (pr := kd = 2) v (Kt I n v) (r b) (t + 3000 - Kt I n v)
            unfold soF
            by_cases y1 : bI (bt s (othF (I 24) (I 25) v b)) ≠ 1
            · rw [if_pos y1]
              by_cases y : fsF I q (kd = 2) v (Kt I n v) (r b) (t + 3000 - Kt I n v) = -1
              · rw [if_pos y]; omega
              · rw [if_neg y]; have := (z.resolve_left (fun x => y x.1)).1; omega
            · rw [if_neg y1]; omega
          refine m_istore dX12_soonest_285 (by decide) rfl rfl ?_
          refine m_iload dX12_soonest_287 rfl ?_
          refine m_ldc (a := 1000000) dX12_soonest_289 kc_X12_167 rfl ?_
          refine m_ticmp_ne (tgt := 299) (M := 310) dX12_soonest_291 (by decide) (fun c291 hM291 => by
              refine m_iload dX12_soonest_299 rfl ?_
              refine m_aload_n dX12_soonest_301 rfl ?_
              refine m_iload dX12_soonest_302 rfl ?_
              refine m_iload dX12_soonest_304 rfl ?_
              refine m_Vi [_, _] dX12_soonest_306 lk_X12_171 rfl oX_100 rfl (Nat.le_of_ble_eq_true rfl) (by omega) (y_takes ⟨by omega, by omega⟩ (by rw [e105]; exact hvk.2.2.2.1) ⟨by omega, by omega⟩) ?_
              rw [show (n + J 105 v - 1) / J 105 v = Kt I n v by rw [e105]]
              refine m_iadd dX12_soonest_309 (by have := hso2.2.2; omega) ?_
              exact hM291
            ) (fun c291 hM291 => by
              refine m_ldc (a := 1000000) dX12_soonest_294 kc_X12_167 rfl ?_
              refine m_goto (tgt := 310) dX12_soonest_296 (by decide) ?_
              exact hM291
            ) ?_
          refine m_top (if bI (bt s (othF (I 24) (I 25) v b)) ≠ 1 then (arF I q (kd = 2) n (t + 3000)) v (r b) else 1000000) (by
            rw [← hso]
            by_cases y1 : bI (bt s (othF (I 24) (I 25) v b)) ≠ 1
            · rw [if_pos y1, if_pos y1]
              exact soF_ar (by omega) (by omega) (by omega)
            · rw [if_neg y1, if_neg y1, if_neg (fun z => z rfl)]) ?_
          generalize hth : (if bI (bt s (othF (I 24) (I 25) v b)) ≠ 1 then (arF I q (kd = 2) n (t + 3000)) v (r b) else 1000000) = th
          refine m_istore dX12_soonest_310 (by decide) rfl rfl ?_
          refine m_aload_n dX12_soonest_312 rfl ?_
          refine m_gr (z := 17) dX12_soonest_313 fl_X12_48 oX_100 rfl rfl rX_100_17 ?_
          refine m_iload dX12_soonest_316 rfl ?_
          refine m_iload dX12_soonest_318 rfl ?_
          refine m_aload_n dX12_soonest_320 rfl ?_
          refine m_gr (z := 17) dX12_soonest_321 fl_X12_48 oX_100 rfl rfl rX_100_17 ?_
          refine m_iload dX12_soonest_324 rfl ?_
          refine m_iald dX12_soonest_326 sX_112 (by omega) (by omega) ?_
          refine m_ticmp_ge (tgt := 335) (M := 342) dX12_soonest_327 (by decide) (fun c327 hM327 => by
              refine m_aload_n dX12_soonest_335 rfl ?_
              refine m_gr (z := 17) dX12_soonest_336 fl_X12_48 oX_100 rfl rfl rX_100_17 ?_
              refine m_iload dX12_soonest_339 rfl ?_
              refine m_iald dX12_soonest_341 sX_112 (by omega) (by omega) ?_
              exact hM327
            ) (fun c327 hM327 => by
              refine m_iload dX12_soonest_330 rfl ?_
              refine m_goto (tgt := 342) dX12_soonest_332 (by decide) ?_
              exact hM327
            ) ?_
          refine m_top (min (J 112 (othF (I 24) (I 25) v b)) th) (by (repeat' split) <;> omega) ?_
          refine m_iast dX12_soonest_342 sX_112 (by omega) (by omega) ?_
          refine m_iinc dX12_soonest_343 rfl (by decide) rfl rfl (by omega) ?_
          refine m_goto (tgt := 202) dX12_soonest_346 (by decide) ?_
          first
          | exact ih (v + 1) J _ _ _ (by omega) (by omega) hF hE2
          | (refine ih (v + 1) _ _ _ _ (by omega) (by omega) (fun x hx => by rw [upI_o hx]; exact hF x hx) ?_
             rw [upI_112, er]
             by_cases z : S (othF (I 24) (I 25) v b)
             · rw [cif_f (fun y => y.2 z)]
               refine eq8_id hE (fun _ _ => ?_)
               rw [bI_t ((hbt _ hx.1 hx.2).mpr z), if_neg (fun y => y rfl)] at hth
               omega
             · rw [cif_t ⟨hat, z⟩]
               rw [bI_f (fun y => z ((hbt _ hx.1 hx.2).mp y)), if_pos (by decide)] at hth
               exact eq8_up hE (by rw [hEx, hth]))
theorem y_sn_turns {fr to wd kd t by_ n : Int} {q : Nat} {Q : QT} (hd : 4 ≤ d) (hS : SttI I nm no) (hlw : I 100 12 = -9) (hby : -1 ≤ by_ ∧ by_ < no) (hq : q = oid no by_) (hn : 1 ≤ n ∧ n ≤ 198) (ht : 0 ≤ t ∧ t ≤ 9000) (hf : 0 ≤ fr ∧ fr < 8) (hto : 0 ≤ to ∧ to < 8)
    (h : ∀ J, Fr112 I J → Q (some (vi (anS ((djF (I 24) (I 25) (arF I q (kd = 2) n (t + 3000)) (fun x => if x = fr then t else 1000000) (I 21 9).toNat 8).1 to)))) (shX nm no) (RX nm no) J) :
    ∀ (m k : Nat) (J : II) (s : Int) (l10 l11 l12 l13 l14 : Option AV), 8 - k < m → k ≤ 8 → Fr112 I J → eq8 (J 112) (djF (I 24) (I 25) (arF I q (kd = 2) n (t + 3000)) (fun x => if x = fr then t else 1000000) (I 21 9).toNat k).1 → (0 ≤ s ∧ s < 4096) → (∀ j, 0 ≤ j → j < 8 → (bt s j ↔ (djF (I 24) (I 25) (arF I q (kd = 2) n (t + 3000)) (fun x => if x = fr then t else 1000000) (I 21 9).toNat k).2 j)) → ctF (djF (I 24) (I 25) (arF I q (kd = 2) n (t + 3000)) (fun x => if x = fr then t else 1000000) (I 21 9).toNat k).2 8 = k → T g d mX12_soonest 0 0 122 [some (vr 100), some (vi fr), some (vi to), some (vi wd), some (vi kd), some (vi t), some (vi by_), some (vi n), some (vi s), some (vi k), l10, l11, l12, l13, l14] [] (shX nm no) (RX nm no) J Q := by
  have hDJ := djOK_of (q := q) (pr := kd = 2) (m0 := t) hS.1.1 hn.1 (show 0 ≤ t ∧ t ≤ t + 3000 ∧ t + 3000 < 1000000 by omega)
  have h0 : bdI t (t + 3000) (fun x => if x = fr then t else 1000000) := ⟨fun j _ _ => by show t ≤ (if j = fr then t else 1000000) ∧ ((if j = fr then t else 1000000) = 1000000 ∨ (if j = fr then t else 1000000) ≤ t + 3000); split <;> omega, if_neg (by omega)⟩
  intro m
  induction m with
  | zero => intro k J s l10 l11 l12 l13 l14 hm2; omega
  | succ m ih =>
    intro k J s l10 l11 l12 l13 l14 hm2 hk hF hE hs hbt hct
    have hB := dj_bd hDJ h0 k
    refine m_iload dX12_soonest_122 rfl ?_
    refine m_bipush dX12_soonest_124 rfl (by decide) ?_
    refine m_icmp_ge (tgt := 355) dX12_soonest_126 (by decide) (fun c126 => ?_) (fun c126 => ?_)
    · have ek : k = 8 := by omega
      subst ek
      refine m_aload_n dX12_soonest_355 rfl ?_
      refine m_gr (z := 17) dX12_soonest_356 fl_X12_48 oX_100 rfl rfl rX_100_17 ?_
      refine m_iload_n dX12_soonest_359 rfl ?_
      refine m_iald dX12_soonest_360 sX_112 (by omega) (by omega) ?_
      rw [hE to hto.1 hto.2]
      refine m_ldc (a := 1000000) dX12_soonest_361 kc_X12_167 rfl ?_
      refine m_ticmp_ne (tgt := 370) (M := 376) dX12_soonest_363 (by decide) (fun c363 hM363 => by
          refine m_aload_n dX12_soonest_370 rfl ?_
          refine m_gr (z := 17) dX12_soonest_371 fl_X12_48 oX_100 rfl rfl rX_100_17 ?_
          refine m_iload_n dX12_soonest_374 rfl ?_
          refine m_iald dX12_soonest_375 sX_112 (by omega) (by omega) ?_
          exact hM363
        ) (fun c363 hM363 => by
          refine m_iconst dX12_soonest_366 (by decide) ?_
          refine m_goto (tgt := 376) dX12_soonest_367 (by decide) ?_
          exact hM363
        ) ?_
      refine m_top (anS ((djF (I 24) (I 25) (arF I q (kd = 2) n (t + 3000)) (fun x => if x = fr then t else 1000000) (I 21 9).toNat 8).1 to)) (by rw [hE to hto.1 hto.2]; unfold anS; (repeat' split) <;> first | rfl | omega) ?_
      refine m_iret dX12_soonest_376 rfl ?_
      exact h J hF
    · refine m_iconst dX12_soonest_129 (by decide) ?_
      refine m_istore dX12_soonest_130 (by decide) rfl rfl ?_
      refine m_iconst dX12_soonest_132 (by decide) ?_
      refine m_istore dX12_soonest_133 (by decide) rfl rfl ?_
      refine y_sn_best (I := J) hs (fun l11 => ?_) 9 0 (by omega) (by omega)
      have edb : dbF (J 112) (fun j => bt s j) 8 = dbF (djF (I 24) (I 25) (arF I q (kd = 2) n (t + 3000)) (fun x => if x = fr then t else 1000000) (I 21 9).toNat k).1 (djF (I 24) (I 25) (arF I q (kd = 2) n (t + 3000)) (fun x => if x = fr then t else 1000000) (I 21 9).toNat k).2 8 := db_congr hE hbt 8 (Nat.le_refl _)
      have hbd := db_bd (djF (I 24) (I 25) (arF I q (kd = 2) n (t + 3000)) (fun x => if x = fr then t else 1000000) (I 21 9).toNat k).1 (djF (I 24) (I 25) (arF I q (kd = 2) n (t + 3000)) (fun x => if x = fr then t else 1000000) (I 21 9).toNat k).2 8
      have hne : dbF (djF (I 24) (I 25) (arF I q (kd = 2) n (t + 3000)) (fun x => if x = fr then t else 1000000) (I 21 9).toNat k).1 (djF (I 24) (I 25) (arF I q (kd = 2) n (t + 3000)) (fun x => if x = fr then t else 1000000) (I 21 9).toNat k).2 8 ≠ -1 := fun z => by
        have := ct_full (djF (I 24) (I 25) (arF I q (kd = 2) n (t + 3000)) (fun x => if x = fr then t else 1000000) (I 21 9).toNat k).2 8 (fun j hj => db_none _ _ 8 z j (by omega) (by omega))
        omega
      rw [edb]
      obtain ⟨b, eb⟩ : ∃ b : Nat, dbF (djF (I 24) (I 25) (arF I q (kd = 2) n (t + 3000)) (fun x => if x = fr then t else 1000000) (I 21 9).toNat k).1 (djF (I 24) (I 25) (arF I q (kd = 2) n (t + 3000)) (fun x => if x = fr then t else 1000000) (I 21 9).toNat k).2 8 = b := ⟨(dbF (djF (I 24) (I 25) (arF I q (kd = 2) n (t + 3000)) (fun x => if x = fr then t else 1000000) (I 21 9).toNat k).1 (djF (I 24) (I 25) (arF I q (kd = 2) n (t + 3000)) (fun x => if x = fr then t else 1000000) (I 21 9).toNat k).2 8).toNat, by omega⟩
      have hnS := (db_min (djF (I 24) (I 25) (arF I q (kd = 2) n (t + 3000)) (fun x => if x = fr then t else 1000000) (I 21 9).toNat k).1 (djF (I 24) (I 25) (arF I q (kd = 2) n (t + 3000)) (fun x => if x = fr then t else 1000000) (I 21 9).toNat k).2 8 (by omega)).1
      rw [eb] at hnS hbd ⊢
      have hbo := fun j : Int => fun (j0 : 0 ≤ j) => bt_or (j := j) hs.1 hs.2 (show (0 : Int) ≤ b by omega) (show (b : Int) < 12 by omega) j0
      have hs2 : 0 ≤ f_ior s (f_ishl 1 b) ∧ f_ior s (f_ishl 1 b) < 4096 := ⟨(hbo 0 (by omega)).1, (hbo 0 (by omega)).2.1⟩
      have hbt2 : ∀ j, 0 ≤ j → j < 8 → (bt (f_ior s (f_ishl 1 b)) j ↔ ((djF (I 24) (I 25) (arF I q (kd = 2) n (t + 3000)) (fun x => if x = fr then t else 1000000) (I 21 9).toNat k).2 j ∨ j = b)) := fun j j0 j1 => by rw [(hbo j j0).2.2, hbt j j0 j1]
      have ca := ct_add (djF (I 24) (I 25) (arF I q (kd = 2) n (t + 3000)) (fun x => if x = fr then t else 1000000) (I 21 9).toNat k).2 b 8 hnS
      rw [hct, if_pos (by omega)] at ca
      have e2 : (djF (I 24) (I 25) (arF I q (kd = 2) n (t + 3000)) (fun x => if x = fr then t else 1000000) (I 21 9).toNat (k + 1)).2 = fun x => (djF (I 24) (I 25) (arF I q (kd = 2) n (t + 3000)) (fun x => if x = fr then t else 1000000) (I 21 9).toNat k).2 x ∨ x = (b : Int) := by funext x; rw [propext dj_2, eb]
      refine m_iload dX12_soonest_190 rfl ?_
      refine m_iconst dX12_soonest_192 (by decide) ?_
      refine m_iload dX12_soonest_193 rfl ?_
      refine m_ishl dX12_soonest_195 ?_
      refine m_ior dX12_soonest_196 ?_
      refine m_istore dX12_soonest_197 (by decide) rfl rfl ?_
      refine m_iconst dX12_soonest_199 (by decide) ?_
      refine m_istore dX12_soonest_200 (by decide) rfl rfl ?_
      by_cases hlt : (djF (I 24) (I 25) (arF I q (kd = 2) n (t + 3000)) (fun x => if x = fr then t else 1000000) (I 21 9).toNat k).1 b < 1000000
      · have er1 : (djF (I 24) (I 25) (arF I q (kd = 2) n (t + 3000)) (fun x => if x = fr then t else 1000000) (I 21 9).toNat (k + 1)).1 = rlF (I 24) (I 25) (arF I q (kd = 2) n (t + 3000)) b (fun x => (djF (I 24) (I 25) (arF I q (kd = 2) n (t + 3000)) (fun x => if x = fr then t else 1000000) (I 21 9).toNat k).2 x ∨ x = (b : Int)) (djF (I 24) (I 25) (arF I q (kd = 2) n (t + 3000)) (fun x => if x = fr then t else 1000000) (I 21 9).toNat k).1 (I 21 9).toNat := by rw [dj_1, eb, cif_t hlt]
        refine y_sn_wires (b := b) (S := fun x => (djF (I 24) (I 25) (arF I q (kd = 2) n (t + 3000)) (fun x => if x = fr then t else 1000000) (I 21 9).toNat k).2 x ∨ x = (b : Int)) (r := (djF (I 24) (I 25) (arF I q (kd = 2) n (t + 3000)) (fun x => if x = fr then t else 1000000) (I 21 9).toNat k).1) hd hS hlw hby hq hn ht ⟨by omega, by omega⟩ hB.1 hlt (Or.inr rfl) hs2 hbt2 (fun L l11 l12 l13 l14 hL hEL => ?_) _ 0 J _ _ _ (Nat.lt_succ_self _) (by omega) hF hE
        refine m_iinc dX12_soonest_349 rfl (by decide) rfl rfl (by omega) ?_
        refine m_goto (tgt := 122) dX12_soonest_352 (by decide) ?_
        exact ih (k + 1) L _ _ _ _ _ _ (by omega) (by omega) hL (by rw [er1]; exact hEL) hs2 (by rw [e2]; exact hbt2) (by rw [e2]; exact ca)
      · have er1 : (djF (I 24) (I 25) (arF I q (kd = 2) n (t + 3000)) (fun x => if x = fr then t else 1000000) (I 21 9).toNat (k + 1)).1 = (djF (I 24) (I 25) (arF I q (kd = 2) n (t + 3000)) (fun x => if x = fr then t else 1000000) (I 21 9).toNat k).1 := by rw [dj_1, eb, cif_f hlt]
        have eJb := hE b (by omega) (by omega)
        refine m_iload dX12_soonest_202 rfl ?_
        refine m_aload_n dX12_soonest_204 rfl ?_
        refine m_gi (z := 3) dX12_soonest_205 fl_X12_127 oX_100 rfl rfl ?_
        refine m_icmp_ge (tgt := 349) dX12_soonest_208 (by decide) (fun c208 => ?_) (fun c208 => ?_)
        · refine m_iinc dX12_soonest_349 rfl (by decide) rfl rfl (by omega) ?_
          refine m_goto (tgt := 122) dX12_soonest_352 (by decide) ?_
          exact ih (k + 1) J _ _ _ _ _ _ (by omega) (by omega) hF (by rw [er1]; exact hE) hs2 (by rw [e2]; exact hbt2) (by rw [e2]; exact ca)
        · refine m_aload_n dX12_soonest_211 rfl ?_
          refine m_gr (z := 17) dX12_soonest_212 fl_X12_48 oX_100 rfl rfl rX_100_17 ?_
          refine m_iload dX12_soonest_215 rfl ?_
          refine m_iald dX12_soonest_217 sX_112 (by omega) (by omega) ?_
          refine m_ldc (a := 1000000) dX12_soonest_218 kc_X12_167 rfl ?_
          refine m_icmp_ge (tgt := 349) dX12_soonest_220 (by decide) (fun c220 => ?_) (fun c220 => ?_)
          · refine m_iinc dX12_soonest_349 rfl (by decide) rfl rfl (by omega) ?_
            refine m_goto (tgt := 122) dX12_soonest_352 (by decide) ?_
            exact ih (k + 1) J _ _ _ _ _ _ (by omega) (by omega) hF (by rw [er1]; exact hE) hs2 (by rw [e2]; exact hbt2) (by rw [e2]; exact ca)
          · exact absurd (show (1000000 : Int) ≤ _ by omega) c220
theorem y_sn_init {fr to wd kd t by_ n s : Int} {Q : QT} (hk : ∀ (J : II) (l9 : Int), Fr112 I J → (∀ x, 0 ≤ x → x < 8 → J 112 x = if x = fr then t else 1000000) → T g d mX12_soonest 0 0 119 [some (vr 100), some (vi fr), some (vi to), some (vi wd), some (vi kd), some (vi t), some (vi by_), some (vi n), some (vi s), some (vi l9), none, none, none, none, none] [] (shX nm no) (RX nm no) J Q) :
    ∀ (m : Nat) (k : Int) (J : II), (8 - k).toNat < m → 0 ≤ k → k ≤ 8 → Fr112 I J → (∀ x, 0 ≤ x → x < k → J 112 x = if x = fr then t else 1000000) → T g d mX12_soonest 0 0 86 [some (vr 100), some (vi fr), some (vi to), some (vi wd), some (vi kd), some (vi t), some (vi by_), some (vi n), some (vi s), some (vi k), none, none, none, none, none] [] (shX nm no) (RX nm no) J Q := by
  intro m
  induction m with
  | zero => intro k J hm; omega
  | succ m ih =>
    intro k J hm h0 h1 hF hx
    refine m_iload dX12_soonest_86 rfl ?_
    refine m_bipush dX12_soonest_88 rfl (by decide) ?_
    refine m_icmp_ge (tgt := 119) dX12_soonest_90 (by decide) (fun c90 => ?_) (fun c90 => ?_)
    · exact hk J _ hF (fun x x0 x1 => hx x x0 (by omega))
    · refine m_aload_n dX12_soonest_93 rfl ?_
      refine m_gr (z := 17) dX12_soonest_94 fl_X12_48 oX_100 rfl rfl rX_100_17 ?_
      refine m_iload dX12_soonest_97 rfl ?_
      refine m_iload dX12_soonest_99 rfl ?_
      refine m_iload_n dX12_soonest_101 rfl ?_
      refine m_ticmp_ne (tgt := 110) (M := 112) dX12_soonest_102 (by decide) (fun c102 hM102 => by
          refine m_ldc (a := 1000000) dX12_soonest_110 kc_X12_167 rfl ?_
          exact hM102
        ) (fun c102 hM102 => by
          refine m_iload dX12_soonest_105 rfl ?_
          refine m_goto (tgt := 112) dX12_soonest_107 (by decide) ?_
          exact hM102
        ) ?_
      refine m_top (if k = fr then t else 1000000) (by (repeat' split) <;> first | rfl | omega) ?_
      refine m_iast dX12_soonest_112 sX_112 (by omega) (by omega) ?_
      refine m_iinc dX12_soonest_113 rfl (by decide) rfl rfl (by omega) ?_
      refine m_goto (tgt := 86) dX12_soonest_116 (by decide) ?_
      refine ih (k + 1) _ (by omega) (by omega) (by omega) (fun x hx => by rw [upI_o hx]; exact hF x hx) (fun x x0 x1 => ?_)
      by_cases e : x = k
      · subst e; rw [upI_s]
      · rw [upI_j e]; exact hx x x0 (by omega)
theorem py_soonest {fr to wd kd t : Int} (hd : 5 ≤ d) (hS : SttI I nm no) (hlw : I 100 12 = -9) (h0 : I 100 0 = I 43 5) (hn0 : 0 ≤ I 43 5) : SI g d mX12_soonest [vr 100, vi fr, vi to, vi wd, vi kd, vi t] (shX nm no) (RX nm no) I (fun r J => r = aSoo fr to wd kd t (I 43 5) (sooF I no fr to wd kd t) ∧ Fr112 I J) := by
  intro Q h
  refine C_of rfl (Nat.le_of_ble_eq_true rfl) rfl ?_
  refine m_iload_n dX12_soonest_0 rfl ?_
  refine m_Si [_] dX12_soonest_1 lk_X12_133 rfl rfl (Nat.le_of_ble_eq_true rfl) (by omega) (y_isOffice (by omega)) ?_
  refine m_if_eq (tgt := 19) dX12_soonest_4 (by decide) (fun c4 => ?_) (fun c4 => ?_)
  · have z4 := bI_eq0 c4
    refine m_bipush dX12_soonest_19 rfl (by decide) ?_
    refine m_iret dX12_soonest_21 rfl ?_
    exact h _ _ ⟨by unfold aSoo; rw [if_neg (by omega)], fun _ _ => rfl⟩
  · have z4 := bI_ne0 c4
    refine m_iload_n dX12_soonest_7 rfl ?_
    refine m_Si [_] dX12_soonest_8 lk_X12_133 rfl rfl (Nat.le_of_ble_eq_true rfl) (by omega) (y_isOffice (by omega)) ?_
    refine m_if_eq (tgt := 19) dX12_soonest_11 (by decide) (fun c11 => ?_) (fun c11 => ?_)
    · have z11 := bI_eq0 c11
      refine m_bipush dX12_soonest_19 rfl (by decide) ?_
      refine m_iret dX12_soonest_21 rfl ?_
      exact h _ _ ⟨by unfold aSoo; rw [if_neg (by omega)], fun _ _ => rfl⟩
    · have z11 := bI_ne0 c11
      refine m_iload_n dX12_soonest_14 rfl ?_
      refine m_iload_n dX12_soonest_15 rfl ?_
      refine m_icmp_ne (tgt := 22) dX12_soonest_16 (by decide) (fun c16 => ?_) (fun c16 => ?_)
      · refine m_iload_n dX12_soonest_22 rfl ?_
        refine m_iconst dX12_soonest_23 (by decide) ?_
        refine m_bipush dX12_soonest_24 rfl (by decide) ?_
        refine m_Si [_, _, _] dX12_soonest_26 lk_X12_123 rfl rfl (Nat.le_of_ble_eq_true rfl) (by omega) y_in ?_
        refine m_if_eq (tgt := 57) dX12_soonest_29 (by decide) (fun c29 => ?_) (fun c29 => ?_)
        · have z29 := bI_eq0 c29
          refine m_bipush dX12_soonest_57 rfl (by decide) ?_
          refine m_iret dX12_soonest_59 rfl ?_
          exact h _ _ ⟨by unfold aSoo; rw [if_pos ⟨z4, z11, c16⟩, if_neg (by omega)], fun _ _ => rfl⟩
        · have z29 := bI_ne0 c29
          refine m_iload dX12_soonest_32 rfl ?_
          refine m_iconst dX12_soonest_34 (by decide) ?_
          refine m_iconst dX12_soonest_35 (by decide) ?_
          refine m_Si [_, _, _] dX12_soonest_36 lk_X12_123 rfl rfl (Nat.le_of_ble_eq_true rfl) (by omega) y_in ?_
          refine m_if_eq (tgt := 57) dX12_soonest_39 (by decide) (fun c39 => ?_) (fun c39 => ?_)
          · have z39 := bI_eq0 c39
            refine m_bipush dX12_soonest_57 rfl (by decide) ?_
            refine m_iret dX12_soonest_59 rfl ?_
            exact h _ _ ⟨by unfold aSoo; rw [if_pos ⟨z4, z11, c16⟩, if_neg (by omega)], fun _ _ => rfl⟩
          · have z39 := bI_ne0 c39
            refine m_iload dX12_soonest_42 rfl ?_
            refine m_aload_n dX12_soonest_44 rfl ?_
            refine m_gi (z := 0) dX12_soonest_45 fl_X12_144 oX_100 rfl rfl ?_
            refine m_sipush dX12_soonest_48 rfl (by decide) ?_
            refine m_Si [_, _, _] dX12_soonest_51 lk_X12_123 rfl rfl (Nat.le_of_ble_eq_true rfl) (by omega) y_in ?_
            refine m_if_ne (tgt := 60) dX12_soonest_54 (by decide) (fun c54 => ?_) (fun c54 => ?_)
            · have z54 := bI_ne0 c54
              refine m_aload_n dX12_soonest_60 rfl ?_
              refine m_iload_n dX12_soonest_61 rfl ?_
              refine m_iload dX12_soonest_62 rfl ?_
              refine m_Vi [_, _] dX12_soonest_64 lk_X12_157 rfl oX_100 rfl (Nat.le_of_ble_eq_true rfl) (by omega) (y_ordersOf hS.2.2.1.1.1 hS.2.2.1.1.2.1 ⟨by omega, by omega⟩) ?_
              have ob := gbF_bd I fr t no
              rw [ob_gb hS.2.2.1 ⟨by omega, by omega⟩]
              refine m_istore dX12_soonest_67 (by decide) rfl rfl ?_
              refine m_aload_n dX12_soonest_69 rfl ?_
              refine m_iload_n dX12_soonest_70 rfl ?_
              refine m_iload dX12_soonest_71 rfl ?_
              refine m_iload dX12_soonest_73 rfl ?_
              refine m_Vi [_, _, _] dX12_soonest_75 lk_X12_180 rfl oX_100 rfl (Nat.le_of_ble_eq_true rfl) (by omega) (y_wordsOf (by omega) hS.2.2.1.1 ⟨ob.1, ob.2⟩ ⟨by omega, by omega⟩) ?_
              rw [ws_of hS.2.2.1 ⟨ob.1, ob.2⟩ ⟨by omega, by omega⟩]
              refine m_istore dX12_soonest_78 (by decide) rfl rfl ?_
              refine m_iconst dX12_soonest_80 (by decide) ?_
              refine m_istore dX12_soonest_81 (by decide) rfl rfl ?_
              refine m_iconst dX12_soonest_83 (by decide) ?_
              refine m_istore dX12_soonest_84 (by decide) rfl rfl ?_
              refine y_sn_init (fun J l9 hF hx => ?_) 9 0 I (by omega) (by omega) (by omega) (fun _ _ => rfl) (fun x a b => by omega)
              refine m_iconst dX12_soonest_119 (by decide) ?_
              refine m_istore dX12_soonest_120 (by decide) rfl rfl ?_
              refine y_sn_turns (q := oid no (gbF I fr t no)) (by omega) hS hlw ⟨ob.1, ob.2⟩ rfl (wsX_bd (by omega)) (by omega) (by omega) (by omega) (fun K hK => h _ K ⟨by unfold aSoo; rw [if_pos ⟨z4, z11, c16⟩, if_pos ⟨z29, z39, by omega⟩]; rfl, hK⟩) 9 0 J 0 _ _ _ _ _ (by omega) (by omega) hF hx (by omega) (fun j _ _ => ⟨fun z => absurd z (bt_0 j), fun z => z.elim⟩) ?_
              have : ∀ n : Nat, ctF (fun _ => False) n = 0 := by
                intro n
                induction n with
                | zero => rfl
                | succ n ih => unfold ctF; rw [ih, cif_f (fun z => z)]
              exact this 8
            · have z54 := bI_eq0 (show _ = (0 : Int) by omega)
              refine m_bipush dX12_soonest_57 rfl (by decide) ?_
              refine m_iret dX12_soonest_59 rfl ?_
              exact h _ _ ⟨by unfold aSoo; rw [if_pos ⟨z4, z11, c16⟩, if_neg (by omega)], fun _ _ => rfl⟩
      · refine m_bipush dX12_soonest_19 rfl (by decide) ?_
        refine m_iret dX12_soonest_21 rfl ?_
        exact h _ _ ⟨by unfold aSoo; rw [if_neg (by omega)], fun _ _ => rfl⟩
end
