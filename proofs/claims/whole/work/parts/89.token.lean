/-! THE REFERENCE: nextToken -/
section
variable {g : GH} {d nm no : Nat} {I : II}
def haF (f : Int → Int) (s : Int) : Nat → Int
  | 0 => 0
  | k + 1 => 27 * haF f s k + f (s + k) - 96
theorem haF_bd {f : Int → Int} {s : Int} : ∀ k : Nat, (∀ i : Nat, i < k → isLe (f (s + i))) → 0 ≤ haF f s k ∧ haF f s k < ((27 ^ k : Nat) : Int) ∧ (1 ≤ k → 1 ≤ haF f s k)
  | 0, _ => ⟨Int.le_refl 0, by show (0 : Int) < ((27 ^ 0 : Nat) : Int); decide, fun h => by omega⟩
  | k + 1, h => by
    have ih := haF_bd k (fun i hi => h i (by omega))
    have hk := h k (by omega)
    unfold isLe at hk
    rw [Nat.pow_succ]
    show 0 ≤ 27 * haF f s k + f (s + k) - 96 ∧ 27 * haF f s k + f (s + k) - 96 < _ ∧ (_ → 1 ≤ 27 * haF f s k + f (s + k) - 96)
    generalize 27 ^ k = N at ih ⊢
    omega
theorem haF_big {f : Int → Int} {s : Int} {k : Nat} (hk : k ≤ 9) (h : ∀ i : Nat, i < k → isLe (f (s + i))) : 0 ≤ haF f s k ∧ haF f s k < 7625597484987 := by
  have h1 := haF_bd k h
  have h2 := Nat.pow_le_pow_right (show 0 < 27 by omega) hk
  have h3 : (27 : Nat) ^ 9 = 7625597484987 := by decide
  rw [h3] at h2
  generalize 27 ^ k = N at h1 h2
  omega
theorem haF_inj {f f' : Int → Int} {s s' : Int} : ∀ k m : Nat, (∀ i : Nat, i < k → isLe (f (s + i))) → (∀ i : Nat, i < m → isLe (f' (s' + i))) → haF f s k = haF f' s' m → k = m ∧ ∀ i : Nat, i < k → f (s + i) = f' (s' + i)
  | 0, 0, _, _, _ => ⟨rfl, fun i hi => by omega⟩
  | 0, m + 1, _, h', e => by
    have h1 := (haF_bd (m + 1) h').2.2 (by omega)
    have e0 : haF f s 0 = 0 := rfl
    omega
  | k + 1, 0, h, _, e => by
    have h1 := (haF_bd (k + 1) h).2.2 (by omega)
    have e0 : haF f' s' 0 = 0 := rfl
    omega
  | k + 1, m + 1, h, h', e => by
    have hk := h k (by omega)
    have hm := h' m (by omega)
    unfold isLe at hk hm
    have e1 : 27 * haF f s k + f (s + k) - 96 = 27 * haF f' s' m + f' (s' + m) - 96 := e
    have e2 : haF f s k = haF f' s' m := by omega
    obtain ⟨a, b⟩ := haF_inj k m (fun i hi => h i (by omega)) (fun i hi => h' i (by omega)) e2
    subst a
    refine ⟨rfl, fun i hi => ?_⟩
    rcases (show i < k ∨ i = k by omega) with z | z
    · exact b i z
    · subst z; omega
theorem haF_eq {f f' : Int → Int} {s s' : Int} : ∀ k : Nat, (∀ i : Nat, i < k → f (s + i) = f' (s' + i)) → haF f s k = haF f' s' k
  | 0, _ => rfl
  | k + 1, h => by
    show 27 * haF f s k + f (s + k) - 96 = 27 * haF f' s' k + f' (s' + k) - 96
    rw [haF_eq k (fun i hi => h i (by omega)), h k (by omega)]
def ltrF (i : Nat) : Int → Int := fun j => litC i j.toNat
def hwL : List Int := [355412, 8740238, 311034809, 8861527, 10492313, 7214344, 11716, 7622660, 555, 261256151, 6476969, 40187]
theorem hw_ok : ∀ i : Fin 12, haF (ltrF i.val) 0 (litL.getD i.val 0) = hwL.getD i.val 0 ∧ 0 < hwL.getD i.val 0 := by decide +kernel
/-- what the reference says of the token behind p: t the token, v the number -/
noncomputable def tkV (f : Int → Int) (n p t v : Int) : Prop :=
  (tS f n p = n ∧ t = -2) ∨ (tS f n p < n ∧ isLe (f (tS f n p)) ∧ t = if tE f n p - tS f n p ≤ 9 then haF f (tS f n p) (tE f n p - tS f n p).toNat else -4) ∨ (tS f n p < n ∧ isDg (f (tS f n p)) ∧ ((tE f n p - tS f n p ≤ 2 ∧ t = -1 ∧ v = nvF f n p) ∨ (2 < tE f n p - tS f n p ∧ t = -4))) ∨ (tS f n p < n ∧ ¬ isLe (f (tS f n p)) ∧ ¬ isDg (f (tS f n p)) ∧ t = if f (tS f n p) = 59 then -3 else -4)
section
variable {f : Int → Int} {n p t v : Int}
theorem te_le (hp : p ≤ n) (h : tS f n p < n) (hl : isLe (f (tS f n p))) : ∀ i : Nat, i < (tE f n p - tS f n p).toNat → isLe (f (tS f n p + i)) := fun i hi => by
  rcases tE_sp (f := f) hp with z | ⟨_, _, z | z | z⟩
  · omega
  · exact z.2.1 _ (by omega) (by omega)
  · exact (le_dg hl z.1).elim
  · exact absurd hl z.1
theorem tv_hash (hp : p ≤ n) (h : tS f n p < n) (hl : isLe (f (tS f n p))) (ht : t = if tE f n p - tS f n p ≤ 9 then haF f (tS f n p) (tE f n p - tS f n p).toNat else -4) : (0 < t ∨ t = -4) := by
  have hb := t_bd (f := f) hp
  by_cases z : tE f n p - tS f n p ≤ 9
  · rw [if_pos z] at ht
    have := (haF_bd _ (te_le hp h hl)).2.2 (by omega)
    omega
  · rw [if_neg z] at ht; exact Or.inr ht
theorem tv_end (hp : p ≤ n) (h : tkV f n p t v) : t = -2 ↔ tS f n p = n := by
  rcases h with z | z | z | z
  · exact ⟨fun _ => z.1, fun _ => z.2⟩
  · have := tv_hash hp z.1 z.2.1 z.2.2
    constructor <;> intro y <;> omega
  · have z1 := z.1
    have z2 := z.2.2
    constructor <;> intro y <;> omega
  · have z1 := z.1
    have z2 := z.2.2.2
    constructor
    · intro y; rw [z2] at y; split at y <;> omega
    · intro y; omega
theorem tv_semi (hp : p ≤ n) (h : tkV f n p t v) : t = -3 ↔ seP f n p := by
  unfold seP
  rcases h with z | z | z | z
  · constructor <;> intro y <;> omega
  · have := tv_hash hp z.1 z.2.1 z.2.2
    have z3 := z.2.1
    unfold isLe at z3
    constructor <;> intro y <;> omega
  · have z1 := z.2.1
    have z2 := z.2.2
    unfold isDg at z1
    constructor <;> intro y <;> omega
  · have z2 := z.2.2.2
    constructor
    · intro y; rw [z2] at y; split at y
      · exact ⟨z.1, by assumption⟩
      · omega
    · intro y; rw [z2, if_pos y.2]
theorem tv_num {mo : Int} (hp : p ≤ n) (h : tkV f n p t v) : (t = -1 ∧ 0 ≤ v ∧ v ≤ mo) ↔ nuP f n p mo := by
  have hb := t_bd (f := f) hp
  constructor
  · rintro ⟨y, y0, y1⟩
    rcases h with z | z | z | z
    · omega
    · have := tv_hash hp z.1 z.2.1 z.2.2
      omega
    · obtain ⟨z1, z2, z3⟩ := z
      refine ⟨⟨z1, z2, by omega⟩, by omega⟩
    · have z2 := z.2.2.2
      rw [z2] at y; split at y <;> omega
  · intro y
    have hn := nu_bd hp y
    obtain ⟨⟨y1, y2, y3⟩, y4⟩ := y
    rcases h with z | z | z | z
    · omega
    · exact (le_dg z.2.1 y2).elim
    · have z3 := z.2.2
      omega
    · exact absurd y2 z.2.2.1
theorem tv_word {i : Nat} (hi : i < 12) (hp : p ≤ n) (h : tkV f n p t v) : t = hwL.getD i 0 ↔ wdP f n p i := by
  have hb := t_bd (f := f) hp
  have hw := hw_ok ⟨i, hi⟩
  have hl := lit_ok ⟨i, hi⟩
  have w1 : haF (ltrF i) 0 (litL.getD i 0) = hwL.getD i 0 := hw.1
  have w2 : 0 < hwL.getD i 0 := hw.2
  have l1 : 1 ≤ litL.getD i 0 ∧ litL.getD i 0 ≤ 6 := hl.1
  have l2 : ∀ k : Nat, k < litL.getD i 0 → isLe (ltrF i (0 + k)) ∧ ltrF i (0 + k) = litC i k := fun k hk => by
    have q := hl.2.2 ⟨k, by omega⟩ hk
    have e : ltrF i (0 + (k : Int)) = litC i k := by unfold ltrF; rw [Int.zero_add, Int.toNat_natCast]
    rw [e]; exact ⟨⟨q.2.2.1, q.2.2.2⟩, rfl⟩
  constructor
  · intro y
    rcases h with z | z | z | z
    · omega
    · obtain ⟨z1, z2, z3⟩ := z
      by_cases z9 : tE f n p - tS f n p ≤ 9
      · rw [if_pos z9, y, ← w1] at z3
        obtain ⟨e1, e2⟩ := haF_inj _ _ (te_le hp z1 z2) (fun k hk => (l2 k hk).1) z3.symm
        refine ⟨by omega, fun k hk => ?_⟩
        rw [e2 k (by omega)]; exact (l2 k hk).2
      · rw [if_neg z9] at z3; omega
    · have := z.2.2; omega
    · have z2 := z.2.2.2
      rw [z2] at y; split at y <;> omega
  · intro y
    obtain ⟨y1, y2⟩ := y
    have hs : tS f n p < n := by omega
    have h0 := y2 0 (by omega)
    have h00 := l2 0 (by omega)
    have hle : isLe (f (tS f n p)) := by
      have e : tS f n p + ((0 : Nat) : Int) = tS f n p := Int.add_zero _
      rw [e] at h0; rw [h0, ← h00.2]; exact h00.1
    rcases h with z | z | z | z
    · omega
    · rw [z.2.2, if_pos (by omega), ← w1, show (tE f n p - tS f n p).toNat = litL.getD i 0 by omega]
      exact haF_eq _ (fun k hk => by rw [y2 k hk]; exact (l2 k hk).2.symm)
    · exact (le_dg hle z.2.1).elim
    · exact absurd hle z.2.1
end
def FrY (I J : II) : Prop := (∀ x, x ≠ 100 → J x = I x) ∧ ∀ j : Int, (j < 20 ∨ 24 < j) → J 100 j = I 100 j
theorem FrY_rf {I : II} : FrY I I := ⟨fun _ _ => rfl, fun _ _ => rfl⟩
theorem FrY_tr {I J K : II} (h : FrY I J) (h2 : FrY J K) : FrY I K := ⟨fun x a => (h2.1 x a).trans (h.1 x a), fun j a => (h2.2 j a).trans (h.2 j a)⟩
theorem FrY_up {I J : II} {i v : Int} (h : FrY I J) (hi : 20 ≤ i ∧ i ≤ 24) : FrY I (upI J 100 i v) := ⟨fun x a => by rw [upI_o a]; exact h.1 x a, fun j a => by rw [upI_j (by omega)]; exact h.2 j a⟩
def TyI (I : II) : Prop := (0 ≤ I 100 18 ∧ I 100 18 ≤ 160) ∧ ∀ j, 0 ≤ j → j < 160 → 0 ≤ I 113 j ∧ I 113 j ≤ 255
theorem y_nt_let {p s : Int} {Q : QT} (hd : 1 ≤ d) (hT : TyI I) (hp : 0 ≤ p ∧ p ≤ I 100 18) (hsp : isSp (I 113) (I 100 18) p s) (hs : 0 ≤ s ∧ s < I 100 18) (h : ∀ J, FrY I J ∧ J 100 20 = tE (I 113) (I 100 18) p ∧ J 100 21 = tS (I 113) (I 100 18) p ∧ tkV (I 113) (I 100 18) p (J 100 22) (J 100 24) → Q none (shX nm no) (RX nm no) J) (h1 : isLe (I 113 s)) :
    ∀ (m k : Nat) (K : II), (I 100 18 - s - k).toNat < m → s + k ≤ I 100 18 → FrY I K → K 100 20 = s + k → K 100 21 = s → K 100 22 = (if k ≤ 9 then haF (I 113) s k else -4) → (∀ i : Nat, i < k → isLe (I 113 (s + i))) → T g d mX12_nextToken 0 0 101 [some (vr 100)] [] (shX nm no) (RX nm no) K Q := by
  have hT1 := hT.1
  intro m
  induction m with
  | zero => intro k K hm; omega
  | succ m ih =>
    intro k K hm hk hF h20 h21 h22 hl
    have k18 : K 100 18 = I 100 18 := hF.2 18 (by decide)
    have k113 : K 113 = I 113 := hF.1 113 (by decide)
    have fin : (s + k < I 100 18 → ¬ isLe (I 113 (s + k))) → ∀ t : Int, t = (if (s + (k : Int)) - s ≤ 9 then haF (I 113) s k else -4) → Q none (shX nm no) (RX nm no) (upI K 100 22 t) := fun hx t ht => by
      have e0 : 1 ≤ k := by
        rcases (show k = 0 ∨ 1 ≤ k by omega) with z | z
        · subst z
          have e : s + ((0 : Nat) : Int) = s := Int.add_zero _
          rw [e] at hx
          exact absurd h1 (hx hs.2)
        · exact z
      have hte : isTe (I 113) (I 100 18) s (s + k) := Or.inr ⟨hs.2, by omega, Or.inl ⟨h1, fun i i0 i1 => by
        have := hl (i - s).toNat (by omega)
        rw [show s + ((i - s).toNat : Int) = i by omega] at this; exact this, hx⟩⟩
      have eS := tS_eq hsp
      have eE : tE (I 113) (I 100 18) p = s + k := tE_eq (by omega) (by rw [eS]; exact hte)
      refine h _ ⟨FrY_up hF (by decide), (upI_j (by decide)).trans (h20.trans eE.symm), (upI_j (by decide)).trans (h21.trans eS.symm), Or.inr (Or.inl ⟨by omega, by rw [eS]; exact h1, ?_⟩)⟩
      rw [upI_s, eS, eE, ht]
      by_cases z : s + (k : Int) - s ≤ 9
      · rw [if_pos z, if_pos z, show (s + (k : Int) - s).toNat = k by omega]
      · rw [if_neg z, if_neg z]
    refine m_aload_n dX12_nextToken_101 rfl ?_
    refine m_gi (z := 20) dX12_nextToken_102 fl_X12_229 oX_100 rfl rfl ?_
    rw [h20]
    refine m_aload_n dX12_nextToken_105 rfl ?_
    refine m_gi (z := 18) dX12_nextToken_106 fl_X12_224 oX_100 rfl rfl ?_
    rw [k18]
    refine m_icmp_ge (tgt := 191) dX12_nextToken_109 (by decide) (fun c109 => ?_) (fun c109 => ?_)
    · refine m_aload_n dX12_nextToken_191 rfl ?_
      refine m_aload_n dX12_nextToken_192 rfl ?_
      refine m_gi (z := 20) dX12_nextToken_193 fl_X12_229 oX_100 rfl rfl ?_
      rw [h20]
      refine m_aload_n dX12_nextToken_196 rfl ?_
      refine m_gi (z := 21) dX12_nextToken_197 fl_X12_232 oX_100 rfl rfl ?_
      rw [h21]
      refine m_isub dX12_nextToken_200 (by omega) ?_
      refine m_bipush dX12_nextToken_201 rfl (by decide) ?_
      refine m_icmp_le (tgt := 212) dX12_nextToken_203 (by decide) (fun c203 => ?_) (fun c203 => ?_)
      · refine m_aload_n dX12_nextToken_212 rfl ?_
        refine m_gl (z := 22) dX12_nextToken_213 fl_X12_243 oX_100 rfl rfl ?_
        first | rw [h22, if_pos (show k ≤ 9 by omega)] | skip
        refine m_pl (z := 22) dX12_nextToken_216 fl_X12_243 oX_100 rfl rfl rfl ?_
        refine m_goto (tgt := 394) dX12_nextToken_219 (by decide) ?_
        refine m_vret dX12_nextToken_394 rfl ?_
        refine fin (fun z => by unfold isLe; omega) _ ?_
        first
        | (rw [if_pos (by omega)])
        | (rw [if_neg (by omega)])
      · refine m_ldc2 (a := -4) dX12_nextToken_206 kc_X12_251 rfl ?_
        refine m_goto (tgt := 216) dX12_nextToken_209 (by decide) ?_
        first | rw [h22, if_pos (show k ≤ 9 by omega)] | skip
        refine m_pl (z := 22) dX12_nextToken_216 fl_X12_243 oX_100 rfl rfl rfl ?_
        refine m_goto (tgt := 394) dX12_nextToken_219 (by decide) ?_
        refine m_vret dX12_nextToken_394 rfl ?_
        refine fin (fun z => by unfold isLe; omega) _ ?_
        first
        | (rw [if_pos (by omega)])
        | (rw [if_neg (by omega)])
    · refine m_aload_n dX12_nextToken_112 rfl ?_
      refine m_gr (z := 19) dX12_nextToken_113 fl_X12_51 oX_100 rfl rfl rX_100_19 ?_
      refine m_aload_n dX12_nextToken_116 rfl ?_
      refine m_gi (z := 20) dX12_nextToken_117 fl_X12_229 oX_100 rfl rfl ?_
      rw [h20]
      refine m_iald dX12_nextToken_120 sX_113 (by omega) (by omega) ?_
      rw [k113]
      refine m_bipush dX12_nextToken_121 rfl (by decide) ?_
      refine m_bipush dX12_nextToken_123 rfl (by decide) ?_
      refine m_Si [_, _, _] dX12_nextToken_125 lk_X12_123 rfl rfl (Nat.le_of_ble_eq_true rfl) (by omega) y_in ?_
      refine m_if_eq (tgt := 191) dX12_nextToken_128 (by decide) (fun c128 => ?_) (fun c128 => ?_)
      · have z128 := bI_eq0 c128
        refine m_aload_n dX12_nextToken_191 rfl ?_
        refine m_aload_n dX12_nextToken_192 rfl ?_
        refine m_gi (z := 20) dX12_nextToken_193 fl_X12_229 oX_100 rfl rfl ?_
        rw [h20]
        refine m_aload_n dX12_nextToken_196 rfl ?_
        refine m_gi (z := 21) dX12_nextToken_197 fl_X12_232 oX_100 rfl rfl ?_
        rw [h21]
        refine m_isub dX12_nextToken_200 (by omega) ?_
        refine m_bipush dX12_nextToken_201 rfl (by decide) ?_
        refine m_icmp_le (tgt := 212) dX12_nextToken_203 (by decide) (fun c203 => ?_) (fun c203 => ?_)
        · refine m_aload_n dX12_nextToken_212 rfl ?_
          refine m_gl (z := 22) dX12_nextToken_213 fl_X12_243 oX_100 rfl rfl ?_
          first | rw [h22, if_pos (show k ≤ 9 by omega)] | skip
          refine m_pl (z := 22) dX12_nextToken_216 fl_X12_243 oX_100 rfl rfl rfl ?_
          refine m_goto (tgt := 394) dX12_nextToken_219 (by decide) ?_
          refine m_vret dX12_nextToken_394 rfl ?_
          refine fin (fun z => by unfold isLe; omega) _ ?_
          first
          | (rw [if_pos (by omega)])
          | (rw [if_neg (by omega)])
        · refine m_ldc2 (a := -4) dX12_nextToken_206 kc_X12_251 rfl ?_
          refine m_goto (tgt := 216) dX12_nextToken_209 (by decide) ?_
          first | rw [h22, if_pos (show k ≤ 9 by omega)] | skip
          refine m_pl (z := 22) dX12_nextToken_216 fl_X12_243 oX_100 rfl rfl rfl ?_
          refine m_goto (tgt := 394) dX12_nextToken_219 (by decide) ?_
          refine m_vret dX12_nextToken_394 rfl ?_
          refine fin (fun z => by unfold isLe; omega) _ ?_
          first
          | (rw [if_pos (by omega)])
          | (rw [if_neg (by omega)])
      · have z128 := bI_ne0 c128
        have hb := fun q : k ≤ 9 => haF_big q hl
        refine m_aload_n dX12_nextToken_131 rfl ?_
        refine m_aload_n dX12_nextToken_132 rfl ?_
        refine m_gi (z := 20) dX12_nextToken_133 fl_X12_229 oX_100 rfl rfl ?_
        rw [h20]
        refine m_aload_n dX12_nextToken_136 rfl ?_
        refine m_gi (z := 21) dX12_nextToken_137 fl_X12_232 oX_100 rfl rfl ?_
        rw [h21]
        refine m_isub dX12_nextToken_140 (by omega) ?_
        refine m_bipush dX12_nextToken_141 rfl (by decide) ?_
        refine m_icmp_ge (tgt := 172) dX12_nextToken_143 (by decide) (fun c143 => ?_) (fun c143 => ?_)
        · refine m_ldc2 (a := -4) dX12_nextToken_172 kc_X12_251 rfl ?_
          refine m_pl (z := 22) dX12_nextToken_175 fl_X12_243 oX_100 rfl rfl rfl ?_
          refine m_aload_n dX12_nextToken_178 rfl ?_
          refine m_dup dX12_nextToken_179 (fun _ z => by cases z) ?_
          refine m_gi (z := 20) dX12_nextToken_180 fl_X12_229 oX_100 rfl rfl ?_
          rw [upI_j (show (20 : Int) ≠ 22 by decide)]
          rw [h20]
          refine m_iconst dX12_nextToken_183 (by decide) ?_
          refine m_iadd dX12_nextToken_184 (by omega) ?_
          refine m_pi (z := 20) dX12_nextToken_185 fl_X12_229 oX_100 rfl rfl rfl ?_
          refine m_goto (tgt := 101) dX12_nextToken_188 (by decide) ?_
          refine ih (k + 1) _ (by omega) (by omega) (FrY_up (FrY_up hF (show (20 : Int) ≤ 22 ∧ (22 : Int) ≤ 24 by decide)) (show (20 : Int) ≤ 20 ∧ (20 : Int) ≤ 24 by decide)) (upI_s.trans (show s + (k : Int) + 1 = s + ((k + 1 : Nat) : Int) by omega)) ((upI_j (by decide)).trans ((upI_j (by decide)).trans h21)) ((upI_j (by decide)).trans (upI_s.trans (by
            first
            | (rw [if_neg (by omega)])
            | (rw [if_pos (by omega)]; rfl)
            | (rw [if_pos (by omega)])))) (fun i hi => by
            rcases (show i < k ∨ i = k by omega) with y | y
            · exact hl i y
            · subst y; exact z128)
        · have hb9 := hb (by omega)
          refine m_ldc2 (a := 27) dX12_nextToken_146 kc_X12_247 rfl ?_
          refine m_aload_n dX12_nextToken_149 rfl ?_
          refine m_gl (z := 22) dX12_nextToken_150 fl_X12_243 oX_100 rfl rfl ?_
          rw [h22, if_pos (show k ≤ 9 by omega)]
          refine m_lmul dX12_nextToken_153 (by omega) ?_
          refine m_aload_n dX12_nextToken_154 rfl ?_
          refine m_gr (z := 19) dX12_nextToken_155 fl_X12_51 oX_100 rfl rfl rX_100_19 ?_
          refine m_aload_n dX12_nextToken_158 rfl ?_
          refine m_gi (z := 20) dX12_nextToken_159 fl_X12_229 oX_100 rfl rfl ?_
          rw [h20]
          refine m_iald dX12_nextToken_162 sX_113 (by omega) (by omega) ?_
          rw [k113]
          refine m_i2l dX12_nextToken_163 ?_
          refine m_ladd dX12_nextToken_164 (by omega) ?_
          refine m_ldc2 (a := 96) dX12_nextToken_165 kc_X12_249 rfl ?_
          refine m_lsub dX12_nextToken_168 (by omega) ?_
          refine m_goto (tgt := 175) dX12_nextToken_169 (by decide) ?_
          refine m_pl (z := 22) dX12_nextToken_175 fl_X12_243 oX_100 rfl rfl rfl ?_
          refine m_aload_n dX12_nextToken_178 rfl ?_
          refine m_dup dX12_nextToken_179 (fun _ z => by cases z) ?_
          refine m_gi (z := 20) dX12_nextToken_180 fl_X12_229 oX_100 rfl rfl ?_
          rw [upI_j (show (20 : Int) ≠ 22 by decide)]
          rw [h20]
          refine m_iconst dX12_nextToken_183 (by decide) ?_
          refine m_iadd dX12_nextToken_184 (by omega) ?_
          refine m_pi (z := 20) dX12_nextToken_185 fl_X12_229 oX_100 rfl rfl rfl ?_
          refine m_goto (tgt := 101) dX12_nextToken_188 (by decide) ?_
          refine ih (k + 1) _ (by omega) (by omega) (FrY_up (FrY_up hF (show (20 : Int) ≤ 22 ∧ (22 : Int) ≤ 24 by decide)) (show (20 : Int) ≤ 20 ∧ (20 : Int) ≤ 24 by decide)) (upI_s.trans (show s + (k : Int) + 1 = s + ((k + 1 : Nat) : Int) by omega)) ((upI_j (by decide)).trans ((upI_j (by decide)).trans h21)) ((upI_j (by decide)).trans (upI_s.trans (by
            first
            | (rw [if_neg (by omega)])
            | (rw [if_pos (by omega)]; rfl)
            | (rw [if_pos (by omega)])))) (fun i hi => by
            rcases (show i < k ∨ i = k by omega) with y | y
            · exact hl i y
            · subst y; exact z128)
theorem y_nt_dig {p s : Int} {Q : QT} (hd : 1 ≤ d) (hT : TyI I) (hp : 0 ≤ p ∧ p ≤ I 100 18) (hsp : isSp (I 113) (I 100 18) p s) (hs : 0 ≤ s ∧ s < I 100 18) (h : ∀ J, FrY I J ∧ J 100 20 = tE (I 113) (I 100 18) p ∧ J 100 21 = tS (I 113) (I 100 18) p ∧ tkV (I 113) (I 100 18) p (J 100 22) (J 100 24) → Q none (shX nm no) (RX nm no) J) (h1 : isDg (I 113 s)) :
    ∀ (m k : Nat) (K : II), (I 100 18 - s - k).toNat < m → s + k ≤ I 100 18 → FrY I K → K 100 20 = s + k → K 100 21 = s → K 100 23 = k → K 100 24 = nvL (I 113) s (min k 2) → (∀ i : Nat, i < k → isDg (I 113 (s + i))) → T g d mX12_nextToken 0 0 241 [some (vr 100)] [] (shX nm no) (RX nm no) K Q := by
  have hT1 := hT.1
  intro m
  induction m with
  | zero => intro k K hm; omega
  | succ m ih =>
    intro k K hm hk hF h20 h21 h23 h24 hl
    have k18 : K 100 18 = I 100 18 := hF.2 18 (by decide)
    have k113 : K 113 = I 113 := hF.1 113 (by decide)
    have hv := nvL_bd (f := I 113) (s := s) (min k 2) (by omega) (fun i hi => hl i (by omega))
    have fin : (s + k < I 100 18 → ¬ isDg (I 113 (s + k))) → ∀ t : Int, ((k ≤ 2 ∧ t = -1) ∨ (2 < k ∧ t = -4)) → Q none (shX nm no) (RX nm no) (upI K 100 22 t) := fun hx t ht => by
      have e0 : 1 ≤ k := by
        rcases (show k = 0 ∨ 1 ≤ k by omega) with z | z
        · subst z
          have e : s + ((0 : Nat) : Int) = s := Int.add_zero _
          rw [e] at hx
          exact absurd h1 (hx hs.2)
        · exact z
      have hte : isTe (I 113) (I 100 18) s (s + k) := Or.inr ⟨hs.2, by omega, Or.inr (Or.inl ⟨h1, fun i i0 i1 => by
        have := hl (i - s).toNat (by omega)
        rw [show s + ((i - s).toNat : Int) = i by omega] at this; exact this, hx⟩)⟩
      have eS := tS_eq hsp
      have eE : tE (I 113) (I 100 18) p = s + k := tE_eq (by omega) (by rw [eS]; exact hte)
      refine h _ ⟨FrY_up hF (by decide), (upI_j (by decide)).trans (h20.trans eE.symm), (upI_j (by decide)).trans (h21.trans eS.symm), Or.inr (Or.inr (Or.inl ⟨by omega, by rw [eS]; exact h1, ?_⟩))⟩
      rw [upI_s, upI_j (by decide)]
      rcases ht with z | z
      · refine Or.inl ⟨by omega, z.2, ?_⟩
        unfold nvF
        rw [eS, eE, h24, show (s + (k : Int) - s).toNat = min k 2 by omega]
      · exact Or.inr ⟨by omega, z.2⟩
    refine m_aload_n dX12_nextToken_241 rfl ?_
    refine m_gi (z := 20) dX12_nextToken_242 fl_X12_229 oX_100 rfl rfl ?_
    rw [h20]
    refine m_aload_n dX12_nextToken_245 rfl ?_
    refine m_gi (z := 18) dX12_nextToken_246 fl_X12_224 oX_100 rfl rfl ?_
    rw [k18]
    refine m_icmp_ge (tgt := 333) dX12_nextToken_249 (by decide) (fun c249 => ?_) (fun c249 => ?_)
    · refine m_aload_n dX12_nextToken_333 rfl ?_
      refine m_aload_n dX12_nextToken_334 rfl ?_
      refine m_gi (z := 23) dX12_nextToken_335 fl_X12_235 oX_100 rfl rfl ?_
      rw [h23]
      refine m_iconst dX12_nextToken_338 (by decide) ?_
      refine m_icmp_le (tgt := 348) dX12_nextToken_339 (by decide) (fun c339 => ?_) (fun c339 => ?_)
      · refine m_ldc2 (a := -1) dX12_nextToken_348 kc_X12_253 rfl ?_
        refine m_pl (z := 22) dX12_nextToken_351 fl_X12_243 oX_100 rfl rfl rfl ?_
        refine m_goto (tgt := 394) dX12_nextToken_354 (by decide) ?_
        refine m_vret dX12_nextToken_394 rfl ?_
        exact fin (fun z => by unfold isDg; omega) _ (by omega)
      · refine m_ldc2 (a := -4) dX12_nextToken_342 kc_X12_251 rfl ?_
        refine m_goto (tgt := 351) dX12_nextToken_345 (by decide) ?_
        refine m_pl (z := 22) dX12_nextToken_351 fl_X12_243 oX_100 rfl rfl rfl ?_
        refine m_goto (tgt := 394) dX12_nextToken_354 (by decide) ?_
        refine m_vret dX12_nextToken_394 rfl ?_
        exact fin (fun z => by unfold isDg; omega) _ (by omega)
    · refine m_aload_n dX12_nextToken_252 rfl ?_
      refine m_gr (z := 19) dX12_nextToken_253 fl_X12_51 oX_100 rfl rfl rX_100_19 ?_
      refine m_aload_n dX12_nextToken_256 rfl ?_
      refine m_gi (z := 20) dX12_nextToken_257 fl_X12_229 oX_100 rfl rfl ?_
      rw [h20]
      refine m_iald dX12_nextToken_260 sX_113 (by omega) (by omega) ?_
      rw [k113]
      refine m_bipush dX12_nextToken_261 rfl (by decide) ?_
      refine m_bipush dX12_nextToken_263 rfl (by decide) ?_
      refine m_Si [_, _, _] dX12_nextToken_265 lk_X12_123 rfl rfl (Nat.le_of_ble_eq_true rfl) (by omega) y_in ?_
      refine m_if_eq (tgt := 333) dX12_nextToken_268 (by decide) (fun c268 => ?_) (fun c268 => ?_)
      · have z268 := bI_eq0 c268
        refine m_aload_n dX12_nextToken_333 rfl ?_
        refine m_aload_n dX12_nextToken_334 rfl ?_
        refine m_gi (z := 23) dX12_nextToken_335 fl_X12_235 oX_100 rfl rfl ?_
        rw [h23]
        refine m_iconst dX12_nextToken_338 (by decide) ?_
        refine m_icmp_le (tgt := 348) dX12_nextToken_339 (by decide) (fun c339 => ?_) (fun c339 => ?_)
        · refine m_ldc2 (a := -1) dX12_nextToken_348 kc_X12_253 rfl ?_
          refine m_pl (z := 22) dX12_nextToken_351 fl_X12_243 oX_100 rfl rfl rfl ?_
          refine m_goto (tgt := 394) dX12_nextToken_354 (by decide) ?_
          refine m_vret dX12_nextToken_394 rfl ?_
          exact fin (fun z => by unfold isDg; omega) _ (by omega)
        · refine m_ldc2 (a := -4) dX12_nextToken_342 kc_X12_251 rfl ?_
          refine m_goto (tgt := 351) dX12_nextToken_345 (by decide) ?_
          refine m_pl (z := 22) dX12_nextToken_351 fl_X12_243 oX_100 rfl rfl rfl ?_
          refine m_goto (tgt := 394) dX12_nextToken_354 (by decide) ?_
          refine m_vret dX12_nextToken_394 rfl ?_
          exact fin (fun z => by unfold isDg; omega) _ (by omega)
      · have z268 := bI_ne0 c268
        refine m_aload_n dX12_nextToken_271 rfl ?_
        refine m_aload_n dX12_nextToken_272 rfl ?_
        refine m_gi (z := 23) dX12_nextToken_273 fl_X12_235 oX_100 rfl rfl ?_
        rw [h23]
        refine m_iconst dX12_nextToken_276 (by decide) ?_
        refine m_icmp_ge (tgt := 303) dX12_nextToken_277 (by decide) (fun c277 => ?_) (fun c277 => ?_)
        · have em : min k 2 = 2 := by omega
          refine m_aload_n dX12_nextToken_303 rfl ?_
          refine m_gi (z := 24) dX12_nextToken_304 fl_X12_238 oX_100 rfl rfl ?_
          first | rw [h24] | skip
          refine m_pi (z := 24) dX12_nextToken_307 fl_X12_238 oX_100 rfl rfl rfl ?_
          refine m_aload_n dX12_nextToken_310 rfl ?_
          refine m_dup dX12_nextToken_311 (fun _ z => by cases z) ?_
          refine m_gi (z := 23) dX12_nextToken_312 fl_X12_235 oX_100 rfl rfl ?_
          rw [upI_j (show (23 : Int) ≠ 24 by decide)]
          rw [h23]
          refine m_iconst dX12_nextToken_315 (by decide) ?_
          refine m_iadd dX12_nextToken_316 (by omega) ?_
          refine m_pi (z := 23) dX12_nextToken_317 fl_X12_235 oX_100 rfl rfl rfl ?_
          refine m_aload_n dX12_nextToken_320 rfl ?_
          refine m_dup dX12_nextToken_321 (fun _ z => by cases z) ?_
          refine m_gi (z := 20) dX12_nextToken_322 fl_X12_229 oX_100 rfl rfl ?_
          rw [upI_j (show (20 : Int) ≠ 23 by decide), upI_j (show (20 : Int) ≠ 24 by decide)]
          rw [h20]
          refine m_iconst dX12_nextToken_325 (by decide) ?_
          refine m_iadd dX12_nextToken_326 (by omega) ?_
          refine m_pi (z := 20) dX12_nextToken_327 fl_X12_229 oX_100 rfl rfl rfl ?_
          refine m_goto (tgt := 241) dX12_nextToken_330 (by decide) ?_
          refine ih (k + 1) _ (by omega) (by omega) (FrY_up (FrY_up (FrY_up hF (show (20 : Int) ≤ 24 ∧ (24 : Int) ≤ 24 by decide)) (show (20 : Int) ≤ 23 ∧ (23 : Int) ≤ 24 by decide)) (show (20 : Int) ≤ 20 ∧ (20 : Int) ≤ 24 by decide)) (upI_s.trans (show s + (k : Int) + 1 = s + ((k + 1 : Nat) : Int) by omega)) ((upI_j (by decide)).trans ((upI_j (by decide)).trans ((upI_j (by decide)).trans h21))) ((upI_j (by decide)).trans (upI_s.trans (show (k : Int) + 1 = ((k + 1 : Nat) : Int) by omega))) ((upI_j (by decide)).trans ((upI_j (by decide)).trans (upI_s.trans (by
            first
            | (rw [em, show min (k + 1) 2 = 2 by omega])
            | (rw [em, show min (k + 1) 2 = k + 1 by omega]; rfl)
            | (rw [em, show min (k + 1) 2 = k + 1 by omega]))))) (fun i hi => by
            rcases (show i < k ∨ i = k by omega) with y | y
            · exact hl i y
            · subst y; exact z268)
        · have em : min k 2 = k := by omega
          have hdk := z268
          refine m_bipush dX12_nextToken_280 rfl (by decide) ?_
          refine m_aload_n dX12_nextToken_282 rfl ?_
          refine m_gi (z := 24) dX12_nextToken_283 fl_X12_238 oX_100 rfl rfl ?_
          rw [h24]
          refine m_imul dX12_nextToken_286 (by omega) ?_
          refine m_aload_n dX12_nextToken_287 rfl ?_
          refine m_gr (z := 19) dX12_nextToken_288 fl_X12_51 oX_100 rfl rfl rX_100_19 ?_
          refine m_aload_n dX12_nextToken_291 rfl ?_
          refine m_gi (z := 20) dX12_nextToken_292 fl_X12_229 oX_100 rfl rfl ?_
          rw [h20]
          refine m_iald dX12_nextToken_295 sX_113 (by omega) (by omega) ?_
          rw [k113]
          refine m_iadd dX12_nextToken_296 (by omega) ?_
          refine m_bipush dX12_nextToken_297 rfl (by decide) ?_
          refine m_isub dX12_nextToken_299 (by omega) ?_
          refine m_goto (tgt := 307) dX12_nextToken_300 (by decide) ?_
          first | rw [h24] | skip
          refine m_pi (z := 24) dX12_nextToken_307 fl_X12_238 oX_100 rfl rfl rfl ?_
          refine m_aload_n dX12_nextToken_310 rfl ?_
          refine m_dup dX12_nextToken_311 (fun _ z => by cases z) ?_
          refine m_gi (z := 23) dX12_nextToken_312 fl_X12_235 oX_100 rfl rfl ?_
          rw [upI_j (show (23 : Int) ≠ 24 by decide)]
          rw [h23]
          refine m_iconst dX12_nextToken_315 (by decide) ?_
          refine m_iadd dX12_nextToken_316 (by omega) ?_
          refine m_pi (z := 23) dX12_nextToken_317 fl_X12_235 oX_100 rfl rfl rfl ?_
          refine m_aload_n dX12_nextToken_320 rfl ?_
          refine m_dup dX12_nextToken_321 (fun _ z => by cases z) ?_
          refine m_gi (z := 20) dX12_nextToken_322 fl_X12_229 oX_100 rfl rfl ?_
          rw [upI_j (show (20 : Int) ≠ 23 by decide), upI_j (show (20 : Int) ≠ 24 by decide)]
          rw [h20]
          refine m_iconst dX12_nextToken_325 (by decide) ?_
          refine m_iadd dX12_nextToken_326 (by omega) ?_
          refine m_pi (z := 20) dX12_nextToken_327 fl_X12_229 oX_100 rfl rfl rfl ?_
          refine m_goto (tgt := 241) dX12_nextToken_330 (by decide) ?_
          refine ih (k + 1) _ (by omega) (by omega) (FrY_up (FrY_up (FrY_up hF (show (20 : Int) ≤ 24 ∧ (24 : Int) ≤ 24 by decide)) (show (20 : Int) ≤ 23 ∧ (23 : Int) ≤ 24 by decide)) (show (20 : Int) ≤ 20 ∧ (20 : Int) ≤ 24 by decide)) (upI_s.trans (show s + (k : Int) + 1 = s + ((k + 1 : Nat) : Int) by omega)) ((upI_j (by decide)).trans ((upI_j (by decide)).trans ((upI_j (by decide)).trans h21))) ((upI_j (by decide)).trans (upI_s.trans (show (k : Int) + 1 = ((k + 1 : Nat) : Int) by omega))) ((upI_j (by decide)).trans ((upI_j (by decide)).trans (upI_s.trans (by
            first
            | (rw [em, show min (k + 1) 2 = 2 by omega])
            | (rw [em, show min (k + 1) 2 = k + 1 by omega]; rfl)
            | (rw [em, show min (k + 1) 2 = k + 1 by omega]))))) (fun i hi => by
            rcases (show i < k ∨ i = k by omega) with y | y
            · exact hl i y
            · subst y; exact z268)
theorem y_nt_38 {p s : Int} {Q : QT} (hd : 1 ≤ d) (hT : TyI I) (hp : 0 ≤ p ∧ p ≤ I 100 18) (hsp : isSp (I 113) (I 100 18) p s) (hs : 0 ≤ s) (h : ∀ J, FrY I J ∧ J 100 20 = tE (I 113) (I 100 18) p ∧ J 100 21 = tS (I 113) (I 100 18) p ∧ tkV (I 113) (I 100 18) p (J 100 22) (J 100 24) → Q none (shX nm no) (RX nm no) J) {K : II} (hF : FrY I K) (h20 : K 100 20 = s) : T g d mX12_nextToken 0 0 38 [some (vr 100)] [] (shX nm no) (RX nm no) K Q := by
  have hT1 := hT.1
  have hs1 := hsp.1
  have eS := tS_eq hsp
  have k18 : K 100 18 = I 100 18 := hF.2 18 (by decide)
  have k113 : K 113 = I 113 := hF.1 113 (by decide)
  have u1 : (20 : Int) ≤ 21 ∧ (21 : Int) ≤ 24 := by decide
  have u2 : (20 : Int) ≤ 23 ∧ (23 : Int) ≤ 24 := by decide
  have u3 : (20 : Int) ≤ 24 ∧ (24 : Int) ≤ 24 := by decide
  have u4 : (20 : Int) ≤ 22 ∧ (22 : Int) ≤ 24 := by decide
  have u5 : (20 : Int) ≤ 20 ∧ (20 : Int) ≤ 24 := by decide
  have fend : s = I 100 18 → (fun J => FrY I J ∧ J 100 20 = tE (I 113) (I 100 18) p ∧ J 100 21 = tS (I 113) (I 100 18) p ∧ tkV (I 113) (I 100 18) p (J 100 22) (J 100 24)) (upI (upI (upI (upI K 100 21 s) 100 23 0) 100 24 0) 100 22 (-2)) := fun e => by
    have eE : tE (I 113) (I 100 18) p = I 100 18 := tE_eq hp.2 (by rw [eS]; exact Or.inl ⟨e, rfl⟩)
    exact ⟨FrY_up (FrY_up (FrY_up (FrY_up hF u1) u2) u3) u4, (upI_j (by decide)).trans ((upI_j (by decide)).trans ((upI_j (by decide)).trans ((upI_j (by decide)).trans (h20.trans (e.trans eE.symm))))), (upI_j (by decide)).trans ((upI_j (by decide)).trans ((upI_j (by decide)).trans (upI_s.trans eS.symm))), Or.inl ⟨eS.trans e, upI_s⟩⟩
  have foth : s < I 100 18 → ¬ isLe (I 113 s) → ¬ isDg (I 113 s) → ∀ t : Int, t = (if I 113 s = 59 then -3 else -4) → (fun J => FrY I J ∧ J 100 20 = tE (I 113) (I 100 18) p ∧ J 100 21 = tS (I 113) (I 100 18) p ∧ tkV (I 113) (I 100 18) p (J 100 22) (J 100 24)) (upI (upI (upI (upI (upI K 100 21 s) 100 23 0) 100 24 0) 100 22 t) 100 20 (s + 1)) := fun e n1 n2 t ht => by
    have eE : tE (I 113) (I 100 18) p = s + 1 := tE_eq hp.2 (by rw [eS]; exact Or.inr ⟨e, by omega, Or.inr (Or.inr ⟨n1, n2, rfl⟩)⟩)
    exact ⟨FrY_up (FrY_up (FrY_up (FrY_up (FrY_up hF u1) u2) u3) u4) u5, upI_s.trans eE.symm, (upI_j (by decide)).trans ((upI_j (by decide)).trans ((upI_j (by decide)).trans ((upI_j (by decide)).trans (upI_s.trans eS.symm)))), Or.inr (Or.inr (Or.inr ⟨by omega, by rw [eS]; exact n1, by rw [eS]; exact n2, by rw [eS]; exact (upI_j (by decide)).trans (upI_s.trans ht)⟩))⟩
  refine m_aload_n dX12_nextToken_38 rfl ?_
  refine m_aload_n dX12_nextToken_39 rfl ?_
  refine m_gi (z := 20) dX12_nextToken_40 fl_X12_229 oX_100 rfl rfl ?_
  rw [h20]
  refine m_pi (z := 21) dX12_nextToken_43 fl_X12_232 oX_100 rfl rfl rfl ?_
  refine m_aload_n dX12_nextToken_46 rfl ?_
  refine m_iconst dX12_nextToken_47 (by decide) ?_
  refine m_pi (z := 23) dX12_nextToken_48 fl_X12_235 oX_100 rfl rfl rfl ?_
  refine m_aload_n dX12_nextToken_51 rfl ?_
  refine m_iconst dX12_nextToken_52 (by decide) ?_
  refine m_pi (z := 24) dX12_nextToken_53 fl_X12_238 oX_100 rfl rfl rfl ?_
  refine m_aload_n dX12_nextToken_56 rfl ?_
  refine m_gi (z := 20) dX12_nextToken_57 fl_X12_229 oX_100 rfl rfl ?_
  rw [upI_j (show (20 : Int) ≠ 24 by decide), upI_j (show (20 : Int) ≠ 23 by decide), upI_j (show (20 : Int) ≠ 21 by decide)]
  rw [h20]
  refine m_aload_n dX12_nextToken_60 rfl ?_
  refine m_gi (z := 18) dX12_nextToken_61 fl_X12_224 oX_100 rfl rfl ?_
  rw [upI_j (show (18 : Int) ≠ 24 by decide), upI_j (show (18 : Int) ≠ 23 by decide), upI_j (show (18 : Int) ≠ 21 by decide)]
  rw [k18]
  refine m_icmp_ne (tgt := 77) dX12_nextToken_64 (by decide) (fun c64 => ?_) (fun c64 => ?_)
  · refine m_aload_n dX12_nextToken_77 rfl ?_
    refine m_gr (z := 19) dX12_nextToken_78 fl_X12_51 oX_100 rfl rfl rX_100_19 ?_
    refine m_aload_n dX12_nextToken_81 rfl ?_
    refine m_gi (z := 20) dX12_nextToken_82 fl_X12_229 oX_100 rfl rfl ?_
    rw [upI_j (show (20 : Int) ≠ 24 by decide), upI_j (show (20 : Int) ≠ 23 by decide), upI_j (show (20 : Int) ≠ 21 by decide)]
    rw [h20]
    refine m_iald dX12_nextToken_85 sX_113 (by omega) (by omega) ?_
    rw [upI_o (show (113 : Nat) ≠ 100 by omega), upI_o (show (113 : Nat) ≠ 100 by omega), upI_o (show (113 : Nat) ≠ 100 by omega)]
    rw [k113]
    refine m_bipush dX12_nextToken_86 rfl (by decide) ?_
    refine m_bipush dX12_nextToken_88 rfl (by decide) ?_
    refine m_Si [_, _, _] dX12_nextToken_90 lk_X12_123 rfl rfl (Nat.le_of_ble_eq_true rfl) (by omega) y_in ?_
    refine m_if_eq (tgt := 222) dX12_nextToken_93 (by decide) (fun c93 => ?_) (fun c93 => ?_)
    · have z93 : ¬ isLe (I 113 s) := (show ¬ (97 ≤ I 113 s ∧ I 113 s ≤ 122) from bI_eq0 c93)
      refine m_aload_n dX12_nextToken_222 rfl ?_
      refine m_gr (z := 19) dX12_nextToken_223 fl_X12_51 oX_100 rfl rfl rX_100_19 ?_
      refine m_aload_n dX12_nextToken_226 rfl ?_
      refine m_gi (z := 20) dX12_nextToken_227 fl_X12_229 oX_100 rfl rfl ?_
      rw [upI_j (show (20 : Int) ≠ 24 by decide), upI_j (show (20 : Int) ≠ 23 by decide), upI_j (show (20 : Int) ≠ 21 by decide)]
      rw [h20]
      refine m_iald dX12_nextToken_230 sX_113 (by omega) (by omega) ?_
      rw [upI_o (show (113 : Nat) ≠ 100 by omega), upI_o (show (113 : Nat) ≠ 100 by omega), upI_o (show (113 : Nat) ≠ 100 by omega)]
      rw [k113]
      refine m_bipush dX12_nextToken_231 rfl (by decide) ?_
      refine m_bipush dX12_nextToken_233 rfl (by decide) ?_
      refine m_Si [_, _, _] dX12_nextToken_235 lk_X12_123 rfl rfl (Nat.le_of_ble_eq_true rfl) (by omega) y_in ?_
      refine m_if_eq (tgt := 357) dX12_nextToken_238 (by decide) (fun c238 => ?_) (fun c238 => ?_)
      · have z238 : ¬ isDg (I 113 s) := (show ¬ (48 ≤ I 113 s ∧ I 113 s ≤ 57) from bI_eq0 c238)
        refine m_aload_n dX12_nextToken_357 rfl ?_
        refine m_aload_n dX12_nextToken_358 rfl ?_
        refine m_gr (z := 19) dX12_nextToken_359 fl_X12_51 oX_100 rfl rfl rX_100_19 ?_
        refine m_aload_n dX12_nextToken_362 rfl ?_
        refine m_gi (z := 20) dX12_nextToken_363 fl_X12_229 oX_100 rfl rfl ?_
        rw [upI_j (show (20 : Int) ≠ 24 by decide), upI_j (show (20 : Int) ≠ 23 by decide), upI_j (show (20 : Int) ≠ 21 by decide)]
        rw [h20]
        refine m_iald dX12_nextToken_366 sX_113 (by omega) (by omega) ?_
        rw [upI_o (show (113 : Nat) ≠ 100 by omega), upI_o (show (113 : Nat) ≠ 100 by omega), upI_o (show (113 : Nat) ≠ 100 by omega)]
        rw [k113]
        refine m_bipush dX12_nextToken_367 rfl (by decide) ?_
        refine m_icmp_ne (tgt := 378) dX12_nextToken_369 (by decide) (fun c369 => ?_) (fun c369 => ?_)
        · refine m_ldc2 (a := -4) dX12_nextToken_378 kc_X12_251 rfl ?_
          refine m_pl (z := 22) dX12_nextToken_381 fl_X12_243 oX_100 rfl rfl rfl ?_
          refine m_aload_n dX12_nextToken_384 rfl ?_
          refine m_dup dX12_nextToken_385 (fun _ z => by cases z) ?_
          refine m_gi (z := 20) dX12_nextToken_386 fl_X12_229 oX_100 rfl rfl ?_
          rw [upI_j (show (20 : Int) ≠ 22 by decide), upI_j (show (20 : Int) ≠ 24 by decide), upI_j (show (20 : Int) ≠ 23 by decide), upI_j (show (20 : Int) ≠ 21 by decide)]
          rw [h20]
          refine m_iconst dX12_nextToken_389 (by decide) ?_
          refine m_iadd dX12_nextToken_390 (by omega) ?_
          refine m_pi (z := 20) dX12_nextToken_391 fl_X12_229 oX_100 rfl rfl rfl ?_
          refine m_vret dX12_nextToken_394 rfl ?_
          first
          | exact h _ (fend (by omega))
          | exact h _ (foth (by omega) z93 z238 _ (by rw [if_pos (by omega)]))
          | exact h _ (foth (by omega) z93 z238 _ (by rw [if_neg (by omega)]))
        · refine m_ldc2 (a := -3) dX12_nextToken_372 kc_X12_255 rfl ?_
          refine m_goto (tgt := 381) dX12_nextToken_375 (by decide) ?_
          refine m_pl (z := 22) dX12_nextToken_381 fl_X12_243 oX_100 rfl rfl rfl ?_
          refine m_aload_n dX12_nextToken_384 rfl ?_
          refine m_dup dX12_nextToken_385 (fun _ z => by cases z) ?_
          refine m_gi (z := 20) dX12_nextToken_386 fl_X12_229 oX_100 rfl rfl ?_
          rw [upI_j (show (20 : Int) ≠ 22 by decide), upI_j (show (20 : Int) ≠ 24 by decide), upI_j (show (20 : Int) ≠ 23 by decide), upI_j (show (20 : Int) ≠ 21 by decide)]
          rw [h20]
          refine m_iconst dX12_nextToken_389 (by decide) ?_
          refine m_iadd dX12_nextToken_390 (by omega) ?_
          refine m_pi (z := 20) dX12_nextToken_391 fl_X12_229 oX_100 rfl rfl rfl ?_
          refine m_vret dX12_nextToken_394 rfl ?_
          first
          | exact h _ (fend (by omega))
          | exact h _ (foth (by omega) z93 z238 _ (by rw [if_pos (by omega)]))
          | exact h _ (foth (by omega) z93 z238 _ (by rw [if_neg (by omega)]))
      · have z238 : isDg (I 113 s) := (show (48 ≤ I 113 s ∧ I 113 s ≤ 57) from bI_ne0 c238)
        exact y_nt_dig hd hT hp hsp ⟨hs, by omega⟩ h z238 _ 0 _ (Nat.lt_succ_self _) (by omega) (FrY_up (FrY_up (FrY_up hF (show (20 : Int) ≤ 21 ∧ (21 : Int) ≤ 24 by decide)) (show (20 : Int) ≤ 23 ∧ (23 : Int) ≤ 24 by decide)) (show (20 : Int) ≤ 24 ∧ (24 : Int) ≤ 24 by decide)) (((upI_j (by decide)).trans ((upI_j (by decide)).trans ((upI_j (by decide)).trans h20))).trans (Int.add_zero s).symm) ((upI_j (by decide)).trans ((upI_j (by decide)).trans upI_s)) ((upI_j (by decide)).trans upI_s) upI_s (fun i hi => absurd hi (Nat.not_lt_zero i))
    · have z93 : isLe (I 113 s) := (show (97 ≤ I 113 s ∧ I 113 s ≤ 122) from bI_ne0 c93)
      refine m_aload_n dX12_nextToken_96 rfl ?_
      refine m_lconst dX12_nextToken_97 rfl ?_
      refine m_pl (z := 22) dX12_nextToken_98 fl_X12_243 oX_100 rfl rfl rfl ?_
      exact y_nt_let hd hT hp hsp ⟨hs, by omega⟩ h z93 _ 0 _ (Nat.lt_succ_self _) (by omega) (FrY_up (FrY_up (FrY_up (FrY_up hF (show (20 : Int) ≤ 21 ∧ (21 : Int) ≤ 24 by decide)) (show (20 : Int) ≤ 23 ∧ (23 : Int) ≤ 24 by decide)) (show (20 : Int) ≤ 24 ∧ (24 : Int) ≤ 24 by decide)) (show (20 : Int) ≤ 22 ∧ (22 : Int) ≤ 24 by decide)) (((upI_j (by decide)).trans ((upI_j (by decide)).trans ((upI_j (by decide)).trans ((upI_j (by decide)).trans h20)))).trans (Int.add_zero s).symm) ((upI_j (by decide)).trans ((upI_j (by decide)).trans ((upI_j (by decide)).trans upI_s))) (upI_s.trans rfl) (fun i hi => absurd hi (Nat.not_lt_zero i))
  · refine m_aload_n dX12_nextToken_67 rfl ?_
    refine m_ldc2 (a := -2) dX12_nextToken_68 kc_X12_241 rfl ?_
    refine m_pl (z := 22) dX12_nextToken_71 fl_X12_243 oX_100 rfl rfl rfl ?_
    refine m_goto (tgt := 394) dX12_nextToken_74 (by decide) ?_
    refine m_vret dX12_nextToken_394 rfl ?_
    first
    | exact h _ (fend (by omega))
    | exact h _ (foth (by omega) z93 z238 _ (by rw [if_pos (by omega)]))
    | exact h _ (foth (by omega) z93 z238 _ (by rw [if_neg (by omega)]))
theorem y_nt_skip {p : Int} {Q : QT} (hd : 1 ≤ d) (hT : TyI I) (hp : 0 ≤ p ∧ p ≤ I 100 18) (h : ∀ J, FrY I J ∧ J 100 20 = tE (I 113) (I 100 18) p ∧ J 100 21 = tS (I 113) (I 100 18) p ∧ tkV (I 113) (I 100 18) p (J 100 22) (J 100 24) → Q none (shX nm no) (RX nm no) J) :
    ∀ (m : Nat) (s : Int) (K : II), (I 100 18 - s).toNat < m → p ≤ s → s ≤ I 100 18 → FrY I K → K 100 20 = s → (∀ i, p ≤ i → i < s → I 113 i = 32) → T g d mX12_nextToken 0 0 0 [some (vr 100)] [] (shX nm no) (RX nm no) K Q := by
  have hT1 := hT.1
  intro m
  induction m with
  | zero => intro s K hm; omega
  | succ m ih =>
    intro s K hm hs1 hs2 hF h20 hsp
    have k18 : K 100 18 = I 100 18 := hF.2 18 (by decide)
    have k113 : K 113 = I 113 := hF.1 113 (by decide)
    refine m_aload_n dX12_nextToken_0 rfl ?_
    refine m_gi (z := 20) dX12_nextToken_1 fl_X12_229 oX_100 rfl rfl ?_
    rw [h20]
    refine m_aload_n dX12_nextToken_4 rfl ?_
    refine m_gi (z := 18) dX12_nextToken_5 fl_X12_224 oX_100 rfl rfl ?_
    rw [k18]
    refine m_icmp_ge (tgt := 38) dX12_nextToken_8 (by decide) (fun c8 => ?_) (fun c8 => ?_)
    · exact y_nt_38 hd hT hp ⟨by omega, hsp, fun z => by first | exact c22 | omega⟩ (by omega) h hF h20
    · refine m_aload_n dX12_nextToken_11 rfl ?_
      refine m_gr (z := 19) dX12_nextToken_12 fl_X12_51 oX_100 rfl rfl rX_100_19 ?_
      refine m_aload_n dX12_nextToken_15 rfl ?_
      refine m_gi (z := 20) dX12_nextToken_16 fl_X12_229 oX_100 rfl rfl ?_
      rw [h20]
      refine m_iald dX12_nextToken_19 sX_113 (by omega) (by omega) ?_
      rw [k113]
      refine m_bipush dX12_nextToken_20 rfl (by decide) ?_
      refine m_icmp_ne (tgt := 38) dX12_nextToken_22 (by decide) (fun c22 => ?_) (fun c22 => ?_)
      · exact y_nt_38 hd hT hp ⟨by omega, hsp, fun z => by first | exact c22 | omega⟩ (by omega) h hF h20
      · refine m_aload_n dX12_nextToken_25 rfl ?_
        refine m_dup dX12_nextToken_26 (fun _ z => by cases z) ?_
        refine m_gi (z := 20) dX12_nextToken_27 fl_X12_229 oX_100 rfl rfl ?_
        rw [h20]
        refine m_iconst dX12_nextToken_30 (by decide) ?_
        refine m_iadd dX12_nextToken_31 (by omega) ?_
        refine m_pi (z := 20) dX12_nextToken_32 fl_X12_229 oX_100 rfl rfl rfl ?_
        refine m_goto (tgt := 0) dX12_nextToken_35 (by decide) ?_
        refine ih (s + 1) _ (by omega) (by omega) (by omega) (FrY_up hF (show (20 : Int) ≤ 20 ∧ (20 : Int) ≤ 24 by decide)) upI_s (fun i i0 i1 => ?_)
        rcases (show i < s ∨ i = s by omega) with y | y
        · exact hsp i i0 y
        · subst y; omega
theorem y_nextToken {f : Int → Int} {n p : Int} (hd : 1 ≤ d) (hf : I 113 = f) (hn : I 100 18 = n) (hT : TyI I) (h20 : I 100 20 = p) (hp : 0 ≤ p ∧ p ≤ n) : SV g d mX12_nextToken [vr 100] (shX nm no) (RX nm no) I (fun J => FrY I J ∧ J 100 20 = tE f n p ∧ J 100 21 = tS f n p ∧ tkV f n p (J 100 22) (J 100 24)) := by
  subst hf; subst hn
  intro Q h
  refine C_of rfl (Nat.le_of_ble_eq_true rfl) rfl ?_
  exact y_nt_skip hd hT hp h _ p I (Nat.lt_succ_self _) (Int.le_refl p) hp.2 FrY_rf h20 (fun i a b => by omega)
end
