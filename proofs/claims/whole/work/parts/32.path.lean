/-! SHORTEST WAYS, as mathematics: W wires with ends A, B and costs K ≥ 1, those with U may be used; r o: what the way from office o to 'to' costs -/
def pIn (W : Int) (U : Int → Prop) (w : Int) : Prop := 0 ≤ w ∧ w < W ∧ U w
def pOK (W : Int) (A B K : Int → Int) (U : Int → Prop) : Prop := ∀ w, pIn W U w → (0 ≤ A w ∧ A w < 8) ∧ (0 ≤ B w ∧ B w < 8) ∧ 1 ≤ K w
def pInv (W : Int) (A B K : Int → Int) (U : Int → Prop) (to : Int) (r : Int → Int) : Prop :=
  r to = 0 ∧ (∀ o, 0 ≤ o → o < 8 → 0 ≤ r o ∧ r o ≤ 1000000) ∧ ∀ o, 0 ≤ o → o < 8 → o ≠ to → r o < 1000000 → ∃ w, pIn W U w ∧ ((A w = o ∧ r (B w) + K w ≤ r o) ∨ (B w = o ∧ r (A w) + K w ≤ r o))
def pFix (W : Int) (A B K : Int → Int) (U : Int → Prop) (r : Int → Int) : Prop := ∀ w, pIn W U w → r (A w) ≤ r (B w) + K w ∧ r (B w) ≤ r (A w) + K w
def pSol (W : Int) (A B K : Int → Int) (U : Int → Prop) (to : Int) (r : Int → Int) : Prop := pInv W A B K U to r ∧ pFix W A B K U r
section
variable {W : Int} {A B K : Int → Int} {U : Int → Prop} {to : Int}
/-- a solution lies below everything that is attained -/
theorem p_low (hO : pOK W A B K U) {s r : Int → Int} (hs : pSol W A B K U to s) (hr : pInv W A B K U to r) (ht : 0 ≤ to ∧ to < 8) : ∀ o, 0 ≤ o → o < 8 → s o ≤ r o := by
  have key : ∀ (n : Nat) (o : Int), 0 ≤ o → o < 8 → (r o).toNat < n → s o ≤ r o := by
    intro n
    induction n with
    | zero => intro o _ _ h; omega
    | succ n ih =>
      intro o h0 h1 hn
      by_cases e : o = to
      · subst e; rw [hs.1.1, hr.1]; omega
      · rcases (show r o < 1000000 ∨ 1000000 ≤ r o by omega) with q | q
        · obtain ⟨w, hw, z⟩ := hr.2.2 o h0 h1 e q
          obtain ⟨a1, b1, k1⟩ := hO w hw
          have f := hs.2 w hw
          have ra := hr.2.1 (A w) a1.1 a1.2
          have rb := hr.2.1 (B w) b1.1 b1.2
          rcases z with ⟨z1, z2⟩ | ⟨z1, z2⟩
          · have := ih (B w) b1.1 b1.2 (by omega)
            rw [z1] at f
            omega
          · have := ih (A w) a1.1 a1.2 (by omega)
            rw [z1] at f
            omega
        · have := hs.1.2.1 o h0 h1
          omega
  intro o h0 h1
  exact key ((r o).toNat + 1) o h0 h1 (by omega)
theorem p_uniq (hO : pOK W A B K U) {s r : Int → Int} (hs : pSol W A B K U to s) (hr : pSol W A B K U to r) (ht : 0 ≤ to ∧ to < 8) : ∀ o, 0 ≤ o → o < 8 → s o = r o := fun o h0 h1 => by
  have := p_low hO hs hr.1 ht o h0 h1
  have := p_low hO hr hs.1 ht o h0 h1
  omega
def upF (r : Int → Int) (o v : Int) : Int → Int := fun x => if x = o then v else r x
theorem upF_s {r : Int → Int} {o v : Int} : upF r o v o = v := if_pos rfl
theorem upF_n {r : Int → Int} {o v x : Int} (h : x ≠ o) : upF r o v x = r x := if_neg h
theorem upF_le {r : Int → Int} {o v x : Int} (h : v ≤ r o) : upF r o v x ≤ r x := by
  by_cases e : x = o
  · subst e; rw [upF_s]; exact h
  · rw [upF_n e]; exact Int.le_refl _
/-- one office's number falls to what a wire gives -/
theorem p_relax (hO : pOK W A B K U) {r : Int → Int} (hr : pInv W A B K U to r) {w p q : Int} (hw : pIn W U w) (he : (A w = p ∧ B w = q) ∨ (B w = p ∧ A w = q)) (hlt : r p + K w < r q) : pInv W A B K U to (upF r q (r p + K w)) := by
  obtain ⟨a1, b1, k1⟩ := hO w hw
  have hp : 0 ≤ p ∧ p < 8 := by rcases he with ⟨e1, e2⟩ | ⟨e1, e2⟩ <;> omega
  have hq : 0 ≤ q ∧ q < 8 := by rcases he with ⟨e1, e2⟩ | ⟨e1, e2⟩ <;> omega
  have rp := hr.2.1 p hp.1 hp.2
  have rq := hr.2.1 q hq.1 hq.2
  have hle : ∀ x, upF r q (r p + K w) x ≤ r x := fun x => upF_le (by omega)
  have hqt : q ≠ to := fun e => by rw [e, hr.1] at hlt; omega
  have hpq : p ≠ q := fun e => by rw [e] at hlt; omega
  refine ⟨by rw [upF_n (fun e => hqt e.symm)]; exact hr.1, fun o h0 h1 => ?_, fun o h0 h1 hot hoi => ?_⟩
  · by_cases e : o = q
    · rw [e, upF_s]; omega
    · rw [upF_n e]; exact hr.2.1 o h0 h1
  · by_cases e : o = q
    · subst e
      refine ⟨w, hw, ?_⟩
      rw [upF_s]
      rcases he with ⟨e1, e2⟩ | ⟨e1, e2⟩
      · exact Or.inr ⟨e2, by rw [e1, upF_n hpq]; exact Int.le_refl _⟩
      · exact Or.inl ⟨e2, by rw [e1, upF_n hpq]; exact Int.le_refl _⟩
    · rw [upF_n e] at hoi ⊢
      obtain ⟨v, hv, z⟩ := hr.2.2 o h0 h1 hot hoi
      refine ⟨v, hv, ?_⟩
      rcases z with ⟨z1, z2⟩ | ⟨z1, z2⟩
      · exact Or.inl ⟨z1, by have := hle (B v); omega⟩
      · exact Or.inr ⟨z1, by have := hle (A v); omega⟩
/-- how many offices are counted -/
def pc8 (P : Int → Prop) [DecidablePred P] : Nat → Nat
  | 0 => 0
  | n + 1 => pc8 P n + (if P (n : Int) then 1 else 0)
theorem pc8_le {P P' : Int → Prop} [DecidablePred P] [DecidablePred P'] : ∀ n : Nat, (∀ o : Int, 0 ≤ o → o < n → P' o → P o) → pc8 P' n ≤ pc8 P n
  | 0, _ => Nat.le_refl _
  | n + 1, h => by
    have ih := pc8_le n (fun o h0 h1 => h o h0 (by omega))
    have h2 := h n (by omega) (by omega)
    unfold pc8
    by_cases a : P' (n : Int)
    · rw [if_pos a, if_pos (h2 a)]; omega
    · rw [if_neg a]; omega
theorem pc8_lt {P P' : Int → Prop} [DecidablePred P] [DecidablePred P'] : ∀ n : Nat, (∀ o : Int, 0 ≤ o → o < n → P' o → P o) → (∃ o : Int, 0 ≤ o ∧ o < n ∧ P o ∧ ¬ P' o) → pc8 P' n < pc8 P n
  | 0, _, ⟨o, h0, h1, _⟩ => by omega
  | n + 1, h, ⟨o, h0, h1, h3, h4⟩ => by
    have h2 := h n (by omega) (by omega)
    have hm := pc8_le (P := P) (P' := P') n (fun o h0 h1 => h o h0 (by omega))
    unfold pc8
    by_cases e : o = n
    · subst e
      rw [if_pos h3, if_neg h4]; omega
    · have ih := pc8_lt n (fun o h0 h1 => h o h0 (by omega)) ⟨o, h0, by omega, h3, h4⟩
      by_cases a : P' (n : Int)
      · rw [if_pos a, if_pos (h2 a)]; omega
      · rw [if_neg a]; omega
theorem pc8_0 {P : Int → Prop} [DecidablePred P] : ∀ n : Nat, pc8 P n = 0 → ∀ o : Int, 0 ≤ o → o < n → ¬ P o
  | 0, _, o, h0, h1 => by omega
  | n + 1, h, o, h0, h1 => by
    unfold pc8 at h
    by_cases e : o = n
    · subst e
      intro z; rw [if_pos z] at h; omega
    · exact pc8_0 n (by omega) o h0 (by omega)
theorem pc8_max {P : Int → Prop} [DecidablePred P] : ∀ n : Nat, pc8 P n ≤ n
  | 0 => Nat.le_refl _
  | n + 1 => by
    have := pc8_max (P := P) n
    unfold pc8
    split <;> omega
abbrev pBad (s r : Int → Int) : Nat := pc8 (fun o => r o ≠ s o) 8
/-- there is a solution below any start that is attained -/
theorem p_ex (hO : pOK W A B K U) (ht : 0 ≤ to ∧ to < 8) : ∀ (n : Nat) (r : Int → Int), (r 0 + r 1 + r 2 + r 3 + r 4 + r 5 + r 6 + r 7).toNat < n → pInv W A B K U to r → ∃ s, pSol W A B K U to s := by
  intro n
  induction n with
  | zero => intro r h; omega
  | succ n ih =>
    intro r hn hr
    by_cases hf : pFix W A B K U r
    · exact ⟨r, hr, hf⟩
    · have : ∃ w p q, pIn W U w ∧ ((A w = p ∧ B w = q) ∨ (B w = p ∧ A w = q)) ∧ r p + K w < r q := by
        apply Classical.byContradiction
        intro h
        apply hf
        intro w hw
        constructor
        · apply Classical.byContradiction
          intro z
          exact h ⟨w, B w, A w, hw, Or.inr ⟨rfl, rfl⟩, by omega⟩
        · apply Classical.byContradiction
          intro z
          exact h ⟨w, A w, B w, hw, Or.inl ⟨rfl, rfl⟩, by omega⟩
      obtain ⟨w, p, q, hw, he, hlt⟩ := this
      obtain ⟨a1, b1, k1⟩ := hO w hw
      have hp : 0 ≤ p ∧ p < 8 := by rcases he with ⟨e1, e2⟩ | ⟨e1, e2⟩ <;> omega
      have hq : 0 ≤ q ∧ q < 8 := by rcases he with ⟨e1, e2⟩ | ⟨e1, e2⟩ <;> omega
      refine ih (upF r q (r p + K w)) ?_ (p_relax hO hr hw he hlt)
      have h0 := hr.2.1 0 (by omega) (by omega)
      have h1 := hr.2.1 1 (by omega) (by omega)
      have h2 := hr.2.1 2 (by omega) (by omega)
      have h3 := hr.2.1 3 (by omega) (by omega)
      have h4 := hr.2.1 4 (by omega) (by omega)
      have h5 := hr.2.1 5 (by omega) (by omega)
      have h6 := hr.2.1 6 (by omega) (by omega)
      have h7 := hr.2.1 7 (by omega) (by omega)
      have hp1 := hr.2.1 p hp.1 hp.2
      rcases (show q = 0 ∨ q = 1 ∨ q = 2 ∨ q = 3 ∨ q = 4 ∨ q = 5 ∨ q = 6 ∨ q = 7 by omega) with e | e | e | e | e | e | e | e <;> subst e <;> simp [upF] <;> omega
/-- what a turn over all wires does -/
def pTurn (W : Int) (A B K : Int → Int) (U : Int → Prop) (to : Int) (r r' : Int → Int) (n : Int) : Prop := pInv W A B K U to r' ∧ (∀ o, 0 ≤ o → o < 8 → r' o ≤ r o) ∧ ∀ w, pIn W U w → w < n → r' (B w) ≤ r (A w) + K w ∧ r' (A w) ≤ r (B w) + K w
theorem p_bad (hO : pOK W A B K U) (ht : 0 ≤ to ∧ to < 8) {s r r' : Int → Int} (hs : pSol W A B K U to s) (hr : pInv W A B K U to r) (hT : pTurn W A B K U to r r' W) (h : 0 < pBad s r) : pBad s r' < pBad s r := by
  have lo := p_low hO hs hr ht
  have lo' := p_low hO hs hT.1 ht
  have hex : ∃ o : Int, 0 ≤ o ∧ o < 8 ∧ r o ≠ s o := by
    apply Classical.byContradiction
    intro hn
    have : pBad s r ≤ pc8 (fun o => (1 : Int) ≠ 1) 8 := pc8_le 8 (fun o h0 h1 z => absurd ⟨o, h0, by omega, z⟩ hn)
    have h9 : pc8 (fun _ => (1 : Int) ≠ 1) 8 = 0 := by decide
    omega
  have hmin : ∀ n : Nat, ∀ o : Int, 0 ≤ o → o < 8 → r o ≠ s o → (s o).toNat < n → ∃ m : Int, 0 ≤ m ∧ m < 8 ∧ r m ≠ s m ∧ ∀ x, 0 ≤ x → x < 8 → r x ≠ s x → s m ≤ s x := by
    intro n
    induction n with
    | zero => intro o _ _ _ z; omega
    | succ n ih =>
      intro o h0 h1 h2 h3
      by_cases hb : ∃ x : Int, 0 ≤ x ∧ x < 8 ∧ r x ≠ s x ∧ s x < s o
      · obtain ⟨x, x0, x1, x2, x3⟩ := hb
        have := hs.1.2.1 x x0 x1
        exact ih x x0 x1 x2 (by omega)
      · refine ⟨o, h0, h1, h2, fun x x0 x1 x2 => ?_⟩
        apply Classical.byContradiction
        intro z
        exact hb ⟨x, x0, x1, x2, by omega⟩
  obtain ⟨o, h0, h1, h2⟩ := hex
  obtain ⟨m, m0, m1, m2, m3⟩ := hmin ((s o).toNat + 1) o h0 h1 h2 (by omega)
  refine pc8_lt 8 (fun x x0 x1 z => ?_) ⟨m, m0, by omega, m2, ?_⟩
  · intro e
    have a := lo' x x0 (by omega)
    have b := hT.2.1 x x0 (by omega)
    exact z (by omega)
  · have lm := lo m m0 m1
    have rm := hr.2.1 m m0 m1
    have hmt : m ≠ to := fun e => m2 (by rw [e, hr.1, hs.1.1])
    obtain ⟨w, hw, z⟩ := hs.1.2.2 m m0 m1 hmt (by omega)
    obtain ⟨a1, b1, k1⟩ := hO w hw
    have t := hT.2.2 w hw hw.2.1
    have lm' := lo' m m0 m1
    intro hne
    rcases z with ⟨z1, z2⟩ | ⟨z1, z2⟩
    · have e : r (B w) = s (B w) := Classical.byContradiction fun q => by have := m3 (B w) b1.1 b1.2 q; omega
      rw [z1] at t
      omega
    · have e : r (A w) = s (A w) := Classical.byContradiction fun q => by have := m3 (A w) a1.1 a1.2 q; omega
      rw [z1] at t
      omega
end
