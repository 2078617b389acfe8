/-! POST: pass -/
/-- wire v may be used in minute t, with wire lw let beside -/
def UX (I : II) (lw t v : Int) : Prop := 0 ≤ v ∧ upX I t v ∧ v ≠ lw
noncomputable def minT (I : II) (nm no : Nat) (lw t : Int) (D : MV) : MV :=
  minuteF nm t (I 24) (I 25) (I 26) (I 27) (UX I lw t) (opX I t) (fun o to n => nxF (I 21 9) (I 24) (I 25) (I 26) (UX I lw t) o to n) (fun o n k => wsX I (goX I no o t) n k) (fun o k => I (orw (goX I no o t) 0) k) (fun o => nightX I (goX I no o t) (t % 1440 / 60)) (fun m => I (200 + m) 0) (fun m => I (200 + m) 1) (fun m => I (200 + m) 2) (fun m => I (200 + m) 4) (I 21 9).toNat D
noncomputable def minN (I : II) (nm no : Nat) (lw t : Int) (D : MV) : Nat → MV
  | 0 => D
  | n + 1 => minT I nm no lw (t + n) (minN I nm no lw t D n)
/-- what the messages rest on -/
def PoI (I : II) (nm no : Nat) : Prop := I 43 4 = nm ∧ nm ≤ 24 ∧ NetI I ∧ StI I 28 29 30 31 12 ∧ StI I 32 33 34 35 6 ∧ LawI I no ∧ (∀ m, m < nm → MsgS I (200 + m)) ∧ (∀ m, m < nm → MsgD (I 21 9) (I 24) (I 25) (I 43 5) (vX I m)) ∧ (∀ m, m < nm → CacI I (200 + m)) ∧ (0 ≤ I 43 5 ∧ I 43 5 ≤ 9000)
/-- what minutes leave as it was -/
def FrP (I J : II) (nm : Nat) : Prop := (∀ x, ¬ (200 ≤ x ∧ x < 200 + nm) → x ≠ 36 → x ≠ 43 → J x = I x) ∧ (∀ j : Int, j ≠ 5 → J 43 j = I 43 j) ∧ ∀ m, m < nm → ∀ j : Int, j < 5 → J (200 + m) j = I (200 + m) j
/-- NEXT is there -/
theorem isNx_ex {W : Int} {A B K : Int → Int} {U : Int → Prop} {to o : Int} (hO : pOK W A B K U) (ht : 0 ≤ to ∧ to < 8) (ho : 0 ≤ o ∧ o < 8) (hne : o ≠ to) : ∃ v, isNx W A B K U to o v := by
  obtain ⟨s, hs⟩ := p_ex hO ht _ _ (Nat.lt_succ_self _) (p_start (W := W) (A := A) (B := B) (K := K) (U := U) ht (r := fun x => if x = to then 0 else 1000000) (if_pos rfl) (fun o _ _ h => if_neg h))
  have hb := hs.1.2.1 o ho.1 ho.2
  rcases (show s o = 1000000 ∨ s o < 1000000 by omega) with z | z
  · exact ⟨-1, s, hs, Or.inl ⟨z, rfl⟩⟩
  · obtain ⟨w, hw, hp⟩ := nx_some hO ho hne hs z
    have key : ∀ n : Nat, ∀ w : Int, w.toNat < n → (0 ≤ w ∧ w < W) → pBeg A B K U s o w → ∃ v, (0 ≤ v ∧ v < W) ∧ pBeg A B K U s o v ∧ ∀ x, 0 ≤ x → x < v → ¬ pBeg A B K U s o x := by
      intro n
      induction n with
      | zero => intro w h; omega
      | succ n ih =>
        intro w h1 h2 h3
        by_cases hx : ∃ x, 0 ≤ x ∧ x < w ∧ pBeg A B K U s o x
        · obtain ⟨x, x0, x1, x2⟩ := hx
          exact ih x (by omega) (by omega) x2
        · exact ⟨w, h2, h3, fun x x0 x1 x2 => hx ⟨x, x0, x1, x2⟩⟩
    obtain ⟨v, v1, v2, v3⟩ := key _ w (Nat.lt_succ_self _) hw hp
    exact ⟨v, s, hs, Or.inr ⟨z, v1, v2, v3⟩⟩
theorem nxF_up {W : Int} {A B SPD : Int → Int} {U : Int → Prop} {to o n v : Int} (hO : pOK W A B (fun v => (n + SPD v - 1) / SPD v) U) (ht : 0 ≤ to ∧ to < 8) (ho : 0 ≤ o ∧ o < 8) (hne : o ≠ to) (h : nxF W A B SPD U o to n = v) (hv : 0 ≤ v) : U v ∧ v < W := by
  obtain ⟨u, hu⟩ := isNx_ex hO ht ho hne
  have e := nxF_eq hO ht ho hu
  rw [h] at e
  subst e
  obtain ⟨s, -, ⟨-, z⟩ | ⟨-, z, y, -⟩⟩ := hu
  · omega
  · exact ⟨y.1, z.2⟩
/-- only wires that there are matter -/
theorem isNx_congr {W : Int} {A B K : Int → Int} {U V : Int → Prop} {to o : Int} (h : ∀ v, 0 ≤ v → v < W → (U v ↔ V v)) : isNx W A B K U to o = isNx W A B K V to o := by
  have hin : ∀ v, pIn W U v ↔ pIn W V v := fun v => ⟨fun ⟨a, b, c⟩ => ⟨a, b, (h v a b).mp c⟩, fun ⟨a, b, c⟩ => ⟨a, b, (h v a b).mpr c⟩⟩
  have hsol : ∀ s, pSol W A B K U to s ↔ pSol W A B K V to s := fun s => by
    unfold pSol pInv pFix
    simp only [hin]
  have hbeg : ∀ s w, 0 ≤ w → w < W → (pBeg A B K U s o w ↔ pBeg A B K V s o w) := fun s w a b => by
    unfold pBeg
    rw [h w a b]
  funext v
  apply propext
  unfold isNx
  constructor
  · rintro ⟨s, hs, z⟩
    refine ⟨s, (hsol s).mp hs, z.imp id (fun ⟨a, b, c, d⟩ => ⟨a, b, (hbeg s v b.1 b.2).mp c, fun w w0 w1 q => d w w0 w1 ((hbeg s w w0 (by omega)).mpr q)⟩)⟩
  · rintro ⟨s, hs, z⟩
    refine ⟨s, (hsol s).mpr hs, z.imp id (fun ⟨a, b, c, d⟩ => ⟨a, b, (hbeg s v b.1 b.2).mpr c, fun w w0 w1 q => d w w0 w1 ((hbeg s w w0 (by omega)).mp q)⟩)⟩
theorem nxF_congr {W : Int} {A B SPD : Int → Int} {U V : Int → Prop} {o to n : Int} (h : ∀ v, 0 ≤ v → v < W → (U v ↔ V v)) : nxF W A B SPD U o to n = nxF W A B SPD V o to n := by
  unfold nxF
  rw [isNx_congr h]
theorem sendW_congr {nm : Nat} {t : Int} {A B SPD DB : Int → Int} {U V OP : Int → Prop} {NX : Int → Int → Int → Int} {WS : Int → Int → Int → Int} {RK : Int → Int → Int} {NT : Int → Prop} {TO WD KD HI : Nat → Int} {D : MV} : ∀ n : Nat, (∀ v : Int, 0 ≤ v → v < n → (U v ↔ V v)) → sendW nm t A B SPD DB U OP NX WS RK NT TO WD KD HI D n = sendW nm t A B SPD DB V OP NX WS RK NT TO WD KD HI D n
  | 0, _ => rfl
  | n + 1, h => by
    rw [sendW, sendW, sendW_congr n (fun v a b => h v a (by omega)), propext (h n (by omega) (by omega))]
theorem endM_congr {t W : Int} {A B : Int → Int} {U V : Int → Prop} (h : ∀ v, 0 ≤ v → v < W → (U v ↔ V v)) {x : Int → Int} (hx : x 0 = 1 → 0 ≤ x 2 ∧ x 2 < W) : endM t A B U x = endM t A B V x := by
  unfold endM
  by_cases c : x 0 = 1
  · rw [if_pos c, if_pos c, propext (h _ (hx c).1 (hx c).2)]
  · rw [if_neg c, if_neg c]
theorem MsgD_end {W t : Int} {A B : Int → Int} {U : Int → Prop} {x : Int → Int} (h : MsgD W A B t x) (hW : ∀ v, 0 ≤ v → v < W → (0 ≤ A v ∧ A v < 8) ∧ (0 ≤ B v ∧ B v < 8)) : MsgD W A B (t + 1) (endM t A B U x) := by
  obtain ⟨d1, d2, d3, d4, d5, d6⟩ := h
  by_cases c : x 0 = 1
  · obtain ⟨e1, e2, e3⟩ := d3 c
    have hw := hW (x 2) e1.1 e1.2
    by_cases cu : U (x 2)
    · by_cases ct : x 3 = t
      · rw [endM, if_pos c, cif_t cu, if_pos ct]
        refine ⟨Or.inl rfl, ?_, (fun z => by cases z), fun _ => ⟨rfl, rfl⟩, ?_, d6⟩
        · show 0 ≤ othF A B (x 2) (x 1) ∧ othF A B (x 2) (x 1) < 8
          unfold othF; split
          · exact hw.2
          · exact hw.1
        · show 0 ≤ x 5 ∧ x 5 ≤ t + 1
          omega
      · rw [endM, if_pos c, cif_t cu, if_neg ct]
        exact ⟨d1, d2, fun _ => ⟨e1, e2, by omega, e3.2⟩, d4, by omega, d6⟩
    · rw [endM, if_pos c, cif_f cu]
      refine ⟨Or.inl rfl, d2, (fun z => by cases z), fun _ => ⟨rfl, rfl⟩, ?_, d6⟩
      show 0 ≤ x 5 + 1 ∧ x 5 + 1 ≤ t + 1
      omega
  · rw [endM, if_neg c]
    exact ⟨d1, d2, fun z => absurd z c, d4, by omega, d6⟩
theorem MsgD_giv {W t : Int} {A B : Int → Int} {OP : Int → Prop} {TO : Nat → Int} {m : Nat} {x : Int → Int} (h : MsgD W A B (t + 1) x) (ht : 0 ≤ t ∧ t ≤ 9000) : MsgD W A B (t + 1) (givM t OP TO m x) := by
  obtain ⟨d1, d2, d3, d4, d5, d6⟩ := h
  by_cases c : x 0 = 0 ∧ x 1 = TO m ∧ OP (TO m)
  · rw [givM, cif_t c]
    have := d4 (by omega)
    exact ⟨Or.inr (Or.inr rfl), d2, (fun z => by cases z), fun _ => this, d5, by show -1 ≤ t ∧ t ≤ 9000; omega⟩
  · rw [givM, cif_f c]
    exact ⟨d1, d2, d3, d4, d5, d6⟩
theorem cac_ew {I J : II} {q : Nat} (e : ∀ x, x < 28 → J x = I x) (h : ∀ j : Int, (j < 5 ∨ 10 < j) → J q j = I q j) (hc : CacI I q) : CacI J q := by
  unfold CacI at hc ⊢
  rw [h 11 (by omega), h 12 (by omega), h 13 (by omega), h 14 (by omega), h 0 (by omega), e 21 (by omega), e 24 (by omega), e 25 (by omega), e 26 (by omega)]
  exact hc
theorem stI_fr {I J : II} {o a b c : Nat} {n : Int} (ho : J o = I o) (ha : J a = I a) (hb : J b = I b) (hc : J c = I c) (h : StI I o a b c n) : StI J o a b c n := by
  unfold StI
  rw [ho, ha, hb, hc]
  exact h
/-- the rows that a minute reads stay, so the minute's function stays -/
theorem minT_fr {I J : II} {nm no : Nat} {lw t : Int} {D : MV} (h : FrP I J nm) (hm : nm ≤ 24) (hno : no ≤ 6) : minT J nm no lw t D = minT I nm no lw t D := by
  obtain ⟨h1, h2, h3⟩ := h
  have e : ∀ x, x < 200 → x ≠ 36 → x ≠ 43 → J x = I x := fun x a b c => h1 x (by omega) b c
  have e3 : ∀ x, 300 ≤ x → J x = I x := fun x a => h1 x (by omega) (by omega) (by omega)
  have eq : ∀ o, J (goX I no o t) = I (goX I no o t) := fun o => by
    have q := oid_ge no (gbF I o t no)
    rcases q with q | q
    · exact e _ (by unfold goX; omega) (by unfold goX; omega) (by unfold goX; omega)
    · exact e3 _ q
  have eq0 : ∀ o, J (orw (goX I no o t) 0) = I (orw (goX I no o t) 0) := fun o => by
    have q := orw_ge (goX I no o t) 0 (oid_ge no (gbF I o t no)) (by omega)
    rcases q with q | q
    · exact e _ (by omega) (by omega) (by omega)
    · exact e3 _ q
  have eg : ∀ o, goX J no o t = goX I no o t := fun o => goX_eq e3 no o t
  have em : ∀ j : Int, j < 5 → (fun m : Nat => J (200 + m) j) = fun m : Nat => I (200 + m) j := fun j hj => by
    funext m
    by_cases c : m < nm
    · exact h3 m c j hj
    · rw [h1 _ (by omega) (by omega) (by omega)]
  have eU : UX J lw t = UX I lw t := by
    funext v
    unfold UX upX stp
    rw [e 21 (by omega) (by omega) (by omega), e 28 (by omega) (by omega) (by omega), e 29 (by omega) (by omega) (by omega), e 30 (by omega) (by omega) (by omega), e 31 (by omega) (by omega) (by omega), e 32 (by omega) (by omega) (by omega), e 33 (by omega) (by omega) (by omega), e 34 (by omega) (by omega) (by omega), e 35 (by omega) (by omega) (by omega)]
  have eO : opX J t = opX I t := by
    funext o
    unfold opX
    rw [e 22 (by omega) (by omega) (by omega), e 23 (by omega) (by omega) (by omega)]
  have eWS : (fun o n k => wsX J (goX J no o t) n k) = fun o n k => wsX I (goX I no o t) n k := by
    funext o n k
    rw [eg]
    unfold wsX
    rw [eq]
  have eRK : (fun o k => J (orw (goX J no o t) 0) k) = fun o k => I (orw (goX I no o t) 0) k := by
    funext o k
    rw [eg, eq0]
  have eNT : (fun o => nightX J (goX J no o t) (t % 1440 / 60)) = fun o => nightX I (goX I no o t) (t % 1440 / 60) := by
    funext o
    rw [eg]
    unfold nightX
    rw [eq]
  unfold minT
  rw [e 21 (by omega) (by omega) (by omega), e 24 (by omega) (by omega) (by omega), e 25 (by omega) (by omega) (by omega), e 26 (by omega) (by omega) (by omega), e 27 (by omega) (by omega) (by omega), eU, eO, eWS, eRK, eNT, em 0 (by omega), em 1 (by omega), em 2 (by omega), em 4 (by omega)]
theorem FrP_rf {I : II} {nm : Nat} : FrP I I nm := ⟨fun _ _ _ _ => rfl, fun _ _ => rfl, fun _ _ _ _ => rfl⟩
theorem FrP_tr {I J K : II} {nm : Nat} (h : FrP I J nm) (h2 : FrP J K nm) : FrP I K nm := ⟨fun x a b c => (h2.1 x a b c).trans (h.1 x a b c), fun j hj => (h2.2.1 j hj).trans (h.2.1 j hj), fun m hm j hj => (h2.2.2 m hm j hj).trans (h.2.2 m hm j hj)⟩
theorem netI_lt {I J : II} (h : NetI I) (e : ∀ x, x < 28 → J x = I x) : NetI J := by
  unfold NetI
  rw [e 21 (by omega), e 24 (by omega), e 25 (by omega), e 26 (by omega), e 27 (by omega), e 22 (by omega), e 23 (by omega)]
  exact h
theorem lawI_43 {I J : II} {no : Nat} (h : LawI I no) (e : ∀ x, x ≠ 43 → J x = I x) : LawI J no := by
  refine ⟨by rw [e 37 (by omega)]; exact h.1, h.2.1, fun n => ?_⟩
  have h1 := h.2.2 n
  have q := oid_ge no n
  unfold OrdI at h1 ⊢
  have a := orw_ge (oid no n) 0 q (by omega)
  have b := orw_ge (oid no n) 1 q (by omega)
  rw [e (oid no n) (by omega), e (orw (oid no n) 0) (by omega), e (orw (oid no n) 1) (by omega)]
  exact h1
noncomputable def cNX (J : II) (lw : Int) : Int → Int → Int → Int := fun o to n => nxF (J 21 9) (J 24) (J 25) (J 26) (UX J lw (J 43 5)) o to n
def cWS (J : II) (no : Nat) : Int → Int → Int → Int := fun o n k => wsX J (goX J no o (J 43 5)) n k
def cRK (J : II) (no : Nat) : Int → Int → Int := fun o k => J (orw (goX J no o (J 43 5)) 0) k
def cNT (J : II) (no : Nat) : Int → Prop := fun o => nightX J (goX J no o (J 43 5)) (J 43 5 % 1440 / 60)
def cM (J : II) (j : Int) : Nat → Int := fun m => J (200 + m) j
/-- one minute, put together out of its steps -/
theorem min_step {J I1 I2 I3 : II} {nm no : Nat} {lw up r : Int} (hP : PoI J nm no) (ht : J 43 5 < 9000) (hup : 0 ≤ up ∧ up < 4096) (hU : ∀ v, 0 ≤ v → v < 12 → (bt up v ↔ UX J lw (J 43 5) v))
    (q1 : ewI J I1 nm nm (fun _ => endM (J 43 5) (J 24) (J 25) (fun v => bt up v))) (q2 : ewI I1 I2 nm nm (givM (I1 43 5) (opX I1 (I1 43 5)) (fun m => I1 (200 + m) 0))) (q3 : fnI I2 I3 nm no up nm r) :
    SndI I3 nm no (cNX J lw) (cWS J no) (cRK J no) (cNT J no) (cM J 0) (cM J 1) (cM J 2) (cM J 4) ∧ (∀ v, 0 ≤ v → v < 12 → (bt r v ↔ ∃ m, m < nm ∧ wtX I3 m ∧ I3 (200 + m) 11 = v)) ∧ (∀ m, m < nm → wtX I3 m → ∀ v : Int, 0 ≤ v → I3 (200 + m) 11 = v → UX J lw (J 43 5) v) ∧
      ∀ I4, (snK I3 I4 nm → vX I4 = sendW nm (I3 43 5) (I3 24) (I3 25) (I3 26) (I3 27) (UX J lw (J 43 5)) (opX I3 (I3 43 5)) (cNX J lw) (cWS J no) (cRK J no) (cNT J no) (cM J 0) (cM J 1) (cM J 2) (cM J 4) (vX I3) (I3 21 9).toNat → SndI I4 nm no (cNX J lw) (cWS J no) (cRK J no) (cNT J no) (cM J 0) (cM J 1) (cM J 2) (cM J 4) →
        vX I4 = minT J nm no lw (J 43 5) (vX J) ∧ PoI (upI I4 43 5 (I4 43 5 + 1)) nm no ∧ FrP J (upI I4 43 5 (I4 43 5 + 1)) nm ∧ I4 43 5 = J 43 5) := by
  obtain ⟨a1, a2, a3, a4, a5, a6, a7, a8, a9, a10⟩ := hP
  have f1 : ∀ x, ¬ (200 ≤ x ∧ x < 200 + nm) → I1 x = J x := q1.1
  have f2 : ∀ x, ¬ (200 ≤ x ∧ x < 200 + nm) → I2 x = J x := fun x hx => (q2.1 x hx).trans (f1 x hx)
  have f3 : ∀ x, ¬ (200 ≤ x ∧ x < 200 + nm) → x ≠ 36 → I3 x = J x := fun x hx h36 => (q3.1 x hx h36).trans (f2 x hx)
  have s2 : ∀ m, m < nm → ∀ j : Int, (j < 5 ∨ 10 < j) → I2 (200 + m) j = J (200 + m) j := fun m hm j hj => (q2.2.1 m hm j hj).trans (q1.2.1 m hm j hj)
  have s3 : ∀ m, m < nm → ∀ j : Int, j < 5 → I3 (200 + m) j = J (200 + m) j := fun m hm j hj => (q3.2.1 m hm j (by omega)).trans (s2 m hm j (Or.inl hj))
  have eF : FrM J I3 := fun x hx h36 => f3 x (by omega) h36
  have eF2 : FrM J I2 := fun x hx h36 => f2 x (by omega)
  have g43 : I3 43 = J 43 := f3 43 (by omega) (by omega)
  have hv3 : vX I3 = vX I2 := by
    funext m
    by_cases c : m < nm
    · have q := q3.2.1 m c
      unfold vX
      rw [q 5 (by omega), q 6 (by omega), q 7 (by omega), q 8 (by omega), q 9 (by omega), q 10 (by omega)]
    · exact vX_same (q3.1 _ (by omega) (by omega))
  have hv2 : vX I2 = fun m => if m < nm then givM (J 43 5) (opX J (J 43 5)) (fun m => J (200 + m) 0) m (endM (J 43 5) (J 24) (J 25) (UX J lw (J 43 5)) (vX J m)) else vX J m := by
    funext m
    by_cases c : m < nm
    · rw [if_pos c, q2.2.2.1 m c, q1.2.2.1 m c, f1 43 (by omega)]
      have eo : opX I1 (J 43 5) = opX J (J 43 5) := by
        funext o
        unfold opX
        rw [f1 22 (by omega), f1 23 (by omega)]
      have et : I1 (200 + m) 0 = J (200 + m) 0 := q1.2.1 m c 0 (by omega)
      have ee : endM (J 43 5) (J 24) (J 25) (fun v => bt up v) (vX J m) = endM (J 43 5) (J 24) (J 25) (UX J lw (J 43 5)) (vX J m) := endM_congr (W := J 21 9) (fun v v0 v1 => hU v v0 (by have := a3.1; omega)) (fun z => ((a8 m c).2.2.1 z).1)
      dsimp only
      rw [eo, ee]
      unfold givM
      dsimp only
      rw [et]
    · rw [if_neg c]
      exact vX_same (f2 _ (by omega))
  have hmd : ∀ m, m < nm → MsgD (J 21 9) (J 24) (J 25) (J 43 5 + 1) (vX I2 m) := fun m c => by
    rw [hv2]
    simp only [if_pos c]
    exact MsgD_giv (MsgD_end (a8 m c) (fun v v0 v1 => ⟨(a3.2.1 v v0 v1).1, (a3.2.1 v v0 v1).2.1⟩)) a10
  have hoff : ∀ m, m < nm → 0 ≤ I2 (200 + m) 6 ∧ I2 (200 + m) 6 < 8 := fun m c => (hmd m c).2.1
  have hwt3 : ∀ m, m < nm → (wtX I3 m ↔ wtX I2 m) := fun m c => by
    unfold wtX
    rw [q3.2.1 m c 5 (by omega), q3.2.1 m c 6 (by omega), q3.2.1 m c 0 (by omega)]
  have hW2 : wdX I2 no = fun q => wdX I2 no q := rfl
  have hws : ∀ m, m < nm → wdX I2 no (200 + m) = wsX J (goX J no (I3 (200 + m) 6) (J 43 5)) (J (200 + m) 1) (J (200 + m) 2) := fun m c => by
    unfold wdX wsX
    rw [q3.2.1 m c 6 (by omega), s2 m c 1 (by omega), s2 m c 2 (by omega), f2 43 (by omega), goX_eq (fun x hx => eF2 x (by omega) (by omega))]
    have q := oid_ge no (gbF J (I2 (200 + m) 6) (J 43 5) no)
    rw [f2 (goX J no (I2 (200 + m) 6) (J 43 5)) (by unfold goX; omega)]
  have hwsb : ∀ m, m < nm → 1 ≤ wdX I2 no (200 + m) ∧ wdX I2 no (200 + m) ≤ 198 := fun m c => by
    rw [hws m c]
    exact wsX_bd (a7 m c).2.1
  have hn : ∀ m, m < nm → nxX I2 no (200 + m) up = nxF (J 21 9) (J 24) (J 25) (J 26) (UX J lw (J 43 5)) (I3 (200 + m) 6) (J (200 + m) 0) (wsX J (goX J no (I3 (200 + m) 6) (J 43 5)) (J (200 + m) 1) (J (200 + m) 2)) := fun m c => by
    unfold nxX
    rw [hws m c, f2 21 (by omega), f2 24 (by omega), f2 25 (by omega), f2 26 (by omega), s2 m c 0 (by omega), q3.2.1 m c 6 (by omega), nxF_congr (V := UX J lw (J 43 5)) (fun v v0 v1 => hU v v0 (by have := a3.1; omega))]
  refine ⟨?_, ?_, ?_, fun I4 => ?_⟩
  · refine ⟨by rw [g43]; exact a1, netI_fr a3 eF, lawI_of a6 eF, fun m c => ⟨s3 m c 0 (by omega), s3 m c 1 (by omega), s3 m c 2 (by omega), s3 m c 4 (by omega), fun z => ?_⟩, fun o o0 o1 => offE_fr eF ⟨fun k k0 k1 => rfl, Iff.rfl⟩, fun m c => ?_, fun m c => ?_, fun m c z => ?_, by rw [g43]; omega⟩
    · have y := q3.2.2.1 m c ((hwt3 m c).mp z)
      exact ⟨y.1.trans (hn m c), y.2.trans (hws m c)⟩
    · unfold MsgS
      rw [s3 m c 0 (by omega), s3 m c 1 (by omega), s3 m c 2 (by omega), s3 m c 3 (by omega), s3 m c 4 (by omega)]
      exact a7 m c
    · rw [f3 21 (by omega) (by omega), f3 24 (by omega) (by omega), f3 25 (by omega) (by omega), g43, hv3]
      exact hmd m c
    · rw [(q3.2.2.1 m c ((hwt3 m c).mp z)).2]
      exact hwsb m c
  · intro v v0 v1
    rw [q3.2.2.2.2.2 v v0 v1]
    constructor
    · rintro ⟨m, c, y1, y2⟩
      exact ⟨m, c, (hwt3 m c).mpr y1, by rw [(q3.2.2.1 m c y1).1]; exact y2⟩
    · rintro ⟨m, c, y1, y2⟩
      have y3 := (hwt3 m c).mp y1
      exact ⟨m, c, y3, by rw [← (q3.2.2.1 m c y3).1]; exact y2⟩
  · intro m c z v v0 hv
    have y := (hwt3 m c).mp z
    rw [(q3.2.2.1 m c y).1, hn m c] at hv
    have hb := hwsb m c
    rw [hws m c] at hb
    have h6 := hoff m c
    rw [← q3.2.1 m c 6 (by omega)] at h6
    refine (nxF_up (netOK a3 hb.1) (a7 m c).1 h6 ?_ hv v0).1
    have z2 := z.2
    rw [s3 m c 0 (by omega)] at z2
    exact z2
  · intro hK hV hS
    have k43 : I4 43 = J 43 := (hK.1 43 (by omega)).trans g43
    have f4 : ∀ x, ¬ (200 ≤ x ∧ x < 200 + nm) → x ≠ 36 → I4 x = J x := fun x a b => (hK.1 x a).trans (f3 x a b)
    have s4 : ∀ m, m < nm → ∀ j : Int, j < 5 → I4 (200 + m) j = J (200 + m) j := fun m c j hj => (hK.2.1 m c j (Or.inl hj)).trans (s3 m c j hj)
    have hFr : FrP J (upI I4 43 5 (I4 43 5 + 1)) nm := ⟨fun x a b c => by rw [upI_o c]; exact f4 x a b, fun j hj => by rw [upI_j hj, k43], fun m c j hj => by rw [upI_o (by omega)]; exact s4 m c j hj⟩
    refine ⟨?_, ?_, hFr, by rw [k43]⟩
    · rw [hV, hv3, hv2, g43, f3 21 (by omega) (by omega), f3 24 (by omega) (by omega), f3 25 (by omega) (by omega), f3 26 (by omega) (by omega), f3 27 (by omega) (by omega)]
      have eo : opX I3 (J 43 5) = opX J (J 43 5) := by
        funext o
        unfold opX
        rw [f3 22 (by omega) (by omega), f3 23 (by omega) (by omega)]
      rw [eo]
      rfl
    · obtain ⟨c1, c2, c3, c4, c5, c6, c7, c8, c9⟩ := hS
      have u : ∀ x, x ≠ 43 → upI I4 43 5 (I4 43 5 + 1) x = I4 x := fun x hx => upI_o hx
      have um : vX (upI I4 43 5 (I4 43 5 + 1)) = vX I4 := by
        funext m
        exact vX_same (u _ (by omega))
      have e5 : upI I4 43 5 (I4 43 5 + 1) 43 5 = I4 43 5 + 1 := upI_s
      have w : ∀ x, ¬ (200 ≤ x ∧ x < 200 + nm) → x ≠ 36 → x ≠ 43 → upI I4 43 5 (I4 43 5 + 1) x = J x := fun x a b c => (u x c).trans (f4 x a b)
      have k5 : I4 43 5 = J 43 5 := by rw [k43]
      refine ⟨by rw [upI_j (by omega)]; exact c1, a2, netI_lt c2 (fun x hx => u x (by omega)), stI_fr (w 28 (by omega) (by omega) (by omega)) (w 29 (by omega) (by omega) (by omega)) (w 30 (by omega) (by omega) (by omega)) (w 31 (by omega) (by omega) (by omega)) a4, stI_fr (w 32 (by omega) (by omega) (by omega)) (w 33 (by omega) (by omega) (by omega)) (w 34 (by omega) (by omega) (by omega)) (w 35 (by omega) (by omega) (by omega)) a5, lawI_43 c3 u, fun m c => ?_, fun m c => ?_, fun m c => ?_, by rw [e5, k5]; omega⟩
      · unfold MsgS
        rw [u _ (by omega)]
        exact c6 m c
      · rw [u 21 (by omega), u 24 (by omega), u 25 (by omega), e5, um]
        exact c7 m c
      · exact cac_fr (fun x hx => u x (by omega)) (u _ (by omega)) (cac_ew (fun x hx => hK.1 x (by omega)) (fun j hj => hK.2.1 m c j hj) (q3.2.2.2.1 m c))
section
variable {g : GH} {d nm no : Nat} {I : II}
theorem let_bt {l lw v : Int} (hl : (l = 0 ∧ lw = -9) ∨ (0 ≤ lw ∧ lw < 12 ∧ l = f_ishl 1 lw)) (hv : 0 ≤ v) : (0 ≤ l ∧ l < 4096) ∧ (bt l v ↔ v = lw) := by
  rcases hl with ⟨rfl, rfl⟩ | ⟨a, b, rfl⟩
  · exact ⟨by omega, fun z => absurd z (bt_0 v), fun z => by omega⟩
  · have h := bt_or (a := 0) (w := lw) (j := v) (by omega) (by omega) a b hv
    have e : f_ior 0 (f_ishl 1 lw) = f_ishl 1 lw := by
      rw [shl32 a (by omega), or32 (by omega) (Int.natCast_nonneg _) (by omega) ?_]
      · rw [show (0 : Int).toNat = 0 from rfl, Nat.zero_or, Int.toNat_natCast]
      · have h2 : (2 : Nat) ^ lw.toNat < 2 ^ 12 := Nat.pow_lt_pow_right (by omega) (by omega)
        exact Int.lt_trans (Int.ofNat_lt.mpr (show 2 ^ lw.toNat < 4096 from h2)) (by decide)
    rw [e] at h
    exact ⟨⟨h.1, h.2.1⟩, h.2.2.trans ⟨fun z => z.elim (fun y => absurd y (bt_0 v)) id, Or.inr⟩⟩
theorem x_pass_loop {n l lw : Int} {Q : QT} (hd : 6 ≤ d) (hI : PoI I nm no) (hn : 0 ≤ n ∧ I 43 5 + n ≤ 9000) (hl : (l = 0 ∧ lw = -9) ∨ (0 ≤ lw ∧ lw < 12 ∧ l = f_ishl 1 lw))
    (h : ∀ I', FrP I I' nm → PoI I' nm no → I' 43 5 = I 43 5 + n → vX I' = minN I nm no lw (I 43 5) (vX I) n.toNat → Q none (shX nm no) (RX nm no) I') :
    ∀ (k i : Nat) (J : II) (lv : Option AV), n.toNat - i < k → i ≤ n.toNat → FrP I J nm → PoI J nm no → J 43 5 = I 43 5 + i → vX J = minN I nm no lw (I 43 5) (vX I) i → T g d mX6_pass 0 0 2 [some (vr 43), some (vi n), some (vi l), some (vi i), lv] [] (shX nm no) (RX nm no) J Q := by
  have hm := hI.2.1
  have hI5 := hI.2.2.2.2.2.2.2.2.2
  intro k
  induction k with
  | zero => intro i J lv hk; omega
  | succ k ih =>
    intro i J lv hk h1 hF hP ht hV
    obtain ⟨a1, a2, a3, a4, a5, a6, a7, a8, a9, a10⟩ := id hP
    refine m_iload_n dX6_pass_2 rfl ?_
    refine m_iload_n dX6_pass_3 rfl ?_
    refine m_icmp_ge (tgt := 60) dX6_pass_4 (by decide) (fun c4 => ?_) (fun c4 => ?_)
    · have ei : i = n.toNat := by omega
      subst ei
      refine m_vret dX6_pass_60 rfl ?_
      exact h J hF hP (by omega) hV
    · refine m_aload_n dX6_pass_7 rfl ?_
      refine m_gr (z := 0) dX6_pass_8 fl_X6_20 oX_43 rfl rfl rX_43_0 ?_
      refine m_aload_n dX6_pass_11 rfl ?_
      refine m_gi (z := 5) dX6_pass_12 fl_X6_39 oX_43 rfl rfl ?_
      refine m_VI [_] dX6_pass_15 lk_X6_65 rfl oX_21 rfl (Nat.le_of_ble_eq_true rfl) (by omega) (x_upIn (by omega) a3 a4 a5) ?_
      intro r15 I15 q15
      obtain ⟨e15, b1, b2⟩ := q15
      replace e15 := e15.symm
      subst e15
      refine m_iload_n dX6_pass_18 rfl ?_
      refine m_iconst dX6_pass_19 (by decide) ?_
      refine m_ixor dX6_pass_20 ?_
      refine m_iand dX6_pass_21 ?_
      have hl2 := fun v v0 => let_bt (v := v) hl v0
      have hA := andn32 b1.1 b1.2 (hl2 0 (by omega)).1.1 (hl2 0 (by omega)).1.2
      generalize hup : f_iand r15 (f_ixor l (-1)) = up at hA
      have hU : ∀ v, 0 ≤ v → v < 12 → (bt up v ↔ UX J lw (J 43 5) v) := fun v v0 v1 => by
        rw [hA.2.2 v v0, b2 v v0 v1, (hl2 v v0).2]
        exact ⟨fun z => ⟨v0, z.1, z.2⟩, fun z => ⟨z.2.1, z.2.2⟩⟩
      refine m_istore dX6_pass_22 (by decide) rfl rfl ?_
      refine m_aload_n dX6_pass_24 rfl ?_
      refine m_iload dX6_pass_25 rfl ?_
      refine m_VV [_] dX6_pass_27 lk_X6_71 rfl oX_43 rfl (Nat.le_of_ble_eq_true rfl) (by omega) (x_endWires (by omega) a1 hm hA.1 a3 a8 a10) ?_
      intro I27 q27
      have f27 : ∀ x, ¬ (200 ≤ x ∧ x < 200 + nm) → I27 x = J x := q27.1
      have g43 : I27 43 = J 43 := f27 43 (by omega)
      have hS27 : ∀ m, m < nm → MsgS I27 (200 + m) := fun m c => by
        unfold MsgS
        rw [q27.2.1 m c 0 (by omega), q27.2.1 m c 1 (by omega), q27.2.1 m c 2 (by omega), q27.2.1 m c 3 (by omega), q27.2.1 m c 4 (by omega)]
        exact a7 m c
      refine m_aload_n dX6_pass_30 rfl ?_
      refine m_VV [] dX6_pass_31 lk_X6_75 rfl oX_43 rfl (Nat.le_of_ble_eq_true rfl) (by omega) (x_giveWaiting (by omega) (by rw [g43]; exact a1) hm hS27 (by rw [g43]; exact a10)) ?_
      intro I31 q31
      have f31 : ∀ x, ¬ (200 ≤ x ∧ x < 200 + nm) → I31 x = J x := fun x hx => (q31.1 x hx).trans (f27 x hx)
      have g2 : I31 43 = J 43 := f31 43 (by omega)
      have s31 : ∀ m, m < nm → ∀ j : Int, (j < 5 ∨ 10 < j) → I31 (200 + m) j = J (200 + m) j := fun m c j hj => (q31.2.1 m c j hj).trans (q27.2.1 m c j hj)
      have eF : FrM J I31 := fun x hx _ => f31 x (by omega)
      have hS31 : ∀ m, m < nm → MsgS I31 (200 + m) := fun m c => by
        unfold MsgS
        rw [s31 m c 0 (by omega), s31 m c 1 (by omega), s31 m c 2 (by omega), s31 m c 3 (by omega), s31 m c 4 (by omega)]
        exact a7 m c
      have hoff : ∀ m, m < nm → 0 ≤ I31 (200 + m) 6 ∧ I31 (200 + m) 6 < 8 := fun m c => by
        have y1 : vX I27 m = endM (J 43 5) (J 24) (J 25) (fun v => bt up v) (vX J m) := q27.2.2.1 m c
        have z := (MsgD_giv (OP := opX I27 (J 43 5)) (TO := fun m => I27 (200 + m) 0) (m := m) (MsgD_end (U := fun v => bt up v) (a8 m c) (fun v v0 v1 => ⟨(a3.2.1 v v0 v1).1, (a3.2.1 v v0 v1).2.1⟩)) a10).2.1
        show 0 ≤ vX I31 m 1 ∧ vX I31 m 1 < 8
        rw [q31.2.2.1 m c, y1, g43]
        exact z
      have hC31 : ∀ m, m < nm → CacI I31 (200 + m) := fun m c => cac_ew (fun x hx => f31 x (by omega)) (s31 m c) (a9 m c)
      refine m_aload_n dX6_pass_34 rfl ?_
      refine m_aload_n dX6_pass_35 rfl ?_
      refine m_iload dX6_pass_36 rfl ?_
      refine m_VI [_] dX6_pass_38 lk_X6_78 rfl oX_43 rfl (Nat.le_of_ble_eq_true rfl) (by omega) (x_findNexts (by omega) (by rw [g2]; exact a1) hm hA.1 (fun v hv h12 z => by rw [f31 21 (by omega)] at hv; exact absurd ((hU v (Int.le_trans a3.1.1 hv) h12).mp z).2.1.1 (Int.not_lt.mpr hv)) (netI_fr a3 eF) (lawI_of a6 eF) hS31 hoff hC31) ?_
      intro r38 I38 q38
      obtain ⟨hSnd, hb, hUU, hfin⟩ := min_step (lw := lw) hP (by omega) ⟨hA.1, hA.2.1⟩ hU q27 q31 q38
      refine m_VV [_] dX6_pass_41 lk_X6_81 rfl oX_43 rfl (Nat.le_of_ble_eq_true rfl) (by omega) (x_sendOn (by omega) hm q38.2.2.2.2.1.1 hSnd hb hUU) ?_
      intro I41 q41
      obtain ⟨hK4, hS4, hV4⟩ := q41
      obtain ⟨w1, w2, w3, w4⟩ := hfin I41 hK4 hV4 hS4
      rw [ht] at w1
      rw [minT_fr hF hm a6.2.1, hV] at w1
      refine m_aload_n dX6_pass_44 rfl ?_
      refine m_dup dX6_pass_45 (fun _ z => by cases z) ?_
      refine m_gi (z := 5) dX6_pass_46 fl_X6_39 oX_43 rfl rfl ?_
      refine m_iconst dX6_pass_49 (by decide) ?_
      refine m_iadd dX6_pass_50 (by omega) ?_
      refine m_pi (z := 5) dX6_pass_51 fl_X6_39 oX_43 rfl rfl rfl ?_
      refine m_iinc dX6_pass_54 rfl (by decide) rfl rfl (by omega) ?_
      refine m_goto (tgt := 2) dX6_pass_57 (by decide) ?_
      have ht5 : upI I41 43 5 (I41 43 5 + 1) 43 5 = I 43 5 + ((i + 1 : Nat) : Int) := by rw [upI_s]; omega
      refine ih (i + 1) _ _ (by omega) (by omega) (FrP_tr hF w3) w2 ht5 ?_
      have um : vX (upI I41 43 5 (I41 43 5 + 1)) = vX I41 := by
        funext m
        exact vX_same (upI_o (by omega))
      rw [um, w1]
      rfl
/-- pass: n minutes, with a wire let beside -/
theorem x_pass {n l lw : Int} (hd : 6 ≤ d) (hI : PoI I nm no) (hn : 0 ≤ n ∧ I 43 5 + n ≤ 9000) (hl : (l = 0 ∧ lw = -9) ∨ (0 ≤ lw ∧ lw < 12 ∧ l = f_ishl 1 lw)) : SV g d mX6_pass [vr 43, vi n, vi l] (shX nm no) (RX nm no) I (fun I' => FrP I I' nm ∧ PoI I' nm no ∧ I' 43 5 = I 43 5 + n ∧ vX I' = minN I nm no lw (I 43 5) (vX I) n.toNat) := by
  intro Q h
  refine C_of rfl (Nat.le_of_ble_eq_true rfl) rfl ?_
  refine m_iconst dX6_pass_0 (by decide) ?_
  refine m_istore_n dX6_pass_1 (by decide) rfl rfl ?_
  exact x_pass_loop hd hI hn hl (fun I' a b c e => h I' ⟨a, b, c, e⟩) (n.toNat + 1) 0 I none (by omega) (by omega) FrP_rf hI (by omega) rfl
end
