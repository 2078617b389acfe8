/-! PAIRS: lead, blamed -/
section
variable {g : GH} {d nm no : Nat} {I J K : II}
theorem lrF_congr {u v : Int → Int} : ∀ n : Nat, (∀ i : Nat, i < n → u i = v i) → lrF u n = lrF v n
  | 0, _ => rfl
  | n + 1, h => by
    unfold lrF
    rw [lrF_congr n (fun i hi => h i (by omega)), h n (by omega)]
theorem qrP_congr {u v : Int → Int} {n : Nat} (h : ∀ i : Nat, i < n → u i = v i) : qrP u n ↔ qrP v n :=
  ⟨fun ⟨i, j, a, b, c, e⟩ => ⟨i, j, a, b, by rw [← h i (by omega)]; exact c, by rw [← h j b]; exact e⟩, fun ⟨i, j, a, b, c, e⟩ => ⟨i, j, a, b, by rw [h i (by omega)]; exact c, by rw [h j b]; exact e⟩⟩
theorem tp_row (h : vP I) {r : Nat} (hr : (r : Int) < I 55 4) : I 126 r = I 56 r ∧ fwF (tpM I r) (I 56 r).toNat = fwF (I (58 + r)) (I 56 r).toNat ∧ (qrP (tpM I r) (I 56 r).toNat ↔ qrP (I (58 + r)) (I 56 r).toNat) ∧ ∀ m : Nat, m ≤ (I 56 r).toNat → lrF (tpM I r) m = lrF (I (58 + r)) m := by
  obtain ⟨a1, a2, a3, a4, a5, a6⟩ := h
  have hb := a1.1
  have hs := (a1.2 r hr).1
  have e : ∀ i : Nat, i < (I 56 r).toNat → tpM I r i = I (58 + r) i := fun i hi => (a5 r (by omega) i (by omega) (by omega)).1 hr
  exact ⟨a4 r (by omega), fwF_congr _ e, qrP_congr e, fun m hm => lrF_congr m (fun i hi => e i (by omega))⟩
theorem pp_lead {a : Int} (hd : 2 ≤ d) : PR g d nm no mX11_lead mX12_lead [vi a] := fun I h => by
  have hP := h.2.2.2.1
  have hb := hP.1.1
  have e41 := hP.2.2.1
  refine SI_mono (px_lead hd hP.1) (fun q J z => ?_)
  obtain ⟨ej, z⟩ := z
  subst ej
  refine SI_mono (py_lead hd hP.2.1) (fun q2 K y => ?_)
  obtain ⟨ek, y⟩ := y
  subst ek
  refine ⟨?_, h⟩
  rw [e41] at y
  by_cases c : 0 ≤ a ∧ a ≤ K 55 4 - 1
  · obtain ⟨i, ei⟩ : ∃ i : Nat, a = i := ⟨a.toNat, by omega⟩
    subst ei
    rw [Int.toNat_natCast] at z
    obtain ⟨t1, t2, t3, t4⟩ := tp_row hP (show (i : Int) < K 55 4 by omega)
    have hf := fwF_bd (K (58 + i)) (K 56 i).toNat
    rw [t1, t2, t3, t4 _ (by omega)] at y
    rcases z with z | z | z | z
    · exact absurd c z.1
    · rcases y with y | y | y | y
      · exact absurd c y.1
      · omega
      · exact absurd z.2.1 y.2.1
      · exact absurd z.2.1 y.2.1
    · rcases y with y | y | y | y
      · exact absurd c y.1
      · exact absurd y.2.1 z.2.1
      · omega
      · exact absurd z.2.2.1 y.2.2.1
    · rcases y with y | y | y | y
      · exact absurd c y.1
      · exact absurd y.2.1 z.2.1
      · exact absurd y.2.2.1 z.2.2.1
      · rw [z.2.2.2, y.2.2.2]
  · rcases z with z | z | z | z
    · rcases y with y | y | y | y
      · omega
      · exact absurd y.1 c
      · exact absurd y.1 c
      · exact absurd y.1 c
    · exact absurd z.1 c
    · exact absurd z.1 c
    · exact absurd z.1 c
theorem suB_bt {v : Int → Int} {lo : Int} : ∀ n : Nat, (∀ k : Nat, k < n → 0 ≤ v (lo + k) ∧ v (lo + k) < 8) → (0 ≤ suB v lo n ∧ suB v lo n < 4096) ∧ ∀ b : Int, 0 ≤ b → (bt (suB v lo n) b ↔ ∃ k : Nat, k < n ∧ v (lo + k) = b)
  | 0, _ => ⟨by unfold suB; omega, fun b _ => ⟨fun z => absurd z (bt_0 b), fun ⟨k, hk, _⟩ => by omega⟩⟩
  | n + 1, h => by
    have ih := suB_bt n (fun k hk => h k (by omega))
    have hn := h n (by omega)
    have hb := fun b (b0 : 0 ≤ b) => bt_or (a := suB v lo n) (w := v (lo + n)) (j := b) ih.1.1 ih.1.2 hn.1 (by omega) b0
    unfold suB
    refine ⟨⟨(hb 0 (by omega)).1, (hb 0 (by omega)).2.1⟩, fun b b0 => ?_⟩
    rw [(hb b b0).2.2, ih.2 b b0]
    constructor
    · rintro (⟨k, hk, e⟩ | e)
      · exact ⟨k, by omega, e⟩
      · exact ⟨n, by omega, e.symm⟩
    · rintro ⟨k, hk, e⟩
      rcases (show k < n ∨ k = n by omega) with z | z
      · exact Or.inl ⟨k, z, e⟩
      · subst z; exact Or.inr e.symm
theorem and_ne {a s : Int} (ha : 0 ≤ a ∧ a < 4096) (hs : 0 ≤ s ∧ s < 4096) : f_iand a s ≠ 0 ↔ ∃ b : Nat, bt a b ∧ bt s b := by
  have e := and32 ha.1 hs.1 (by omega) (by omega)
  have hb : ∀ j : Nat, bt (f_iand a s) j ↔ (bt a j ∧ bt s j) := fun j => by
    rw [e]; unfold bt; rw [Int.toNat_natCast, Nat.testBit_and, Bool.and_eq_true]
  constructor
  · intro hne
    apply Classical.byContradiction
    intro hno
    apply hne
    exact bt_ext (by rw [e]; exact Int.natCast_nonneg _) (Int.le_refl 0) (fun j => ⟨fun z => absurd ⟨j, (hb j).mp z⟩ hno, fun z => absurd z (bt_0 j)⟩)
  · rintro ⟨b, z⟩ h0
    have y := (hb b).mpr z
    rw [h0] at y
    exact bt_0 b y
theorem sus_bl {u v : Int → Int} {n : Nat} {s : Int} (hn : n ≤ 7) (hv : ∀ k : Int, 0 ≤ k → k < 7 → 0 ≤ v k ∧ v k < 8) (hs : 0 ≤ s ∧ s < 4096) : (susF u v n = 0 ∨ f_iand (susF u v n) s ≠ 0) ↔ blR u v n s := by
  have hf := fwF_bd u n
  have hl := lrF_bd u (fwF u n).toNat
  unfold susF blR
  by_cases c1 : fwF u n = -1
  · rw [if_pos c1]; exact ⟨fun _ => Or.inl (by omega), fun _ => Or.inl rfl⟩
  rw [if_neg c1]
  by_cases c2 : qrP u n
  · rw [if_pos (by rw [bP_t c2]; decide)]; exact ⟨fun _ => Or.inr (Or.inl c2), fun _ => Or.inl rfl⟩
  rw [if_neg (by rw [bP_f c2]; decide)]
  generalize hlo : max 0 (lrF u (fwF u n).toNat) = lo
  have lo0 : 0 ≤ lo := by omega
  have lo1 : 0 < fwF u n → lo < fwF u n := fun _ => by omega
  have lo2 : fwF u n ≤ 0 → fwF u n ≤ lo := fun _ => by omega
  clear hlo hl
  have hB := suB_bt (v := v) (lo := lo) (fwF u n - lo).toNat (fun k hk => hv _ (by omega) (by omega))
  by_cases c3 : fwF u n ≤ 0
  · have e0 : (fwF u n - lo).toNat = 0 := by have := lo2 c3; omega
    rw [e0]; exact ⟨fun _ => Or.inl c3, fun _ => Or.inl rfl⟩
  have hlt := lo1 (by omega)
  have hne : suB v lo (fwF u n - lo).toNat ≠ 0 := fun z => by
    have y := (hB.2 (v (lo + ((0 : Nat) : Int))) (hv _ (by omega) (by omega)).1).mpr ⟨0, by omega, rfl⟩
    rw [z] at y
    exact bt_0 _ y
  rw [and_ne hB.1 hs]
  constructor
  · rintro (z | ⟨b, z1, z2⟩)
    · exact absurd z hne
    · obtain ⟨k, hk, e⟩ := (hB.2 b (by omega)).mp z1
      exact Or.inr (Or.inr ⟨lo + k, by omega, by omega, by rw [e]; exact z2⟩)
  · rintro (z | z | ⟨k, k0, k1, z⟩)
    · exact absurd z c3
    · exact absurd z c2
    · have hvk := hv k (by omega) (by omega)
      refine Or.inr ⟨(v k).toNat, ?_, ?_⟩
      · rw [show (((v k).toNat : Nat) : Int) = v k by omega]
        exact (hB.2 (v k) hvk.1).mpr ⟨(k - lo).toNat, by omega, by rw [show lo + (((k - lo).toNat : Nat) : Int) = k by omega]⟩
      · rw [show (((v k).toNat : Nat) : Int) = v k by omega]; exact z
theorem ex_bl (h : vP I) {s : Nat} (hs : s < 256) : exT I s ↔ blA I s (I 100 41) := by
  have hb := h.1.1
  have e41 := h.2.2.1
  have key : ∀ r : Nat, (r : Int) < I 55 4 → ((sqF I r = 0 ∨ f_iand (sqF I r) s ≠ 0) ↔ blR (tpM I r) (ckM I r) (I 126 r).toNat s) := fun r hr => by
    have hs7 := (h.1.2 r hr).1
    obtain ⟨t1, t2, t3, t4⟩ := tp_row h hr
    have hc : ∀ k : Int, 0 ≤ k → k < 7 → ckM I r k = I (67 + r) k := fun k k0 k1 => (h.2.2.2.2.1 r (by omega) k k0 k1).2
    have hf := fwF_bd (I (58 + r)) (I 56 r).toNat
    unfold sqF
    rw [sus_bl (by omega) (fun k k0 k1 => ((h.1.2 r hr).2 k k0 k1).2) (by omega)]
    unfold blR
    rw [t1, t2, t3, t4 _ (by omega)]
    refine or_congr Iff.rfl (or_congr Iff.rfl ⟨fun ⟨k, a, b, c⟩ => ⟨k, a, b, by rw [hc k (by omega) (by omega)]; exact c⟩, fun ⟨k, a, b, c⟩ => ⟨k, a, b, by rw [hc k (by omega) (by omega)] at c; exact c⟩⟩)
  constructor
  · intro z r r0 r1
    obtain ⟨i, ei⟩ : ∃ i : Nat, r = i := ⟨r.toNat, by omega⟩
    subst ei
    exact (key i (by omega)).mp (z i (by omega))
  · intro z r hr
    exact (key r (by omega)).mpr (z r (by omega) (by omega))
theorem fbF_congr {ok ok' : Nat → Prop} : ∀ n : Nat, (∀ s, s < n → (ok s ↔ ok' s)) → fbF ok n = fbF ok' n
  | 0, _ => rfl
  | n + 1, h => by
    unfold fbF
    rw [fbF_congr n (fun s hs => h s (by omega)), bP_iff (h n (by omega))]
theorem pcF_8 (n : Nat) : pcF n ≤ 8 := by unfold pcF; omega
theorem fbF_256 (ok : Nat → Prop) : fbF ok 256 = fbF ok 255 := by
  show (if pcF 255 < pcF (fbF ok 255) ∧ bP (ok 255) ≠ 0 then 255 else fbF ok 255) = fbF ok 255
  have e : pcF 255 = 8 := by decide
  have := pcF_8 (fbF ok 255)
  rw [if_neg (by omega)]
theorem pp_blamed (hd : 5 ≤ d) : PR g d nm no mX11_blamed mX12_blamed [] := fun I h => by
  have hP := h.2.2.2.1
  refine SI_mono (px_blamed hd hP.1) (fun r J q => ?_)
  obtain ⟨e, q⟩ := q
  have hP2 : vP J := vP_fr hP (by rw [q 55 (by decide)]) (q 56 (by decide)) (fun r hr => q _ (by omega)) (fun r hr => q _ (by omega)) (by rw [q 100 (by decide)]) (q 126 (by decide)) (q 127 (by decide)) (q 128 (by decide))
  refine SI_mono (SI_of (py_blamed (by omega) hP2.2.1)) (fun r2 K p => ?_)
  obtain ⟨e2, ek⟩ := p
  subst ek
  refine ⟨?_, Inv_P h (fun x hx => q x (by omega)) (fun j _ => by rw [q 100 (by decide)]) hP2⟩
  rw [e, e2, fbF_256]
  have e3 : fbF (exT I) 255 = fbF (fun s : Nat => blA K s (K 100 41)) 255 := fbF_congr 255 (fun s hs => by
    rw [ex_bl hP (by omega)]
    unfold blA
    rw [q 100 (by decide), q 126 (by decide)]
    unfold tpM ckM
    rw [q 127 (by decide), q 128 (by decide)])
  rw [e3]
end
