/-! PAIRS: wire -/
section
variable {g : GH} {d nm no : Nat} {I J K : II}
theorem isNx_more {W : Int} {A B K A' B' K' : Int → Int} {U : Int → Prop} {to o : Int} (h : ∀ v, 0 ≤ v → v < W → A' v = A v ∧ B' v = B v ∧ K' v = K v) (hU : ¬ U W) : isNx (W + 1) A' B' K' U to o = isNx W A B K U to o := by
  have hlt : ∀ v, v < W + 1 → U v → v < W := fun v a c => by
    rcases (show v < W ∨ v = W by omega) with z | z
    · exact z
    · rw [z] at c; exact absurd c hU
  have hin : ∀ v, pIn (W + 1) U v ↔ pIn W U v := fun v => ⟨fun ⟨a, b, c⟩ => ⟨a, hlt v b c, c⟩, fun ⟨a, b, c⟩ => ⟨a, by omega, c⟩⟩
  have hsol : ∀ s, pSol (W + 1) A' B' K' U to s ↔ pSol W A B K U to s := fun s => by
    refine ⟨fun ⟨⟨y1, y2, y3⟩, y4⟩ => ⟨⟨y1, y2, fun x x0 x1 x2 x3 => ?_⟩, fun w hw => ?_⟩, fun ⟨⟨y1, y2, y3⟩, y4⟩ => ⟨⟨y1, y2, fun x x0 x1 x2 x3 => ?_⟩, fun w hw => ?_⟩⟩
    · obtain ⟨w, hw, z⟩ := y3 x x0 x1 x2 x3
      have hw' := (hin w).mp hw
      obtain ⟨a, b, c⟩ := h w hw'.1 hw'.2.1
      rw [a, b, c] at z; exact ⟨w, hw', z⟩
    · have y := y4 w ((hin w).mpr hw)
      obtain ⟨a, b, c⟩ := h w hw.1 hw.2.1
      rw [a, b, c] at y; exact y
    · obtain ⟨w, hw, z⟩ := y3 x x0 x1 x2 x3
      obtain ⟨a, b, c⟩ := h w hw.1 hw.2.1
      exact ⟨w, (hin w).mpr hw, by rw [a, b, c]; exact z⟩
    · have hw' := (hin w).mp hw
      obtain ⟨a, b, c⟩ := h w hw'.1 hw'.2.1
      rw [a, b, c]; exact y4 w hw'
  have hbeg : ∀ s w, 0 ≤ w → w < W → (pBeg A' B' K' U s o w ↔ pBeg A B K U s o w) := fun s w a b => by
    obtain ⟨x, y, z⟩ := h w a b
    unfold pBeg
    rw [x, y, z]
  funext v
  apply propext
  unfold isNx
  constructor
  · rintro ⟨s, hs, z⟩
    refine ⟨s, (hsol s).mp hs, z.imp id (fun ⟨a, b, c, e⟩ => ?_)⟩
    have hv : v < W := hlt v b.2 c.1
    exact ⟨a, ⟨b.1, hv⟩, (hbeg s v b.1 hv).mp c, fun w w0 w1 q => e w w0 w1 ((hbeg s w w0 (by omega)).mpr q)⟩
  · rintro ⟨s, hs, z⟩
    exact ⟨s, (hsol s).mpr hs, z.imp id (fun ⟨a, b, c, e⟩ => ⟨a, ⟨b.1, by omega⟩, (hbeg s v b.1 b.2).mpr c, fun w w0 w1 q => e w w0 w1 ((hbeg s w w0 (by omega)).mp q)⟩)⟩
theorem nxF_more {W : Int} {A B S A' B' S' : Int → Int} {U : Int → Prop} {o to n : Int} (h : ∀ v, 0 ≤ v → v < W → A' v = A v ∧ B' v = B v ∧ S' v = S v) (hU : ¬ U W) : nxF (W + 1) A' B' S' U o to n = nxF W A B S U o to n := by
  unfold nxF
  rw [isNx_more (A := A) (B := B) (K := fun v => (n + S v - 1) / S v) (fun v v0 v1 => ?_) hU]
  obtain ⟨a, b, c⟩ := h v v0 v1
  refine ⟨a, b, ?_⟩
  show (n + S' v - 1) / S' v = (n + S v - 1) / S v
  rw [c]
theorem pr_wire {a b s u r r2 : Int} (h : Inv nm no I) (hu : u = 0 ∨ u = 1)
    (q : r = aWire a b s (I 21 9) (jnP (I 21 9) (I 24) (I 25) a b) ∧ ((0 ≤ r ∧ J = (upI (upI (upI (upI (upI I 24 (I 21 9) a) 25 (I 21 9) b) 26 (I 21 9) s) 27 (I 21 9) u) 21 9 (I 21 9 + 1)) ∧ r = I 21 9 ∧ r < 12 ∧ ((0 ≤ a ∧ a ≤ 7) ∧ (0 ≤ b ∧ b ≤ 7) ∧ a ≠ b ∧ 1 ≤ s ∧ s ≤ 40)) ∨ (r < 0 ∧ J = I)))
    (q2 : r2 = aWire a b s (J 100 3) (jnP (J 100 3) (J 103) (J 104) a b) ∧ ((0 ≤ r2 ∧ K = (upI (upI (upI (upI (upI J 103 (J 100 3) a) 104 (J 100 3) b) 105 (J 100 3) s) 106 (J 100 3) u) 100 3 (J 100 3 + 1))) ∨ (r2 < 0 ∧ K = J))) : r = r2 ∧ Inv nm no K := by
  obtain ⟨e, q⟩ := q
  obtain ⟨e2, q2⟩ := q2
  have hA := h.1
  have hR := hA.2.1
  obtain ⟨⟨n1, n2, n3, n4, n5, n6⟩, ⟨w3, w8, w10⟩, c1, c2⟩ := hR
  have jo : ∀ x, (x < 21 ∨ 27 < x ∨ x = 22 ∨ x = 23) → J x = I x := fun x hx => by
    rcases q with ⟨-, ej, -⟩ | ⟨-, ej⟩
    · rw [ej, upI_o (by omega), upI_o (by omega), upI_o (by omega), upI_o (by omega), upI_o (by omega)]
    · rw [ej]
  have rr : r = r2 := by rw [e, e2, jo 100 (by omega), jo 103 (by omega), jo 104 (by omega), w3, n3, n4]
  refine ⟨rr, ?_⟩
  rcases q with ⟨c, ej, cr, c12, ca, cb, cab, cs⟩ | ⟨c, ej⟩
  · rcases q2 with ⟨d1, ek⟩ | ⟨d1, ek⟩
    · have j24 : J 24 = upF (I 24) (I 21 9) a := by rw [ej, upI_o (by decide), upI_o (by decide), upI_o (by decide), upI_o (by decide), upI_F]
      have j25 : J 25 = upF (I 25) (I 21 9) b := by rw [ej, upI_o (by decide), upI_o (by decide), upI_o (by decide), upI_F, upI_o (by decide)]
      have j26 : J 26 = upF (I 26) (I 21 9) s := by rw [ej, upI_o (by decide), upI_o (by decide), upI_F, upI_o (by decide), upI_o (by decide)]
      have j27 : J 27 = upF (I 27) (I 21 9) u := by rw [ej, upI_o (by decide), upI_F, upI_o (by decide), upI_o (by decide), upI_o (by decide)]
      have j21 : J 21 9 = I 21 9 + 1 := by rw [ej, upI_s]
      clear ej
      rw [jo 100 (by omega), w3] at ek
      have kj : ∀ x, x ≠ 100 → (x < 103 ∨ 106 < x) → K x = J x := fun x a b => by rw [ek, upI_o a, upI_o (by omega), upI_o (by omega), upI_o (by omega), upI_o (by omega)]
      have kk : ∀ x, (x < 21 ∨ 27 < x ∨ x = 22 ∨ x = 23) → x ≠ 100 → (x < 103 ∨ 106 < x) → K x = I x := fun x hx a b => (kj x a b).trans (jo x hx)
      have k24 : K 24 = upF (I 24) (I 21 9) a := by rw [kj 24 (by omega) (by omega), j24]
      have k25 : K 25 = upF (I 25) (I 21 9) b := by rw [kj 25 (by omega) (by omega), j25]
      have k26 : K 26 = upF (I 26) (I 21 9) s := by rw [kj 26 (by omega) (by omega), j26]
      have k27 : K 27 = upF (I 27) (I 21 9) u := by rw [kj 27 (by omega) (by omega), j27]
      have k21 : K 21 9 = I 21 9 + 1 := by rw [kj 21 (by omega) (by omega), j21]
      have k103 : K 103 = upF (I 24) (I 21 9) a := by rw [ek, upI_o (by decide), upI_o (by decide), upI_o (by decide), upI_o (by decide), upI_F, jo 103 (by omega), n3]
      have k104 : K 104 = upF (I 25) (I 21 9) b := by rw [ek, upI_o (by decide), upI_o (by decide), upI_o (by decide), upI_F, upI_o (by decide), jo 104 (by omega), n4]
      have k105 : K 105 = upF (I 26) (I 21 9) s := by rw [ek, upI_o (by decide), upI_o (by decide), upI_F, upI_o (by decide), upI_o (by decide), jo 105 (by omega), n5]
      have k106 : K 106 = upF (I 27) (I 21 9) u := by rw [ek, upI_o (by decide), upI_F, upI_o (by decide), upI_o (by decide), upI_o (by decide), jo 106 (by omega), n6]
      have k3 : K 100 3 = I 21 9 + 1 := by rw [ek, upI_s]
      have k100 : ∀ j : Int, j ≠ 3 → K 100 j = I 100 j := fun j hj => by rw [ek, upI_j hj, upI_o (by decide), upI_o (by decide), upI_o (by decide), upI_o (by decide), jo 100 (by omega)]
      clear ek
      obtain ⟨p1, p2, p3, p4, p5, p6, p7, p8, p9, p10⟩ := hA.1
      have hW := p3.1
      have km : ∀ m : Nat, m < nm → K (200 + m) = I (200 + m) := fun m hm => kk _ (by omega) (by omega) (by omega)
      refine Inv_A h (fun x hx => kk x (by omega) (by omega) (by omega)) (fun j hj => k100 j (by omega)) (vA_mk hA (fun x hx => by unfold fB at hx; exact kk x (by omega) (by omega) (by omega)) ?_ ?_ ?_ (fun m hm => ?_) (fun m hm => ?_) ?_ (by rw [kk 37 (by omega) (by omega) (by omega), k100 26 (by decide)]; exact hA.2.2.1.2.1) (by rw [kk 37 (by omega) (by omega) (by omega)]) (k100 13 (by decide)) (k100 27 (by decide)) (k100 0 (by decide)) (k100 12 (by decide)))
      · unfold NetI
        rw [k21, k24, k25, k26, k27, kk 22 (by omega) (by omega) (by omega), kk 23 (by omega) (by omega) (by omega)]
        refine ⟨by omega, fun v v0 v1 => ?_, p3.2.2⟩
        by_cases z : v = I 21 9
        · rw [z, upF_s, upF_s, upF_s, upF_s]
          exact ⟨by omega, by omega, cab, cs, hu⟩
        · rw [upF_n z, upF_n z, upF_n z, upF_n z]
          exact p3.2.1 v v0 (by omega)
      · unfold StI at *
        rw [kk 28 (by omega) (by omega) (by omega), kk 29 (by omega) (by omega) (by omega), kk 30 (by omega) (by omega) (by omega), kk 31 (by omega) (by omega) (by omega)]; exact p4
      · unfold StI at *
        rw [kk 32 (by omega) (by omega) (by omega), kk 33 (by omega) (by omega) (by omega), kk 34 (by omega) (by omega) (by omega), kk 35 (by omega) (by omega) (by omega)]; exact p5
      · have z := p8 m hm
        rw [k21, k24, k25, kk 43 (by omega) (by omega) (by omega), vX_fr (km m hm)]
        unfold MsgD at *
        obtain ⟨d1, d2, d3, d4, d5, d6⟩ := z
        refine ⟨d1, d2, fun x => ?_, d4, d5, d6⟩
        obtain ⟨a1, a2, a3⟩ := d3 x
        exact ⟨by omega, by rw [upF_n (by omega), upF_n (by omega)]; exact a2, a3⟩
      · have z := p9 m hm
        unfold CacI at *
        rw [k21, k24, k25, k26, km m hm]
        rcases z with z | ⟨z1, z2, z3⟩
        · exact Or.inl z
        · refine Or.inr ⟨by omega, ?_, fun v hv h12 => z3 v (by omega) h12⟩
          rw [nxF_more (A := I 24) (B := I 25) (S := I 26) (fun v v0 v1 => ⟨upF_n (by omega), upF_n (by omega), upF_n (by omega)⟩) (z3 _ (Int.le_refl _) (by omega))]
          exact z2
      · unfold rNet
        rw [k103, k104, k105, k106, k24, k25, k26, k27, k3, k21, k100 8 (by decide), k100 10 (by decide), kk 101 (by omega) (by omega) (by omega), kk 102 (by omega) (by omega) (by omega), kk 22 (by omega) (by omega) (by omega), kk 23 (by omega) (by omega) (by omega), kk 28 (by omega) (by omega) (by omega), kk 29 (by omega) (by omega) (by omega), kk 30 (by omega) (by omega) (by omega), kk 31 (by omega) (by omega) (by omega), kk 32 (by omega) (by omega) (by omega), kk 33 (by omega) (by omega) (by omega), kk 34 (by omega) (by omega) (by omega), kk 35 (by omega) (by omega) (by omega), kk 107 (by omega) (by omega) (by omega), kk 108 (by omega) (by omega) (by omega)]
        exact ⟨⟨n1, n2, rfl, rfl, rfl, rfl⟩, ⟨rfl, w8, w10⟩, c1, c2⟩
    · omega
  · rcases q2 with ⟨d1, ek⟩ | ⟨d1, ek⟩
    · omega
    · rw [ek, ej]; exact h
theorem pp_wire {a b s u : Int} (hd : 3 ≤ d) (hu : u = 0 ∨ u = 1) : PR g d nm no mX11_wire mX12_wire [vi a, vi b, vi s, vi u] := fun I h => by
  have hA := h.1
  have hN := hA.1.2.2.1
  have w3 := hA.2.1.2.1.1
  refine SI_mono (px_wire hd hN hu) (fun r J q => SI_mono (py_wire (by omega) ?_ hu) (fun r2 K q2 => pr_wire h hu q q2))
  have e : J 100 = I 100 := by
    rcases q.2 with ⟨-, ej, -⟩ | ⟨-, ej⟩
    · rw [ej, upI_o (by decide), upI_o (by decide), upI_o (by decide), upI_o (by decide), upI_o (by decide)]
    · rw [ej]
  rw [e, w3]; exact hN.1
end
