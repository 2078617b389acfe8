/-! PAIRS: a call of the class, then the same call of the reference -/
section
variable {g : GH} {d nm no : Nat} {I J K : II}
def PR (g : GH) (d nm no : Nat) (μ1 μ2 : MT) (as : List AV) : Prop := ∀ I, Inv nm no I → SI g d μ1 (vr 20 :: as) (shX nm no) (RX nm no) I (fun r J => SI g d μ2 (vr 100 :: as) (shX nm no) (RX nm no) J (fun r2 K => r = r2 ∧ Inv nm no K))
theorem SI_mono {μ : MT} {as : List AV} {sh : SH} {R : RR} {P P' : Int → II → Prop} (h : SI g d μ as sh R I P) (hp : ∀ r J, P r J → P' r J) : SI g d μ as sh R I P' := fun Q q => h Q (fun r J z => q r J (hp r J z))
theorem SI_of {μ : MT} {as : List AV} {sh : SH} {R : RR} {v : Int} (h : SP g d μ 0 0 as sh R I (some (vi v)) sh R J) : SI g d μ as sh R I (fun r K => r = v ∧ K = J) := fun Q q => h Q (q v J ⟨rfl, rfl⟩)
theorem Inv_Po (h : Inv nm no I) : PoI I nm no := h.1.1
theorem Inv_Stt (h : Inv nm no I) : SttI I nm no := by
  obtain ⟨⟨p1, p2, p3, p4, p5, p6, p7, p8, p9, p10⟩, hN, hL, hM, hD, h0, h12⟩ := h.1
  exact ⟨⟨p3, p4, p5, p6, p7, p2⟩, hN, hL, hM⟩
theorem pp_erase : PR g d nm no mX11_erase mX12_erase [] := fun I h => SI_mono (SI_of px_erase) (fun r J q => by
  obtain ⟨e, ej⟩ := q
  subst e; subst ej
  exact SI_mono (SI_of py_erase) (fun r2 K q2 => by
    obtain ⟨e2, ek⟩ := q2
    subst e2; subst ek
    exact pr_erase h))
theorem pp_clear : PR g d nm no mX11_clear mX12_clear [] := fun I h => SI_mono (SI_of px_clear) (fun r J q => by
  obtain ⟨e, ej⟩ := q
  subst e; subst ej
  exact SI_mono (SI_of py_clear) (fun r2 K q2 => by
    obtain ⟨e2, ek⟩ := q2
    subst e2; subst ek
    exact pr_clear h))
theorem pp_knows {o k : Int} (hd : 3 ≤ d) : PR g d nm no mX11_knows mX12_knows [vi o, vi k] := fun I h => SI_mono (SI_of (px_knows hd h.1.1.2.1 h.1.1.2.2.2.2.2.1)) (fun r J q => by
  obtain ⟨e, ej⟩ := q
  subst e; subst ej
  exact SI_mono (SI_of (py_knows (by omega) h.1.2.2.1.1.1 h.1.2.2.1.1.2.1)) (fun r2 K q2 => by
    obtain ⟨e2, ek⟩ := q2
    subst e2; subst ek
    exact ⟨pr_knows h, h⟩))
theorem pp_orders {o t : Int} (hd : 3 ≤ d) : PR g d nm no mX11_orders mX12_orders [vi o, vi t] := fun I h => SI_mono (SI_of (px_orders hd h.1.1.2.1 h.1.1.2.2.2.2.2.1)) (fun r J q => by
  obtain ⟨e, ej⟩ := q
  subst e; subst ej
  exact SI_mono (SI_of (py_orders (by omega) h.1.2.2.1.1.1 h.1.2.2.1.1.2.1)) (fun r2 K q2 => by
    obtain ⟨e2, ek⟩ := q2
    subst e2; subst ek
    exact ⟨pr_orders h, h⟩))
theorem pp_at {m k : Int} (hd : 2 ≤ d) : PR g d nm no mX11_at mX12_at [vi m, vi k] := fun I h => SI_mono (SI_of (px_at hd h.1.1.1 h.1.1.2.1)) (fun r J q => by
  obtain ⟨e, ej⟩ := q
  subst e; subst ej
  have e13 := h.1.2.2.2.1.1
  have h24 := h.1.1.2.1
  exact SI_mono (SI_of (py_at hd (by omega))) (fun r2 K q2 => by
    obtain ⟨e2, ek⟩ := q2
    subst e2; subst ek
    exact ⟨pr_at h, h⟩))
theorem pp_waits {a b c : Int} (hd : 2 ≤ d) : PR g d nm no mX11_waits mX12_waits [vi a, vi b, vi c] := fun I h => SI_mono (SI_of (px_waits hd h.2.2.2.2.1.1)) (fun r J q => by
  obtain ⟨e, ej⟩ := q
  subst ej
  obtain ⟨s1, s2, s3, s4, s5, s6, s7⟩ := h.2.2.2.2.1
  exact SI_mono (SI_of (py_waits hd s2)) (fun r2 K q2 => by
    obtain ⟨e2, ek⟩ := q2
    subst ek
    exact ⟨by rw [e, e2, s5, s6], h⟩))
theorem pp_load {a b v : Int} (hd : 1 ≤ d) : PR g d nm no mX11_load mX12_load [vi a, vi b, vi v] := fun I h => SI_mono (px_load hd) (fun r J q => SI_mono (py_load hd) (fun r2 K q2 => pr_load h q q2))
theorem pp_set {k v : Int} (hd : 1 ≤ d) : PR g d nm no mX11_set mX12_set [vi k, vi v] := fun I h => SI_mono (px_set hd) (fun r J q => SI_mono (py_set hd) (fun r2 K q2 => pr_set h q q2))
theorem pp_door {x y u : Int} (hd : 1 ≤ d) : PR g d nm no mX11_door mX12_door [vi x, vi y, vi u] := fun I h => by
  obtain ⟨n, b1, b2, -⟩ := h.2.2.2.2.2
  have e1 := b1.1
  have e2 := b2.1
  have e3 := b1.2.1
  refine SI_mono (px_door hd (by omega)) (fun r J q => SI_mono (py_door hd ?_) (fun r2 K q2 => pr_door h q q2))
  have ej : J 100 = I 100 := by
    rcases q with ⟨-, -, e⟩ | ⟨-, -, -, e⟩ | ⟨-, -, -, e⟩
    · rw [e]
    · rw [e]
    · rw [e, upI_o (by decide), upI_o (by decide), upI_o (by decide), upI_o (by decide), upI_o (by decide)]
  rw [ej]; omega
end
