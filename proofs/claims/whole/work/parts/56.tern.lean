/-! TERNARIES -/
section
variable {g : GH} {d : Nat} {μ : MT} {bc bs pc : Nat} {L : List (Option AV)} {st : List AV} {sh : SH} {R : RR} {I : II} {Q : QT}
theorem m_top {v : Int} (v' : Int) (e : v = v') (h : T g d μ bc bs pc L (vi v' :: st) sh R I Q) : T g d μ bc bs pc L (vi v :: st) sh R I Q := by
  rw [e]; exact h
theorem m_topl {v : Int} (v' : Int) (e : v = v') (h : T g d μ bc bs pc L (vl v' :: st) sh R I Q) : T g d μ bc bs pc L (vl v :: st) sh R I Q := by
  rw [e]; exact h
theorem m_mem {I' : II} (e : I = I') (h : T g d μ bc bs pc L st sh R I' Q) : T g d μ bc bs pc L st sh R I Q := by
  rw [e]; exact h
theorem m_loc {L' : List (Option AV)} (e : L = L') (h : T g d μ bc bs pc L' st sh R I Q) : T g d μ bc bs pc L st sh R I Q := by
  rw [e]; exact h
theorem m_ticmp_eq {a b x y : Int} {off : Int} {tgt M : Nat} (hd : decode μ.2.1 pc = .ok (.if_icmp .eq off, 3)) (ht : (pc : Int) + off = (tgt : Int)) (kt : a = b → T g d μ bc bs M L (vi x :: st) sh R I Q → T g d μ bc bs tgt L st sh R I Q) (kf : ¬ (a = b) → T g d μ bc bs M L (vi y :: st) sh R I Q → T g d μ bc bs (pc + 3) L st sh R I Q) (h : T g d μ bc bs M L (vi (if a = b then x else y) :: st) sh R I Q) : T g d μ bc bs pc L (vi b :: vi a :: st) sh R I Q :=
  m_icmp_eq hd ht (fun c => kt c (by rw [if_pos c] at h; exact h)) (fun c => kf c (by rw [if_neg c] at h; exact h))
theorem m_ticmp_ne {a b x y : Int} {off : Int} {tgt M : Nat} (hd : decode μ.2.1 pc = .ok (.if_icmp .ne off, 3)) (ht : (pc : Int) + off = (tgt : Int)) (kt : a ≠ b → T g d μ bc bs M L (vi x :: st) sh R I Q → T g d μ bc bs tgt L st sh R I Q) (kf : a = b → T g d μ bc bs M L (vi y :: st) sh R I Q → T g d μ bc bs (pc + 3) L st sh R I Q) (h : T g d μ bc bs M L (vi (if a ≠ b then x else y) :: st) sh R I Q) : T g d μ bc bs pc L (vi b :: vi a :: st) sh R I Q :=
  m_icmp_ne hd ht (fun c => kt c (by rw [if_pos c] at h; exact h)) (fun c => kf c (by rw [if_neg (fun z => z c)] at h; exact h))
theorem m_ticmp_lt {a b x y : Int} {off : Int} {tgt M : Nat} (hd : decode μ.2.1 pc = .ok (.if_icmp .lt off, 3)) (ht : (pc : Int) + off = (tgt : Int)) (kt : a < b → T g d μ bc bs M L (vi x :: st) sh R I Q → T g d μ bc bs tgt L st sh R I Q) (kf : ¬ (a < b) → T g d μ bc bs M L (vi y :: st) sh R I Q → T g d μ bc bs (pc + 3) L st sh R I Q) (h : T g d μ bc bs M L (vi (if a < b then x else y) :: st) sh R I Q) : T g d μ bc bs pc L (vi b :: vi a :: st) sh R I Q :=
  m_icmp_lt hd ht (fun c => kt c (by rw [if_pos c] at h; exact h)) (fun c => kf c (by rw [if_neg c] at h; exact h))
theorem m_ticmp_ge {a b x y : Int} {off : Int} {tgt M : Nat} (hd : decode μ.2.1 pc = .ok (.if_icmp .ge off, 3)) (ht : (pc : Int) + off = (tgt : Int)) (kt : b ≤ a → T g d μ bc bs M L (vi x :: st) sh R I Q → T g d μ bc bs tgt L st sh R I Q) (kf : ¬ (b ≤ a) → T g d μ bc bs M L (vi y :: st) sh R I Q → T g d μ bc bs (pc + 3) L st sh R I Q) (h : T g d μ bc bs M L (vi (if b ≤ a then x else y) :: st) sh R I Q) : T g d μ bc bs pc L (vi b :: vi a :: st) sh R I Q :=
  m_icmp_ge hd ht (fun c => kt c (by rw [if_pos c] at h; exact h)) (fun c => kf c (by rw [if_neg c] at h; exact h))
theorem m_ticmp_gt {a b x y : Int} {off : Int} {tgt M : Nat} (hd : decode μ.2.1 pc = .ok (.if_icmp .gt off, 3)) (ht : (pc : Int) + off = (tgt : Int)) (kt : b < a → T g d μ bc bs M L (vi x :: st) sh R I Q → T g d μ bc bs tgt L st sh R I Q) (kf : ¬ (b < a) → T g d μ bc bs M L (vi y :: st) sh R I Q → T g d μ bc bs (pc + 3) L st sh R I Q) (h : T g d μ bc bs M L (vi (if b < a then x else y) :: st) sh R I Q) : T g d μ bc bs pc L (vi b :: vi a :: st) sh R I Q :=
  m_icmp_gt hd ht (fun c => kt c (by rw [if_pos c] at h; exact h)) (fun c => kf c (by rw [if_neg c] at h; exact h))
theorem m_ticmp_le {a b x y : Int} {off : Int} {tgt M : Nat} (hd : decode μ.2.1 pc = .ok (.if_icmp .le off, 3)) (ht : (pc : Int) + off = (tgt : Int)) (kt : a ≤ b → T g d μ bc bs M L (vi x :: st) sh R I Q → T g d μ bc bs tgt L st sh R I Q) (kf : ¬ (a ≤ b) → T g d μ bc bs M L (vi y :: st) sh R I Q → T g d μ bc bs (pc + 3) L st sh R I Q) (h : T g d μ bc bs M L (vi (if a ≤ b then x else y) :: st) sh R I Q) : T g d μ bc bs pc L (vi b :: vi a :: st) sh R I Q :=
  m_icmp_le hd ht (fun c => kt c (by rw [if_pos c] at h; exact h)) (fun c => kf c (by rw [if_neg c] at h; exact h))
theorem m_tif_eq {a x y : Int} {off : Int} {tgt M : Nat} (hd : decode μ.2.1 pc = .ok (.ifCond .eq off, 3)) (ht : (pc : Int) + off = (tgt : Int)) (kt : a = 0 → T g d μ bc bs M L (vi x :: st) sh R I Q → T g d μ bc bs tgt L st sh R I Q) (kf : ¬ (a = 0) → T g d μ bc bs M L (vi y :: st) sh R I Q → T g d μ bc bs (pc + 3) L st sh R I Q) (h : T g d μ bc bs M L (vi (if a = 0 then x else y) :: st) sh R I Q) : T g d μ bc bs pc L (vi a :: st) sh R I Q :=
  m_if_eq hd ht (fun c => kt c (by rw [if_pos c] at h; exact h)) (fun c => kf c (by rw [if_neg c] at h; exact h))
theorem m_tif_ne {a x y : Int} {off : Int} {tgt M : Nat} (hd : decode μ.2.1 pc = .ok (.ifCond .ne off, 3)) (ht : (pc : Int) + off = (tgt : Int)) (kt : a ≠ 0 → T g d μ bc bs M L (vi x :: st) sh R I Q → T g d μ bc bs tgt L st sh R I Q) (kf : a = 0 → T g d μ bc bs M L (vi y :: st) sh R I Q → T g d μ bc bs (pc + 3) L st sh R I Q) (h : T g d μ bc bs M L (vi (if a ≠ 0 then x else y) :: st) sh R I Q) : T g d μ bc bs pc L (vi a :: st) sh R I Q :=
  m_if_ne hd ht (fun c => kt c (by rw [if_pos c] at h; exact h)) (fun c => kf c (by rw [if_neg (fun z => z c)] at h; exact h))
theorem m_tif_lt {a x y : Int} {off : Int} {tgt M : Nat} (hd : decode μ.2.1 pc = .ok (.ifCond .lt off, 3)) (ht : (pc : Int) + off = (tgt : Int)) (kt : a < 0 → T g d μ bc bs M L (vi x :: st) sh R I Q → T g d μ bc bs tgt L st sh R I Q) (kf : ¬ (a < 0) → T g d μ bc bs M L (vi y :: st) sh R I Q → T g d μ bc bs (pc + 3) L st sh R I Q) (h : T g d μ bc bs M L (vi (if a < 0 then x else y) :: st) sh R I Q) : T g d μ bc bs pc L (vi a :: st) sh R I Q :=
  m_if_lt hd ht (fun c => kt c (by rw [if_pos c] at h; exact h)) (fun c => kf c (by rw [if_neg c] at h; exact h))
theorem m_tif_ge {a x y : Int} {off : Int} {tgt M : Nat} (hd : decode μ.2.1 pc = .ok (.ifCond .ge off, 3)) (ht : (pc : Int) + off = (tgt : Int)) (kt : 0 ≤ a → T g d μ bc bs M L (vi x :: st) sh R I Q → T g d μ bc bs tgt L st sh R I Q) (kf : ¬ (0 ≤ a) → T g d μ bc bs M L (vi y :: st) sh R I Q → T g d μ bc bs (pc + 3) L st sh R I Q) (h : T g d μ bc bs M L (vi (if 0 ≤ a then x else y) :: st) sh R I Q) : T g d μ bc bs pc L (vi a :: st) sh R I Q :=
  m_if_ge hd ht (fun c => kt c (by rw [if_pos c] at h; exact h)) (fun c => kf c (by rw [if_neg c] at h; exact h))
theorem m_tif_gt {a x y : Int} {off : Int} {tgt M : Nat} (hd : decode μ.2.1 pc = .ok (.ifCond .gt off, 3)) (ht : (pc : Int) + off = (tgt : Int)) (kt : 0 < a → T g d μ bc bs M L (vi x :: st) sh R I Q → T g d μ bc bs tgt L st sh R I Q) (kf : ¬ (0 < a) → T g d μ bc bs M L (vi y :: st) sh R I Q → T g d μ bc bs (pc + 3) L st sh R I Q) (h : T g d μ bc bs M L (vi (if 0 < a then x else y) :: st) sh R I Q) : T g d μ bc bs pc L (vi a :: st) sh R I Q :=
  m_if_gt hd ht (fun c => kt c (by rw [if_pos c] at h; exact h)) (fun c => kf c (by rw [if_neg c] at h; exact h))
theorem m_tif_le {a x y : Int} {off : Int} {tgt M : Nat} (hd : decode μ.2.1 pc = .ok (.ifCond .le off, 3)) (ht : (pc : Int) + off = (tgt : Int)) (kt : a ≤ 0 → T g d μ bc bs M L (vi x :: st) sh R I Q → T g d μ bc bs tgt L st sh R I Q) (kf : ¬ (a ≤ 0) → T g d μ bc bs M L (vi y :: st) sh R I Q → T g d μ bc bs (pc + 3) L st sh R I Q) (h : T g d μ bc bs M L (vi (if a ≤ 0 then x else y) :: st) sh R I Q) : T g d μ bc bs pc L (vi a :: st) sh R I Q :=
  m_if_le hd ht (fun c => kt c (by rw [if_pos c] at h; exact h)) (fun c => kf c (by rw [if_neg c] at h; exact h))
/-- f is the boolean of P (a word of its own, so that omega passes it by) -/
def isB (f : Int) (P : Prop) : Prop := (f = 0 ∨ f = 1) ∧ (f = 1 ↔ P)
theorem isB.bp {f : Int} {P : Prop} (h : isB f P) : f = bP P := by
  rcases h.1 with z | z
  · rw [z]; exact (bP_f (fun q => by have := h.2.mpr q; omega)).symm
  · rw [z]; exact (bP_t (h.2.mp z)).symm
theorem isB_bI {P P' : Prop} [Decidable P] (h : P ↔ P') : isB (bI P) P' := ⟨bI_01, ⟨fun z => h.mp (bI_ne0 (by rw [z]; decide)), fun z => bI_t (h.mpr z)⟩⟩
theorem isB_1 {P : Prop} (h : P) : isB 1 P := ⟨Or.inr rfl, fun _ => h, fun _ => rfl⟩
theorem isB_0 {P : Prop} (h : ¬ P) : isB 0 P := ⟨Or.inl rfl, fun z => by omega, fun z => absurd z h⟩
theorem isB.cg {f : Int} {P P' : Prop} (h : isB f P) (e : P ↔ P') : isB f P' := ⟨h.1, h.2.trans e⟩
end
