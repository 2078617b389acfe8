/-! PAIRS: knows, orders -/
section
variable {I : II} {nm no : Nat}
theorem pr_knows {o k : Int} (h : Inv nm no I) : aKnows o k no (I (330 + k.toNat) o) = aKnows o k no (I 117 (8 * k + o)) := by
  have hL := h.1.2.2.1
  unfold aKnows
  (repeat' split) <;> first
  | rfl
  | (have z := hL.2.2.1 k.toNat (by omega) o (by omega) (by omega)
     rw [show ((k.toNat : Nat) : Int) = k by omega] at z
     exact z.symm)
theorem pr_orders {o t : Int} (h : Inv nm no I) : aOrders o t (gbF I o t no) = aOrders o t (obF (I 117) o t no) := by
  have hL := h.1.2.2.1
  unfold aOrders
  (repeat' split) <;> first
  | rfl
  | exact (ob_gb hL ⟨by omega, by omega⟩).symm
end
