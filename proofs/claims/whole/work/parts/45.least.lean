/-! SHIFTS: leastOfTwo, leastOfThree -/
/-- from n - 1 downwards as long as it does: the last that did -/
def loF (e : Int → Int) (m : Int) : Nat → Int → Int
  | 0, l => l
  | n + 1, l => if e n ≤ m then loF e m n n else l
theorem loF_bd (e : Int → Int) (m : Int) : ∀ (n : Nat) (l : Int), n ≤ 16 → 0 ≤ l ∧ l ≤ 15 → 0 ≤ loF e m n l ∧ loF e m n l ≤ 15
  | 0, l, _, h => h
  | n + 1, l, hn, h => by
    unfold loF
    split
    · exact loF_bd e m n n (by omega) (by omega)
    · exact h
theorem loF_le {e : Int → Int} {m : Int} (he : ∀ b b' : Int, b ≤ b' → e b' ≤ e b) : ∀ (n : Nat) (l : Int), (∀ b : Int, (n : Int) ≤ b → b ≤ 15 → e b ≤ m → l ≤ b) → ∀ b : Int, 0 ≤ b → b ≤ 15 → e b ≤ m → loF e m n l ≤ b
  | 0, l, h, b, h0, h1, h2 => h b h0 h1 h2
  | n + 1, l, h, b, h0, h1, h2 => by
    unfold loF
    by_cases z : e n ≤ m
    · rw [if_pos z]
      exact loF_le he n n (fun b y _ _ => y) b h0 h1 h2
    · rw [if_neg z]
      by_cases y : ((n + 1 : Nat) : Int) ≤ b
      · exact h b y h1 h2
      · have := he b n (by omega)
        omega
section
variable {g : GH} {d nm no : Nat} {I : II}
theorem x_leastOfTwo_loop {Q : QT} (hd : 3 ≤ d) (hI : ShI I) : ∀ (n : Nat) (l : Int), n ≤ 16 → Q (some (vi (loF (fun z => msD (I 77) (I 76 4) 15 z 15 3) (I 76 5) n l))) (shX nm no) (RX nm no) I → T g d mX7_leastOfTwo 0 0 6 [some (vr 76), some (vi l), some (vi ((n : Int) - 1))] [] (shX nm no) (RX nm no) I Q := by
  intro n
  induction n with
  | zero =>
    intro l hn h
    refine m_iload_n dX7_leastOfTwo_6 rfl ?_
    refine m_if_lt (tgt := 30) dX7_leastOfTwo_7 (by decide) (fun c7 => ?_) (fun c7 => ?_)
    · refine m_iload_n dX7_leastOfTwo_30 rfl ?_
      refine m_iret dX7_leastOfTwo_31 rfl ?_
      exact h
    · omega
  | succ n ih =>
    intro l hn h
    have en : (((n + 1 : Nat) : Int) - 1) = n := by omega
    rw [en]
    refine m_iload_n dX7_leastOfTwo_6 rfl ?_
    refine m_if_lt (tgt := 30) dX7_leastOfTwo_7 (by decide) (fun c7 => ?_) (fun c7 => ?_)
    · omega
    · refine m_aload_n dX7_leastOfTwo_10 rfl ?_
      refine m_bipush dX7_leastOfTwo_11 rfl (by decide) ?_
      refine m_iload_n dX7_leastOfTwo_13 rfl ?_
      refine m_bipush dX7_leastOfTwo_14 rfl (by decide) ?_
      refine m_Vi [_, _, _] dX7_leastOfTwo_16 lk_X7_42 rfl oX_76 rfl (Nat.le_of_ble_eq_true rfl) (by omega) (x_isEnough (by omega) hI ⟨by omega, by omega⟩ ⟨by omega, by omega⟩ ⟨by omega, by omega⟩ ) ?_
      refine m_if_eq (tgt := 30) dX7_leastOfTwo_19 (by decide) (fun c19 => ?_) (fun c19 => ?_)
      · have z1 := bI_eq0 c19
        rw [loF, if_neg z1] at h
        refine m_iload_n dX7_leastOfTwo_30 rfl ?_
        refine m_iret dX7_leastOfTwo_31 rfl ?_
        exact h
      · have z1 := bI_ne0 c19
        rw [loF, if_pos z1] at h
        refine m_iload_n dX7_leastOfTwo_22 rfl ?_
        refine m_istore_n dX7_leastOfTwo_23 (by decide) rfl rfl ?_
        refine m_iinc dX7_leastOfTwo_24 rfl (by decide) rfl rfl (by omega) ?_
        refine m_goto (tgt := 6) dX7_leastOfTwo_27 (by decide) ?_
        exact ih n (by omega) h
theorem x_leastOfTwo (hd : 3 ≤ d) (hI : ShI I) : SP g d mX7_leastOfTwo 0 0 [vr 76] (shX nm no) (RX nm no) I (some (vi (loF (fun z => msD (I 77) (I 76 4) 15 z 15 3) (I 76 5) 16 15))) (shX nm no) (RX nm no) I := by
  intro Q h
  refine C_of rfl (Nat.le_of_ble_eq_true rfl) rfl ?_
  refine m_bipush dX7_leastOfTwo_0 rfl (by decide) ?_
  refine m_istore_n dX7_leastOfTwo_2 (by decide) rfl rfl ?_
  refine m_bipush dX7_leastOfTwo_3 rfl (by decide) ?_
  refine m_istore_n dX7_leastOfTwo_5 (by decide) rfl rfl ?_
  exact x_leastOfTwo_loop hd hI 16 15 (by omega) h
theorem x_leastOfThree_loop {Q : QT} (hd : 3 ≤ d) (hI : ShI I) : ∀ (n : Nat) (l : Int), n ≤ 16 → Q (some (vi (loF (fun z => msD (I 77) (I 76 4) 15 15 z 3) (I 76 5) n l))) (shX nm no) (RX nm no) I → T g d mX7_leastOfThree 0 0 6 [some (vr 76), some (vi l), some (vi ((n : Int) - 1))] [] (shX nm no) (RX nm no) I Q := by
  intro n
  induction n with
  | zero =>
    intro l hn h
    refine m_iload_n dX7_leastOfThree_6 rfl ?_
    refine m_if_lt (tgt := 30) dX7_leastOfThree_7 (by decide) (fun c7 => ?_) (fun c7 => ?_)
    · refine m_iload_n dX7_leastOfThree_30 rfl ?_
      refine m_iret dX7_leastOfThree_31 rfl ?_
      exact h
    · omega
  | succ n ih =>
    intro l hn h
    have en : (((n + 1 : Nat) : Int) - 1) = n := by omega
    rw [en]
    refine m_iload_n dX7_leastOfThree_6 rfl ?_
    refine m_if_lt (tgt := 30) dX7_leastOfThree_7 (by decide) (fun c7 => ?_) (fun c7 => ?_)
    · omega
    · refine m_aload_n dX7_leastOfThree_10 rfl ?_
      refine m_bipush dX7_leastOfThree_11 rfl (by decide) ?_
      refine m_bipush dX7_leastOfThree_13 rfl (by decide) ?_
      refine m_iload_n dX7_leastOfThree_15 rfl ?_
      refine m_Vi [_, _, _] dX7_leastOfThree_16 lk_X7_42 rfl oX_76 rfl (Nat.le_of_ble_eq_true rfl) (by omega) (x_isEnough (by omega) hI ⟨by omega, by omega⟩ ⟨by omega, by omega⟩ ⟨by omega, by omega⟩ ) ?_
      refine m_if_eq (tgt := 30) dX7_leastOfThree_19 (by decide) (fun c19 => ?_) (fun c19 => ?_)
      · have z1 := bI_eq0 c19
        rw [loF, if_neg z1] at h
        refine m_iload_n dX7_leastOfThree_30 rfl ?_
        refine m_iret dX7_leastOfThree_31 rfl ?_
        exact h
      · have z1 := bI_ne0 c19
        rw [loF, if_pos z1] at h
        refine m_iload_n dX7_leastOfThree_22 rfl ?_
        refine m_istore_n dX7_leastOfThree_23 (by decide) rfl rfl ?_
        refine m_iinc dX7_leastOfThree_24 rfl (by decide) rfl rfl (by omega) ?_
        refine m_goto (tgt := 6) dX7_leastOfThree_27 (by decide) ?_
        exact ih n (by omega) h
theorem x_leastOfThree (hd : 3 ≤ d) (hI : ShI I) : SP g d mX7_leastOfThree 0 0 [vr 76] (shX nm no) (RX nm no) I (some (vi (loF (fun z => msD (I 77) (I 76 4) 15 15 z 3) (I 76 5) 16 15))) (shX nm no) (RX nm no) I := by
  intro Q h
  refine C_of rfl (Nat.le_of_ble_eq_true rfl) rfl ?_
  refine m_bipush dX7_leastOfThree_0 rfl (by decide) ?_
  refine m_istore_n dX7_leastOfThree_2 (by decide) rfl rfl ?_
  refine m_bipush dX7_leastOfThree_3 rfl (by decide) ?_
  refine m_istore_n dX7_leastOfThree_5 (by decide) rfl rfl ?_
  exact x_leastOfThree_loop hd hI 16 15 (by omega) h
end
