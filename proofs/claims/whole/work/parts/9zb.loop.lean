/-! THE LAW: its loop -/
section
variable {g : GH} {d : Nat} {Q : QT}
theorem law_loop (hd : 11 ≤ d) (hG : GvI g) (h2 : (gX g 1).1 ≤ 3072) (hQ : ∀ (nm no : Nat) (I : II), Q (some (vi 1)) (shX nm no) (RX nm no) I) : ∀ (k : Nat) (i : Int) (nm no : Nat) (I : II), 0 ≤ i → i ≤ (gX g 1).1 → ((gX g 1).1 : Int) < 6 * (k : Int) + i → Inv nm no I → T g d mL_law (4 * k) (30 * k) 18 [some (vr 1), some (vr 20), some (vr 100), some (vi i)] [] (shX nm no) (RX nm no) I Q := by
  intro k
  induction k with
  | zero =>
    intro i nm no I h0 h3 hk hI
    refine m_iload_n dL_law_18 rfl ?_
    refine m_aload_n dL_law_19 rfl ?_
    refine m_glen dL_law_20 (by decide) (by omega) ?_
    refine m_bipush dL_law_21 rfl (by decide) ?_
    refine m_isub dL_law_23 (by omega) ?_
    refine m_icmp_gt (tgt := 1522) dL_law_24 (by decide) (fun c24 => ?_) (fun c24 => ?_)
    · refine m_iconst dL_law_1522 (by decide) ?_
      refine m_zret dL_law_1523 rfl (by omega) ?_
      exact hQ _ _ _
    · exact absurd hk (by omega)
  | succ k ih =>
    intro i nm no I h0 h3 hk hI
    refine m_iload_n dL_law_18 rfl ?_
    refine m_aload_n dL_law_19 rfl ?_
    refine m_glen dL_law_20 (by decide) (by omega) ?_
    refine m_bipush dL_law_21 rfl (by decide) ?_
    refine m_isub dL_law_23 (by omega) ?_
    refine m_icmp_gt (tgt := 1522) dL_law_24 (by decide) (fun c24 => ?_) (fun c24 => ?_)
    · refine m_iconst dL_law_1522 (by decide) ?_
      refine m_zret dL_law_1523 rfl (by omega) ?_
      exact hQ _ _ _
    · refine m_aload_n dL_law_27 rfl ?_
      refine m_iload_n dL_law_28 rfl ?_
      refine m_gld dL_law_29 (by decide) (by omega) (by omega) ?_
      refine m_bipush dL_law_30 rfl (by decide) ?_
      refine m_iand dL_law_32 ?_
      have hk2 : ∀ (nm no : Nat) (I : II), Inv nm no I → T g d mL_law (4 * k) (30 * k) 1516 [some (vr 1), some (vr 20), some (vr 100), some (vi i)] [] (shX nm no) (RX nm no) I Q := fun nm no I hI => by
        refine m_iinc dL_law_1516 rfl (by decide) rfl rfl (by omega) ?_
        refine m_goto (tgt := 18) dL_law_1519 (by decide) ?_
        exact ih (i + 6) nm no I (by omega) (by omega) (by omega) hI
      generalize f_iand ((gX g 1).2 i.toNat) 63 = sw
      by_cases e0 : sw = 0
      · exact m_tableIn (tgt := 192) 0 dL_law_33 e0 (by decide) (by decide) rfl (by decide) (T_le (by omega) (by omega) (lc_open hd hG h0 (by omega) h2 hI hk2))
      by_cases e1 : sw = 1
      · exact m_tableIn (tgt := 235) 1 dL_law_33 e1 (by decide) (by decide) rfl (by decide) (T_le (by omega) (by omega) (lc_wire hd hG h0 (by omega) h2 hI hk2))
      by_cases e2 : sw = 2
      · exact m_tableIn (tgt := 304) 2 dL_law_33 e2 (by decide) (by decide) rfl (by decide) (T_le (by omega) (by omega) (lc_storm hd hG h0 (by omega) h2 hI hk2))
      by_cases e3 : sw = 3
      · exact m_tableIn (tgt := 347) 3 dL_law_33 e3 (by decide) (by decide) rfl (by decide) (T_le (by omega) (by omega) (lc_let hd hG h0 (by omega) h2 hI hk2))
      by_cases e4 : sw = 4
      · exact m_tableIn (tgt := 390) 4 dL_law_33 e4 (by decide) (by decide) rfl (by decide) (T_le (by omega) (by omega) (lc_message hd hG h0 (by omega) h2 hI hk2))
      by_cases e5 : sw = 5
      · exact m_tableIn (tgt := 443) 5 dL_law_33 e5 (by decide) (by decide) rfl (by decide) (T_le (by omega) (by omega) (lc_minutes hd hG h0 (by omega) h2 hI hk2))
      by_cases e6 : sw = 6
      · exact m_tableIn (tgt := 466) 6 dL_law_33 e6 (by decide) (by decide) rfl (by decide) (T_le (by omega) (by omega) (lc_at hd hG h0 (by omega) h2 hI hk2))
      by_cases e7 : sw = 7
      · exact m_tableIn (tgt := 499) 7 dL_law_33 e7 (by decide) (by decide) rfl (by decide) (T_le (by omega) (by omega) (lc_next hd hG h0 (by omega) h2 hI hk2))
      by_cases e8 : sw = 8
      · exact m_tableIn (tgt := 522) 8 dL_law_33 e8 (by decide) (by decide) rfl (by decide) (T_le (by omega) (by omega) (lc_first hd hG h0 (by omega) h2 hI hk2))
      by_cases e9 : sw = 9
      · exact m_tableIn (tgt := 555) 9 dL_law_33 e9 (by decide) (by decide) rfl (by decide) (T_le (by omega) (by omega) (lc_soonest hd hG h0 (by omega) h2 hI hk2))
      by_cases e10 : sw = 10
      · exact m_tableIn (tgt := 618) 10 dL_law_33 e10 (by decide) (by decide) rfl (by decide) (T_le (by omega) (by omega) (lc_beside hd hG h0 (by omega) h2 hI hk2))
      by_cases e11 : sw = 11
      · exact m_tableIn (tgt := 651) 11 dL_law_33 e11 (by decide) (by decide) rfl (by decide) (T_le (by omega) (by omega) (lc_write hd hG h0 (by omega) h2 hI hk2))
      by_cases e12 : sw = 12
      · exact m_tableIn (tgt := 714) 12 dL_law_33 e12 (by decide) (by decide) rfl (by decide) (T_le (by omega) (by omega) (lc_erase hd hG h0 (by omega) h2 hI hk2))
      by_cases e13 : sw = 13
      · exact m_tableIn (tgt := 727) 13 dL_law_33 e13 (by decide) (by decide) rfl (by decide) (T_le (by omega) (by omega) (lc_fault hd hG h0 (by omega) h2 hI hk2))
      by_cases e14 : sw = 14
      · exact m_tableIn (tgt := 740) 14 dL_law_33 e14 (by decide) (by decide) rfl (by decide) (T_le (by omega) (by omega) (lc_force hd hG h0 (by omega) h2 hI hk2))
      by_cases e15 : sw = 15
      · exact m_tableIn (tgt := 753) 15 dL_law_33 e15 (by decide) (by decide) rfl (by decide) (T_le (by omega) (by omega) (lc_lag hd hG h0 (by omega) h2 hI hk2))
      by_cases e16 : sw = 16
      · exact m_tableIn (tgt := 776) 16 dL_law_33 e16 (by decide) (by decide) rfl (by decide) (T_le (by omega) (by omega) (lc_knows hd hG h0 (by omega) h2 hI hk2))
      by_cases e17 : sw = 17
      · exact m_tableIn (tgt := 809) 17 dL_law_33 e17 (by decide) (by decide) rfl (by decide) (T_le (by omega) (by omega) (lc_orders hd hG h0 (by omega) h2 hI hk2))
      by_cases e18 : sw = 18
      · exact m_tableIn (tgt := 842) 18 dL_law_33 e18 (by decide) (by decide) rfl (by decide) (T_le (by omega) (by omega) (lc_told hd hG h0 (by omega) h2 hI hk2))
      by_cases e19 : sw = 19
      · exact m_tableIn (tgt := 885) 19 dL_law_33 e19 (by decide) (by decide) rfl (by decide) (T_le (by omega) (by omega) (lc_back hd hG h0 (by omega) h2 hI hk2))
      by_cases e20 : sw = 20
      · exact m_tableIn (tgt := 908) 20 dL_law_33 e20 (by decide) (by decide) rfl (by decide) (T_le (by omega) (by omega) (lc_word hd hG h0 (by omega) h2 hI hk2))
      by_cases e21 : sw = 21
      · exact m_tableIn (tgt := 981) 21 dL_law_33 e21 (by decide) (by decide) rfl (by decide) (T_le (by omega) (by omega) (lc_far hd hG h0 (by omega) h2 hI hk2))
      by_cases e22 : sw = 22
      · exact m_tableIn (tgt := 1054) 22 dL_law_33 e22 (by decide) (by decide) rfl (by decide) (T_le (by omega) (by omega) (lc_likely hd hG h0 (by omega) h2 hI hk2))
      by_cases e23 : sw = 23
      · exact m_tableIn (tgt := 1127) 23 dL_law_33 e23 (by decide) (by decide) rfl (by decide) (T_le (by omega) (by omega) (lc_row hd hG h0 (by omega) h2 hI hk2))
      by_cases e24 : sw = 24
      · exact m_tableIn (tgt := 1150) 24 dL_law_33 e24 (by decide) (by decide) rfl (by decide) (T_le (by omega) (by omega) (lc_tape hd hG h0 (by omega) h2 hI hk2))
      by_cases e25 : sw = 25
      · exact m_tableIn (tgt := 1193) 25 dL_law_33 e25 (by decide) (by decide) rfl (by decide) (T_le (by omega) (by omega) (lc_clerk hd hG h0 (by omega) h2 hI hk2))
      by_cases e26 : sw = 26
      · exact m_tableIn (tgt := 1236) 26 dL_law_33 e26 (by decide) (by decide) rfl (by decide) (T_le (by omega) (by omega) (lc_lead hd hG h0 (by omega) h2 hI hk2))
      by_cases e27 : sw = 27
      · exact m_tableIn (tgt := 1259) 27 dL_law_33 e27 (by decide) (by decide) rfl (by decide) (T_le (by omega) (by omega) (lc_blamed hd hG h0 (by omega) h2 hI hk2))
      by_cases e28 : sw = 28
      · exact m_tableIn (tgt := 1272) 28 dL_law_33 e28 (by decide) (by decide) rfl (by decide) (T_le (by omega) (by omega) (lc_load hd hG h0 (by omega) h2 hI hk2))
      by_cases e29 : sw = 29
      · exact m_tableIn (tgt := 1315) 29 dL_law_33 e29 (by decide) (by decide) rfl (by decide) (T_le (by omega) (by omega) (lc_set hd hG h0 (by omega) h2 hI hk2))
      by_cases e30 : sw = 30
      · exact m_tableIn (tgt := 1348) 30 dL_law_33 e30 (by decide) (by decide) rfl (by decide) (T_le (by omega) (by omega) (lc_fewest hd hG h0 (by omega) h2 hI hk2))
      by_cases e31 : sw = 31
      · exact m_tableIn (tgt := 1371) 31 dL_law_33 e31 (by decide) (by decide) rfl (by decide) (T_le (by omega) (by omega) (lc_waits hd hG h0 (by omega) h2 hI hk2))
      by_cases e32 : sw = 32
      · exact m_tableIn (tgt := 1414) 32 dL_law_33 e32 (by decide) (by decide) rfl (by decide) (T_le (by omega) (by omega) (lc_door hd hG h0 (by omega) h2 hI hk2))
      by_cases e33 : sw = 33
      · exact m_tableIn (tgt := 1457) 33 dL_law_33 e33 (by decide) (by decide) rfl (by decide) (T_le (by omega) (by omega) (lc_clear hd hG h0 (by omega) h2 hI hk2))
      by_cases e34 : sw = 34
      · exact m_tableIn (tgt := 1470) 34 dL_law_33 e34 (by decide) (by decide) rfl (by decide) (T_le (by omega) (by omega) (lc_round hd hG h0 (by omega) h2 hI hk2))
      by_cases e35 : sw = 35
      · exact m_tableIn (tgt := 1493) 35 dL_law_33 e35 (by decide) (by decide) rfl (by decide) (T_le (by omega) (by omega) (lc_count hd hG h0 (by omega) h2 hI hk2))
      exact m_tableOut (tgt := 1516) dL_law_33 (by omega) (by decide) (T_le (by omega) (by omega) (hk2 nm no I hI))
end
