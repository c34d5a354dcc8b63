/-! The law's loop -/
theorem lp_neg : ∀ L, L < 6 → nI L - 6 < 0 := by decide
theorem lp_sub {L : Nat} (h : 6 ≤ L) : nI L - 6 = nI (L - 6) := by
  have e : nI (L - 6) + 6 = nI L := (nI_add (L - 6) 6).trans (congrArg nI (by omega))
  rw [← e, Int32.add_sub_cancel]
section LP
variable {z : gZ} {D : lD} {Q : State → Prop} {m x b L : Nat} {xs : Nat → Int32}
theorem l_case (bx : lX0 D (zS z)) {i k : Nat} {V : aV} {M : aM} {ov : Int64} {H : Heap} {cn sn j : Nat} (J : lJ z D m x b L xs i k V M ov H cn sn) (N : lGo z D m x b i k Q) (hj : j ≤ 63) : LW z 7 (fun q => (zS z).heap.size ≤ q) Q cn sn 40 (lL b x m i) [.int (nI j)] H := by
  have C := J.1
  rcases Nat.lt_or_ge 40 j with h | h
  · refine l_tableOut C.l 1666 (gd DL_law_0 24 rfl) (Or.inr ?_) (by decide) ?_
    · rw [show (nI j).toInt = (j : Int) from nI_toInt (by omega)]
      omega
    · obtain ⟨-, -, -, -, -, -, v, hc, hs⟩ := J
      exact N V M ov H cn sn v (by omega) (by omega)
  · have cs : j = 0 ∨ j = 1 ∨ j = 2 ∨ j = 3 ∨ j = 4 ∨ j = 5 ∨ j = 6 ∨ j = 7 ∨ j = 8 ∨ j = 9 ∨ j = 10 ∨ j = 11 ∨ j = 12 ∨ j = 13 ∨ j = 14 ∨ j = 15 ∨ j = 16 ∨ j = 17 ∨ j = 18 ∨ j = 19 ∨ j = 20 ∨ j = 21 ∨ j = 22 ∨ j = 23 ∨ j = 24 ∨ j = 25 ∨ j = 26 ∨ j = 27 ∨ j = 28 ∨ j = 29 ∨ j = 30 ∨ j = 31 ∨ j = 32 ∨ j = 33 ∨ j = 34 ∨ j = 35 ∨ j = 36 ∨ j = 37 ∨ j = 38 ∨ j = 39 ∨ j = 40 := by omega
    rcases cs with rfl | rfl | rfl | rfl | rfl | rfl | rfl | rfl | rfl | rfl | rfl | rfl | rfl | rfl | rfl | rfl | rfl | rfl | rfl | rfl | rfl | rfl | rfl | rfl | rfl | rfl | rfl | rfl | rfl | rfl | rfl | rfl | rfl | rfl | rfl | rfl | rfl | rfl | rfl | rfl | rfl
    · exact l_tableIn C.l 220 (gd DL_law_0 24 rfl) (by decide) (by decide) rfl (by decide) (l_c_status J N)
    · exact l_tableIn C.l 233 (gd DL_law_0 24 rfl) (by decide) (by decide) rfl (by decide) (l_c_feed J N)
    · exact l_tableIn C.l 306 (gd DL_law_0 24 rfl) (by decide) (by decide) rfl (by decide) (l_c_load J N)
    · exact l_tableIn C.l 331 (gd DL_law_0 24 rfl) (by decide) (by decide) rfl (by decide) (l_c_fault J N)
    · exact l_tableIn C.l 356 (gd DL_law_0 24 rfl) (by decide) (by decide) rfl (by decide) (l_c_many J N)
    · exact l_tableIn C.l 381 (gd DL_law_0 24 rfl) (by decide) (by decide) rfl (by decide) (l_c_program J N)
    · exact l_tableIn C.l 418 (gd DL_law_0 24 rfl) (by decide) (by decide) rfl (by decide) (l_c_fact J N)
    · exact l_tableIn C.l 455 (gd DL_law_0 24 rfl) (by decide) (by decide) rfl (by decide) (l_c_atoms J N)
    · exact l_tableIn C.l 480 (gd DL_law_0 24 rfl) (by decide) (by decide) rfl (by decide) (l_c_uses J N)
    · exact l_tableIn C.l 517 (gd DL_law_0 24 rfl) (by decide) (by decide) rfl (by decide) (l_c_count J N)
    · exact l_tableIn C.l 555 (gd DL_law_0 24 rfl) (by decide) (by decide) rfl (by decide) (l_c_least J N)
    · exact l_tableIn C.l 580 (gd DL_law_0 24 rfl) (by decide) (by decide) rfl (by decide) (l_c_greatest J N)
    · exact l_tableIn C.l 605 (gd DL_law_0 24 rfl) (by decide) (by decide) rfl (by decide) (l_c_first J N)
    · exact l_tableIn C.l 642 (gd DL_law_0 24 rfl) (by decide) (by decide) rfl (by decide) (l_c_equal J N)
    · exact l_tableIn C.l 679 (gd DL_law_0 24 rfl) (by decide) (by decide) rfl (by decide) (l_c_within J N)
    · exact l_tableIn C.l 716 (gd DL_law_0 24 rfl) (by decide) (by decide) rfl (by decide) (l_c_telling J N)
    · exact l_tableIn C.l 765 (gd DL_law_0 24 rfl) (by decide) (by decide) rfl (by decide) (l_c_whose J N)
    · exact l_tableIn C.l 802 (gd DL_law_0 24 rfl) (by decide) (by decide) rfl (by decide) (l_c_same J N)
    · exact l_tableIn C.l 827 (gd DL_law_0 24 rfl) (by decide) (by decide) rfl (by decide) (l_c_kinds J N)
    · exact l_tableIn C.l 840 (gd DL_law_0 24 rfl) (by decide) (by decide) rfl (by decide) (l_c_swaps J N)
    · exact l_tableIn C.l 877 (gd DL_law_0 24 rfl) (by decide) (by decide) rfl (by decide) (l_c_both J N)
    · exact l_tableIn C.l 927 (gd DL_law_0 24 rfl) (by decide) (by decide) rfl (by decide) (l_c_rests J N)
    · exact l_tableIn C.l 952 (gd DL_law_0 24 rfl) (by decide) (by decide) rfl (by decide) (l_c_rest J N)
    · exact l_tableIn C.l 989 (gd DL_law_0 24 rfl) (by decide) (by decide) rfl (by decide) (l_c_next J N)
    · exact l_tableIn C.l 1050 (gd DL_law_0 24 rfl) (by decide) (by decide) rfl (by decide) (l_c_clear J N)
    · exact l_tableIn C.l 1075 (gd DL_law_0 24 rfl) (by decide) (by decide) rfl (by decide) (l_c_far J N)
    · exact l_tableIn C.l 1112 (gd DL_law_0 24 rfl) (by decide) (by decide) rfl (by decide) (l_c_right J N)
    · exact l_tableIn C.l 1161 (gd DL_law_0 24 rfl) (by decide) (by decide) rfl (by decide) (l_c_weakest J N)
    · exact l_tableIn C.l 1198 (gd DL_law_0 24 rfl) (by decide) (by decide) rfl (by decide) (l_c_strongest J N)
    · exact l_tableIn C.l 1235 (gd DL_law_0 24 rfl) (by decide) (by decide) rfl (by decide) (l_c_keeps J N)
    · exact l_tableIn C.l 1272 (gd DL_law_0 24 rfl) (by decide) (by decide) rfl (by decide) (l_c_needs J N)
    · exact l_tableIn C.l 1309 (gd DL_law_0 24 rfl) (by decide) (by decide) rfl (by decide) (l_c_fewest J N)
    · exact l_tableIn C.l 1346 (gd DL_law_0 24 rfl) (by decide) (by decide) rfl (by decide) (l_c_walk J N)
    · exact l_tableIn C.l 1371 (gd DL_law_0 24 rfl) (by decide) (by decide) rfl (by decide) (l_c_step J N)
    · exact l_tableIn C.l 1408 (gd DL_law_0 24 rfl) (by decide) (by decide) rfl (by decide) (l_c_walked J N)
    · exact l_tableIn C.l 1433 (gd DL_law_0 24 rfl) (by decide) (by decide) rfl (by decide) (l_c_make J N)
    · exact l_tableIn C.l 1494 (gd DL_law_0 24 rfl) (by decide) (by decide) rfl (by decide) (l_c_drop J N)
    · exact l_tableIn C.l 1519 (gd DL_law_0 24 rfl) (by decide) (by decide) rfl (by decide) (l_c_assume J N)
    · exact l_tableIn C.l 1572 (gd DL_law_0 24 rfl) (by decide) (by decide) rfl (by decide) (l_c_undo J N)
    · exact l_tableIn C.l 1585 (gd DL_law_0 24 rfl) (by decide) (by decide) rfl (by decide) (l_c_print J N)
    · exact l_tableIn C.l 1610 (gd DL_law_0 24 rfl) (by decide) (by decide) rfl (by decide) (l_c_out bx J N)
theorem l_loop (C : lC z D cL_law 7 ret) (bx : lX0 D (zS z)) (hX : va_X b L xs (zS z) (zS z).heap) (hbl : b < (zS z).heap.size) (hLl : L ≤ 3072) (hEnd : ∀ (H : Heap) (cn sn i : Nat), cn ≤ 601024 → sn ≤ 7293034 → LW z 7 (fun q => (zS z).heap.size ≤ q) Q cn sn 1672 (lL b x m i) [] H) :
    ∀ n i k : Nat, i = 6 * k → L < i + n → i < 3078 → ∀ (V : aV) (M : aM) (ov : Int64) (H : Heap) (cn sn : Nat), lIV D (zS z) m (fun h => KV x h V M) (fun h => MV m h V M) ov H → cn + 20 * M.1.1 ≤ 200 + 420 * k → sn + 244 * M.1.1 ≤ 900000 + 4900 * k → LW z 7 (fun q => (zS z).heap.size ≤ q) Q cn sn 23 (lL b x m i) [] H := by
  have hbA : ¬ (zS z).heap.size ≤ b := Nat.not_le.mpr hbl
  intro n
  induction n with
  | zero =>
    intro i k hk hn hi V M ov H cn sn v hc hs
    -- the loop is over
    refine l_iload C.l (gd DL_law_0 13 rfl) 4 rfl ?_
    refine l_aload_n C.l (gd DL_law_0 14 rfl) 0 rfl rfl ?_
    refine l_slen C.l hX hbl hbA (gd DL_law_0 15 rfl) ?_
    refine l_bipush (v := 6) C.l (gd DL_law_0 16 rfl) (by decide) ?_
    refine l_isub C.l (gd DL_law_0 17 rfl) ?_
    refine l_icmp_gt C.l 1672 (gd DL_law_0 18 rfl) (by decide) (fun _ => hEnd H cn sn i (by omega) (by omega)) (fun c => ?_)
    exfalso
    refine c ?_
    show nI L - 6 < nI i
    rcases Nat.lt_or_ge L 6 with h6 | h6
    · exact Int32.lt_of_lt_of_le (lp_neg L h6) (Int32.not_lt.mp (nI_nn (a := i) (by omega)))
    · rw [lp_sub h6]
      exact nI_lt (by omega) (by omega)
  | succ n ih =>
    intro i k hk hn hi V M ov H cn sn v hc hs
    refine l_iload C.l (gd DL_law_0 13 rfl) 4 rfl ?_
    refine l_aload_n C.l (gd DL_law_0 14 rfl) 0 rfl rfl ?_
    refine l_slen C.l hX hbl hbA (gd DL_law_0 15 rfl) ?_
    refine l_bipush (v := 6) C.l (gd DL_law_0 16 rfl) (by decide) ?_
    refine l_isub C.l (gd DL_law_0 17 rfl) ?_
    refine l_icmp_gt C.l 1672 (gd DL_law_0 18 rfl) (by decide) (fun _ => hEnd H cn sn i (by omega) (by omega)) (fun c => ?_)
    have hi6 : i + 6 ≤ L := by
      rcases Nat.lt_or_ge L 6 with h6 | h6
      · exact absurd (Int32.lt_of_lt_of_le (lp_neg L h6) (Int32.not_lt.mp (nI_nn (a := i) (by omega)))) c
      · rcases Nat.lt_or_ge (L - 6) i with q | q
        · refine absurd ?_ c
          show nI L - 6 < nI i
          rw [lp_sub h6]
          exact nI_lt q (by omega)
        · omega
    refine l_aload_n C.l (gd DL_law_0 19 rfl) 0 rfl rfl ?_
    refine l_iload C.l (gd DL_law_0 20 rfl) 4 rfl ?_
    refine l_sld C.l hX hbl hbA (l_in0 hi6 hLl) (gd DL_law_0 21 rfl) ?_
    refine l_bipush (v := 63) C.l (gd DL_law_0 22 rfl) (by decide) ?_
    refine l_iand C.l (gd DL_law_0 23 rfl) ?_
    obtain ⟨j, hj, ej⟩ := and_n (xs (nI i).toNatClampNeg) (m := 63) (by omega)
    rw [show xs (nI i).toNatClampNeg &&& 63 = nI j from ej]
    refine l_case bx ⟨C, hX, hbl, hi6, hLl, hk, v, hc, hs⟩ (fun V' M' ov' H' cn' sn' v' hc' hs' => ?_) hj
    refine l_iinc (v := nI (i + 6)) (lv' := lL b x m (i + 6)) C.l (gd DL_law_17 40 rfl) 4 [1, 2, 3, 4, 0] rfl (nI_add i 6) (by decide) rfl ?_
    refine l_goto (tgt := 23) C.l (gd DL_law_17 41 rfl) (by decide) ?_
    exact ih (i + 6) (k + 1) (by omega) (by omega) (by omega) V' M' ov' H' cn' sn' v' hc' hs'
end LP
