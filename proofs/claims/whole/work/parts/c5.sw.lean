/-! The class's swaps; what stays when only new cells come -/
def qSwa (V : aV) (r q : Nat) : Int32 → Int32 → Prop := gat (wt (vPR V r) + wt (vPR V q) ≤ 6) 3 (fun v st => ((v = 1 ∧ kEq (xP V (vS V) (rJoin (vPR V r) (vPR V q) (wt (vPR V r)) (wt (vPR V q))) (rJoin (vPR V q) (vPR V r) (wt (vPR V q)) (wt (vPR V r))))) ∨ (v = 0 ∧ ¬ kEq (xP V (vS V) (rJoin (vPR V r) (vPR V q) (wt (vPR V r)) (wt (vPR V q))) (rJoin (vPR V q) (vPR V r) (wt (vPR V q)) (wt (vPR V r)))))) ∧ st = 0)
section SW
variable {w : gD} {x W : Nat} {h g : HS} {V : aV} {RC : Nat → Nat → Int32} {M : aM}
theorem kvM.ext (m : kvM x h M) (hx : kvX x W h) (e : hExt h g) : kvM x g M := by
  have xa := hx.2.2.2.2.2.2.2.2.2.2.1.1
  have eI : ∀ b, b < hT h → hI g b = hI h b := fun b hb => (e.2 b hb).1
  unfold kvM
  rw [eI x (by omega), eI (x + 1) (by omega), eI (x + 47) (by omega), eI (x + 48) (by omega)]
  exact m
theorem K0.ext (K : K0 x W h V RC) (e : hExt h g) : K0 x W g V RC := by
  have f : aFr x W h g := e.a
  have xW := K.1.2.2.2.2.2.2.2.2.2.1
  obtain ⟨xa, xb⟩ := K.1.2.2.2.2.2.2.2.2.2.2.1
  have eI : ∀ b, b < hT h → hI g b = hI h b := fun b hb => (e.2 b hb).1
  have eR : ∀ b, b < hT h → hR g b = hR h b := fun b hb => (e.2 b hb).2.2.1
  obtain ⟨⟨w0, w1, w2, w3, w4⟩, w5, -, -⟩ := K.2.2.1
  obtain ⟨d1, d2⟩ := K.2.2.2.1
  refine K.ac f (fun _ _ => rfl) rfl rfl K.2.1 ⟨by rw [eI W (by omega)], by rw [eI W (by omega)], by rw [eI W (by omega)]⟩ ⟨by rw [eI W (by omega)]; exact w2, by rw [eI W (by omega)]; exact w4, fun k hk => ?_⟩ ⟨by rw [eI (x + 12) (by omega)]; exact d1, fun i hi => ?_⟩
  · obtain ⟨a, a1, a2, a3, a4⟩ := w5 k hk
    exact ⟨a, by rw [eR (W + 1) (by omega)]; exact a1, a2, a3.af f, by rw [eI (W + 2) (by omega)]; exact a4⟩
  · obtain ⟨⟨b, b1, b2, b3, b4⟩, l⟩ := d2 i hi
    rw [eI (x + 13) (by omega), eI (x + 14) (by omega), eI (x + 16) (by omega), eR (x + 15) (by omega)]
    exact ⟨⟨b, b1, (f.2 b b4).1.1.trans b2, b3, Nat.lt_of_lt_of_le b4 f.1⟩, l.af f (fun _ _ => rfl)⟩
theorem wt_join {X Y : Nat → Int32} {a b : Nat} (h : a + b ≤ 16) : wt (rJoin X Y a b) = a + b := wt_of (xJoin_0 h).1 (by omega)
theorem e_x_swaps (K : K0 x W h V RC) (hM : kvM x h M) (p o : Int32) : Ev w 6 10 122 yX9_swaps cX9_swaps 5 (some .int) [.ref x, .int p, .int o] h (aQ x (qQ V M (two (vNp V) p o (qSwa V)))) := by
  refine g_start (by decide) (Nat.le_of_ble_eq_true rfl) [(0, _), (1, _), (2, _)] rfl (fun z hfl C => ?_)
  have hx := K.1
  obtain ⟨w0, w1, w2, w3, w4⟩ := K.2.2.1.1
  have hnp := K.2.1.np
  have hs4 := K.2.1.s4
  refine g_aload_n C (gd DX9_swaps_0 0 rfl) 0 rfl rfl ?_
  refine g_iload_n C (gd DX9_swaps_0 1 rfl) 1 rfl rfl ?_
  refine g_cV1 (ci := 9) C [_] mX9_lacks lm_TestJudge_154 (by exact hx.1) rfl rfl (e_x_lacks hx (by omega) w2 p) hfl (by first | decide | omega) (by decide) (by omega) (by omega) rfl rfl (Nat.le_of_ble_eq_true rfl) (gd DX9_swaps_0 2 rfl) ?_
  by_cases n1 : 0 ≤ p ∧ p ≤ nI (vNp V) - 1
  rotate_left
  · rw [b1_t (show ¬ (0 ≤ p ∧ p ≤ nI (vNp V) - 1) from n1)]
    refine g_if_ne C 16 (gd DX9_swaps_0 3 rfl) (by decide) (fun c5 => ?_) (fun c5 => ?_)
    · refine g_aload_n C (gd DX9_swaps_0 8 rfl) 0 rfl rfl ?_
      refine g_iconst (v := 2) C (gd DX9_swaps_0 9 rfl) (by decide) ?_
      refine g_cV1 (ci := 9) C [_] mX9_refuse lm_TestJudge_90 (by exact hx.1) rfl rfl (e_x_refuse hx 2) hfl (by first | decide | omega) (by decide) (by omega) (by omega) rfl rfl (Nat.le_of_ble_eq_true rfl) (gd DX9_swaps_0 10 rfl) ?_
      exact g_iret C (by omega) (by omega) (aQ.r K hM rfl (Or.inl ⟨fun q => n1 q.1, rfl, rfl⟩)) (gd DX9_swaps_0 11 rfl)
    · exact absurd c5 (by decide)
  rw [b1_f (show ¬ ¬ (0 ≤ p ∧ p ≤ nI (vNp V) - 1) from fun q => q n1)]
  refine g_if_ne C 16 (gd DX9_swaps_0 3 rfl) (by decide) (fun c5 => ?_) (fun c5 => ?_)
  · exact absurd rfl c5
  refine g_aload_n C (gd DX9_swaps_0 4 rfl) 0 rfl rfl ?_
  refine g_iload_n C (gd DX9_swaps_0 5 rfl) 2 rfl rfl ?_
  refine g_cV1 (ci := 9) C [_] mX9_lacks lm_TestJudge_154 (by exact hx.1) rfl rfl (e_x_lacks hx (by omega) w2 o) hfl (by first | decide | omega) (by decide) (by omega) (by omega) rfl rfl (Nat.le_of_ble_eq_true rfl) (gd DX9_swaps_0 6 rfl) ?_
  by_cases n2 : 0 ≤ o ∧ o ≤ nI (vNp V) - 1
  rotate_left
  · rw [b1_t (show ¬ (0 ≤ o ∧ o ≤ nI (vNp V) - 1) from n2)]
    refine g_if_eq C 22 (gd DX9_swaps_0 7 rfl) (by decide) (fun c13 => ?_) (fun c13 => ?_)
    · exact absurd c13 (by decide)
    · refine g_aload_n C (gd DX9_swaps_0 8 rfl) 0 rfl rfl ?_
      refine g_iconst (v := 2) C (gd DX9_swaps_0 9 rfl) (by decide) ?_
      refine g_cV1 (ci := 9) C [_] mX9_refuse lm_TestJudge_90 (by exact hx.1) rfl rfl (e_x_refuse hx 2) hfl (by first | decide | omega) (by decide) (by omega) (by omega) rfl rfl (Nat.le_of_ble_eq_true rfl) (gd DX9_swaps_0 10 rfl) ?_
      exact g_iret C (by omega) (by omega) (aQ.r K hM rfl (Or.inl ⟨fun q => n2 q.2, rfl, rfl⟩)) (gd DX9_swaps_0 11 rfl)
  rw [b1_f (show ¬ ¬ (0 ≤ o ∧ o ≤ nI (vNp V) - 1) from fun q => q n2)]
  refine g_if_eq C 22 (gd DX9_swaps_0 7 rfl) (by decide) (fun c13 => ?_) (fun c13 => ?_)
  rotate_left
  · exact absurd rfl c13
  obtain ⟨r, hr, rfl⟩ := below_of (by omega) n1
  obtain ⟨q, hq, rfl⟩ := below_of (by omega) n2
  obtain ⟨a, a1, a2, a3, a4⟩ := K.2.2.1.2.1 r hr
  obtain ⟨b, b1', b2, b3, b4⟩ := K.2.2.1.2.1 q hq
  have hw1 : wt (vPR V r) ≤ 5 := ((K.2.1.2.1 (vA V) (Nat.le_refl _)).2.2 r hr).1
  have hw2 : wt (vPR V q) ≤ 5 := ((K.2.1.2.1 (vA V) (Nat.le_refl _)).2.2 q hq).1
  refine g_aload_n C (gd DX9_swaps_0 12 rfl) 0 rfl rfl ?_
  refine g_getr (ci := 9) (k := 6) C rfl (by decide) rfl lf_TestJudge_36 hx.1 hx.2.2.2.1.1 (gd DX9_swaps_0 13 rfl) ?_
  refine g_iload_n C (gd DX9_swaps_0 14 rfl) 1 rfl rfl ?_
  refine g_cV1 (ci := 8) C [_] mX8_piece lm_TestJudge_158 (by exact hx.2.2.2.1.2.1) rfl rfl (e_w_piece hx.2.2.2.1.2 hnp w2 hr a1) hfl (by first | decide | omega) (by decide) (by omega) (by omega) rfl rfl (Nat.le_of_ble_eq_true rfl) (gd DX9_swaps_0 15 rfl) ?_
  refine g_astore_n (lv' := [(0, _), (1, _), (2, _), (3, _)]) C (gd DX9_swaps_0 16 rfl) [1, 2, 3, 0] rfl (by decide) rfl ?_
  refine g_aload_n C (gd DX9_swaps_0 17 rfl) 0 rfl rfl ?_
  refine g_getr (ci := 9) (k := 6) C rfl (by decide) rfl lf_TestJudge_36 hx.1 hx.2.2.2.1.1 (gd DX9_swaps_0 18 rfl) ?_
  refine g_iload_n C (gd DX9_swaps_0 19 rfl) 2 rfl rfl ?_
  refine g_cV1 (ci := 8) C [_] mX8_piece lm_TestJudge_158 (by exact hx.2.2.2.1.2.1) rfl rfl (e_w_piece hx.2.2.2.1.2 hnp w2 hq b1') hfl (by first | decide | omega) (by decide) (by omega) (by omega) rfl rfl (Nat.le_of_ble_eq_true rfl) (gd DX9_swaps_0 20 rfl) ?_
  refine g_astore (lv' := [(0, _), (1, _), (2, _), (3, _), (4, _)]) C (gd DX9_swaps_0 21 rfl) [1, 2, 3, 4, 0] (by decide) rfl ?_
  refine g_aload_n C (gd DX9_swaps_0 22 rfl) 3 rfl rfl ?_
  refine g_geti (ci := 2) (k := 0) C rfl (by decide) rfl lf_TestJudge_161 a3.2.2.1 (gd DX9_swaps_0 23 rfl) ?_
  refine g_aload C (gd DX9_swaps_0 24 rfl) 4 rfl ?_
  refine g_geti (ci := 2) (k := 0) C rfl (by decide) rfl lf_TestJudge_161 b3.2.2.1 (gd DX9_swaps_0 25 rfl) ?_
  rw [a3.2.2.2.1, b3.2.2.2.1]
  refine g_iadd C (gd DX9_swaps_0 26 rfl) ?_
  rw [show nI (wt (vPR V r)) + nI (wt (vPR V q)) = nI (wt (vPR V r) + wt (vPR V q)) from nx_add rfl rfl]
  refine g_bipush (v := 6) C (gd DX9_swaps_0 27 rfl) (by decide) ?_
  refine g_icmp_le C 62 (gd DX9_swaps_0 28 rfl) (by decide) (fun c53 => ?_) (fun c53 => ?_)
  rotate_left
  · have n6 : ¬ wt (vPR V r) + wt (vPR V q) ≤ 6 := fun e => c53 (nI_le (b := 6) e (by omega))
    refine g_aload_n C (gd DX9_swaps_0 29 rfl) 0 rfl rfl ?_
    refine g_iconst (v := 3) C (gd DX9_swaps_0 30 rfl) (by decide) ?_
    refine g_cV1 (ci := 9) C [_] mX9_refuse lm_TestJudge_90 (by exact hx.1) rfl rfl (e_x_refuse hx 3) hfl (by first | decide | omega) (by decide) (by omega) (by omega) rfl rfl (Nat.le_of_ble_eq_true rfl) (gd DX9_swaps_0 31 rfl) ?_
    exact g_iret C (by omega) (by omega) (aQ.r K hM rfl (Or.inr ⟨r, q, hr, hq, rfl, rfl, Or.inl ⟨n6, rfl, rfl⟩⟩)) (gd DX9_swaps_0 32 rfl)
  have h6 : wt (vPR V r) + wt (vPR V q) ≤ 6 := (nI_leI (b := 6) (by omega) (by omega)).mp c53
  refine g_aload_n C (gd DX9_swaps_0 33 rfl) 0 rfl rfl ?_
  refine g_getr (ci := 9) (k := 8) C rfl (by decide) rfl lf_TestJudge_50 hx.1 hx.2.2.2.2.2.1.1 (gd DX9_swaps_0 34 rfl) ?_
  refine g_aload_n C (gd DX9_swaps_0 35 rfl) 0 rfl rfl ?_
  refine g_getr (ci := 9) (k := 6) C rfl (by decide) rfl lf_TestJudge_36 hx.1 hx.2.2.2.1.1 (gd DX9_swaps_0 36 rfl) ?_
  refine g_aload_n C (gd DX9_swaps_0 37 rfl) 0 rfl rfl ?_
  refine g_getr (ci := 9) (k := 6) C rfl (by decide) rfl lf_TestJudge_36 hx.1 hx.2.2.2.1.1 (gd DX9_swaps_0 38 rfl) ?_
  refine g_geti (ci := 8) (k := 4) C rfl (by decide) rfl lf_TestJudge_144 hx.2.2.2.1.2.1 (gd DX9_swaps_0 39 rfl) ?_
  rw [w4]
  refine g_aload_n C (gd DX9_swaps_0 40 rfl) 3 rfl rfl ?_
  refine g_aload C (gd DX9_swaps_0 41 rfl) 4 rfl ?_
  refine g_callS C [_, _] mX2_row lm_TestJudge_225 (e_pc_row (a3.pw (by omega)) (b3.pw (by omega)) (by omega)) hfl (by first | decide | omega) (by decide) (by omega) (by omega) rfl rfl (Nat.le_of_ble_eq_true rfl) (gd DX9_swaps_0 42 rfl) (fun r g1 hp => ?_)
  obtain ⟨p1, rfl, l1, ex1, -, pw1⟩ := hp
  show GW z w 5 _ _ _ _ _ (.ref p1 :: _) _
  refine g_aload C (gd DX9_swaps_0 43 rfl) 4 rfl ?_
  refine g_aload_n C (gd DX9_swaps_0 44 rfl) 3 rfl rfl ?_
  refine g_callS C [_, _] mX2_row lm_TestJudge_225 (e_pc_row ((b3.pw (by omega)).ext ex1) ((a3.pw (by omega)).ext ex1) (by omega)) hfl (by first | decide | omega) (by decide) (by omega) (by omega) rfl rfl (Nat.le_of_ble_eq_true rfl) (gd DX9_swaps_0 45 rfl) (fun r g2 hp => ?_)
  obtain ⟨p2, rfl, l2, ex2, -, pw2⟩ := hp
  show GW z w 5 _ _ _ _ _ (.ref p2 :: _) _
  have ex12 := ex1.tr ex2
  have Kg := K.ext ex12
  have Mg := hM.ext hx ex12
  have xa := hx.2.2.2.2.2.2.2.2.2.2.1.1
  have t1 := ex1.1
  have j1 := wt_join (X := vPR V r) (Y := vPR V q) (a := wt (vPR V r)) (b := wt (vPR V q)) (by omega)
  have j2 := wt_join (X := vPR V q) (Y := vPR V r) (a := wt (vPR V q)) (b := wt (vPR V r)) (by omega)
  have q1 : qPc x g2 p1 (rJoin (vPR V r) (vPR V q) (wt (vPR V r)) (wt (vPR V q))) := ⟨by omega, by rw [j1]; exact h6, by rw [j1]; exact (pw1.ext ex2).s h6⟩
  have q2 : qPc x g2 p2 (rJoin (vPR V q) (vPR V r) (wt (vPR V q)) (wt (vPR V r))) := ⟨by omega, by rw [j2]; omega, by rw [j2]; exact pw2.s (by omega)⟩
  have hxg := Kg.1
  refine g_callV (ci := 5) C [_, _, _, _] mX5_begin lm_TestJudge_197 (by exact hxg.2.2.2.2.2.1.2.1) rfl rfl (e_x_begin Kg hs4 q1 q2) hfl (by first | decide | omega) (by decide) (by omega) (by omega) rfl rfl (Nat.le_of_ble_eq_true rfl) (gd DX9_swaps_0 46 rfl) (fun r g3 hp => ?_)
  obtain ⟨rfl, bg⟩ := hp
  show GW z w 5 _ _ _ _ _ [] _
  obtain ⟨K1, k1⟩ := Kg.bg hs4 q1.2.1 q2.2.1 bg
  have hx1 := K1.1
  refine g_aload_n C (gd DX9_swaps_0 47 rfl) 0 rfl rfl ?_
  refine g_aload_n C (gd DX9_swaps_0 48 rfl) 0 rfl rfl ?_
  refine g_getr (ci := 9) (k := 8) C rfl (by decide) rfl lf_TestJudge_50 hx1.1 hx1.2.2.2.2.2.1.1 (gd DX9_swaps_0 49 rfl) ?_
  refine g_iconst (v := 0) C (gd DX9_swaps_0 50 rfl) (by decide) ?_
  refine g_callV (ci := 5) C [_] mX5_findApart lm_TestJudge_204 (by exact hx1.2.2.2.2.2.1.2.1) rfl rfl (e_x_find Kg hs4 q1.2.1 q2.2.1 bg (Or.inl rfl)) hfl (by first | decide | omega) (by decide) (by omega) (by omega) rfl rfl (Nat.le_of_ble_eq_true rfl) (gd DX9_swaps_0 51 rfl) (fun r g4 hp => ?_)
  obtain ⟨K2, k2, hp⟩ := hp
  have hx2 := K2.1
  rcases hp with ⟨rfl, i, key, -, -, -, -, -, -, -, -, -, fd, -⟩ | ⟨rfl, no⟩
  · show GW z w 5 _ _ _ _ _ (.int 1 :: _) _
    refine g_if_ne C 108 (gd DX9_swaps_0 52 rfl) (by decide) (fun c101 => ?_) (fun c101 => ?_)
    · refine g_iconst (v := 0) C (gd DX9_swaps_0 55 rfl) (by decide) ?_
      refine g_cS1 C [_] mX9_bit lm_TestJudge_164 (e_x_bit (Or.inl rfl)) hfl (by first | decide | omega) (by decide) (by omega) (by omega) rfl rfl (Nat.le_of_ble_eq_true rfl) (gd DX9_swaps_0 56 rfl) ?_
      refine g_cV1 (ci := 9) C [_] mX9_allow lm_TestJudge_128 (by exact hx2.1) rfl rfl (e_x_allow hx2 _) hfl (by first | decide | omega) (by decide) (by omega) (by omega) rfl rfl (Nat.le_of_ble_eq_true rfl) (gd DX9_swaps_0 57 rfl) ?_
      exact g_iret C (by omega) (by omega) (aQ.q Kg Mg rfl K2 k2 (Or.inr ⟨r, q, hr, hq, rfl, rfl, Or.inr ⟨h6, Or.inr ⟨rfl, fun e => fd_no fd (noP_eq.mpr e)⟩, rfl⟩⟩)) (gd DX9_swaps_0 58 rfl)
    · exact absurd c101 (by decide)
  · show GW z w 5 _ _ _ _ _ (.int 0 :: _) _
    refine g_if_ne C 108 (gd DX9_swaps_0 52 rfl) (by decide) (fun c101 => ?_) (fun c101 => ?_)
    · exact absurd rfl c101
    · refine g_iconst (v := 1) C (gd DX9_swaps_0 53 rfl) (by decide) ?_
      refine g_goto (tgt := 109) C (gd DX9_swaps_0 54 rfl) (by decide) ?_
      refine g_cS1 C [_] mX9_bit lm_TestJudge_164 (e_x_bit (Or.inr rfl)) hfl (by first | decide | omega) (by decide) (by omega) (by omega) rfl rfl (Nat.le_of_ble_eq_true rfl) (gd DX9_swaps_0 56 rfl) ?_
      refine g_cV1 (ci := 9) C [_] mX9_allow lm_TestJudge_128 (by exact hx2.1) rfl rfl (e_x_allow hx2 _) hfl (by first | decide | omega) (by decide) (by omega) (by omega) rfl rfl (Nat.le_of_ble_eq_true rfl) (gd DX9_swaps_0 57 rfl) ?_
      exact g_iret C (by omega) (by omega) (aQ.q Kg Mg rfl K2 k2 (Or.inr ⟨r, q, hr, hq, rfl, rfl, Or.inr ⟨h6, Or.inl ⟨rfl, noP_eq.mp no⟩, rfl⟩⟩)) (gd DX9_swaps_0 58 rfl)
end SW
