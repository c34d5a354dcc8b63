/-! the class's Reader: readWhile -/
section R7
variable {w : gD} {U W T N : Nat} {h : HS} {tx : Nat → Nat} {n c j nt na np : Nat} {Wd : Nat → Nat} {PR : Nat → pR}
theorem e_r_while {F o : Nat} {acc : pR} {r : pRz} {K : Nat} (hS : cCS w U W T N tx n c nt na np Wd PR F) (s : cSt U W T N h tx n c j nt na np Wd PR) (ho : o ≤ 4) (hj : j < c) (hF : 8 * (c - j) + 3 < F) (hz : pThen (pz (envT tx n nt na np Wd PR) F 4 o j acc) (fun j1 t => if t.1 ≠ 0 then some (.inl (5, j1)) else if cdT tx n j1 ≠ 143 then some (pBad (envT tx n nt na np Wd PR) 2 j1) else pThen (pz (envT tx n nt na np Wd PR) F 4 o (j1 + 1) acc) (fun j2 y => if cdT tx n j2 ≠ 5572 then some (pBad (envT tx n nt na np Wd PR) 2 j2) else some (.inr (j2 + 1, (y.1, rFinish (rStar (rBegins y.2 y.1 (t.2 1)) y.1 (allF (nI nt))) y.1 (allF (nI nt) &&& (t.2 1 ^^^ -1))))))) = some r) (hK : jI o j r ≤ K) : Ev w (6 + 3 * (4 - o)) (5 * K) (61 * K) yX3_readWhile cX3_readWhile 4 (some (.object RX2)) [.ref U, .int (nI o)] h (rsC U T h tx n c j r) := by
  refine g_start (by decide) (Nat.le_of_ble_eq_true rfl) [(0, _), (1, _)] rfl (fun z hfl C => ?_)
  have hc := s.2.1.hc
  have c5 : c ≤ 501 := s.2.1.1.2.1.2
  have pzt := fun i (hi : i < c) (hf : 8 * (c - i) + 3 < F) => pz_tot (E := envT tx n nt na np Wd PR) hc s.2.2.2.nm F 4 o i acc (by omega) hi hf (fun q => by omega)
  have bad31 : ∀ g x k jf p1 m1 R1 p2 m2 R2, bdF U T h g tx n c k jf → jf < c → r = .inl (k, jf) → pcW g p1 m1 R1 → pcW g p2 m2 R2 → m1 + m2 ≤ 5 * (jf - j) → x + 4 ≤ K → GW z w 4 (gQ z w (5 * K) (61 * K) (fun r' h'' => rsC U T h tx n c j r r' h'')) (5 * x) (61 * x) 31 [(0, .ref U), (1, .int (nI o)), (2, .ref p1), (3, .ref p2)] [] g := by
    intro g x k jf p1 m1 R1 p2 m2 R2 b lf er w1 w2 hm hx
    refine g_aload_n C (gd DX3_readWhile_0 17 rfl) 2 rfl rfl ?_
    refine g_aload_n C (gd DX3_readWhile_0 18 rfl) 3 rfl rfl ?_
    refine g_callS C [_, _] mX2_row lm_TestJudge_Reader_129 (e_pc_row w1 w2 (by omega)) hfl (by first | decide | omega) (by decide) (by omega) (by omega) rfl rfl (Nat.le_of_ble_eq_true rfl) (gd DX3_readWhile_0 19 rfl) (fun r h2 hp => ?_)
    obtain ⟨p4, rfl, -, x4, -, w4⟩ := hp
    show GW z w 4 _ _ _ _ _ [.ref p4] _
    have b4 := b.ext s.1 x4
    have hq4 := s.1.q b4.1
    have w1' := w1.ext x4
    refine g_aload_n C (gd DX3_readWhile_0 20 rfl) 0 rfl rfl ?_
    refine g_getr (ci := 3) (k := 0) C rfl (by decide) rfl lf_TestJudge_Reader_12 hq4.1.1 hq4.1.2.1 (gd DX3_readWhile_0 21 rfl) ?_
    refine g_cV1 (ci := 8) C [] mX8_allAtoms lm_TestJudge_Reader_113 (by exact hq4.2.2.2.1.1) rfl rfl (e_w_allAtoms hq4.2.2.2.1) hfl (by first | decide | omega) (by decide) (by omega) (by omega) rfl rfl (Nat.le_of_ble_eq_true rfl) (gd DX3_readWhile_0 22 rfl) ?_
    refine g_callS C [_, _] mX2_star lm_TestJudge_Reader_125 (e_pc_star w4 _ (by omega)) hfl (by first | decide | omega) (by decide) (by omega) (by omega) rfl rfl (Nat.le_of_ble_eq_true rfl) (gd DX3_readWhile_0 23 rfl) (fun r g5 hp => ?_)
    obtain ⟨p5, rfl, -, x5, -, w5⟩ := hp
    show GW z w 4 _ _ _ _ _ [.ref p5] _
    have b5 := b4.ext s.1 x5
    have hq5 := s.1.q b5.1
    have w1'' := w1'.ext x5
    refine g_aload_n C (gd DX3_readWhile_0 24 rfl) 0 rfl rfl ?_
    refine g_aload_n C (gd DX3_readWhile_0 25 rfl) 2 rfl rfl ?_
    refine g_callV (ci := 3) C [_] mX3_opposite lm_TestJudge_Reader_170 (by exact hq5.1.1) rfl rfl (e_r_opposite hq5 w1''.2.2.1.1.1 w1''.2.1) hfl (by first | decide | omega) (by decide) (by omega) (by omega) rfl rfl (Nat.le_of_ble_eq_true rfl) (gd DX3_readWhile_0 26 rfl) (fun r g6 hp => ?_)
    obtain ⟨p6, rfl, -, x6, -, w6⟩ := hp
    show GW z w 4 _ _ _ _ _ [.ref p6, .ref p5] _
    refine g_callS C [_, _] mX2_row lm_TestJudge_Reader_129 (e_pc_row (w5.ext x6) w6 (by omega)) hfl (by first | decide | omega) (by decide) (by omega) (by omega) rfl rfl (Nat.le_of_ble_eq_true rfl) (gd DX3_readWhile_0 27 rfl) (fun r g7 hp => ?_)
    obtain ⟨p7, rfl, -, x7, -, w7⟩ := hp
    show GW z w 4 _ _ _ _ _ [.ref p7] _
    rw [er]
    exact g_aret C (by omega) (by omega) ⟨(b5.ext s.1 x6).ext s.1 x7, p7, _, _, rfl, w7, by show m1 + m2 + 0 ≤ 5 * (jf - j); omega⟩ (gd DX3_readWhile_0 28 rfl)
  have bad18 : ∀ g x k jf p1 m1 R1, bdF U T h g tx n c k jf → jf < c → r = .inl (k, jf) → pcW g p1 m1 R1 → m1 ≤ 5 * (jf - j) → x + 7 ≤ K → GW z w 4 (gQ z w (5 * K) (61 * K) (fun r' h'' => rsC U T h tx n c j r r' h'')) (5 * x) (61 * x) 18 [(0, .ref U), (1, .int (nI o)), (2, .ref p1)] [] g := by
    intro g x k jf p1 m1 R1 b lf er w1 hm hx
    have hq := s.1.q b.1
    refine g_aload_n C (gd DX3_readWhile_0 10 rfl) 0 rfl rfl ?_
    refine g_iload_n C (gd DX3_readWhile_0 11 rfl) 1 rfl rfl ?_
    refine g_callV (ci := 3) C [_] mX3_readSum lm_TestJudge_Reader_89 (by exact hq.1.1) rfl rfl (e_r_sum1 hq b.2.2.2.2 _) hfl (by first | decide | omega) (by decide) (by omega) (by omega) rfl rfl (Nat.le_of_ble_eq_true rfl) (gd DX3_readWhile_0 12 rfl) (fun r h2 hp => ?_)
    obtain ⟨x3, p3, R3, rfl, w3⟩ := hp
    show GW z w 4 _ _ _ _ _ [.ref p3] _
    have b3 := b.ext s.1 x3
    have hq3 := s.1.q b3.1
    refine g_astore_n (lv' := [(0, _), (1, _), (2, _), (3, _)]) C (gd DX3_readWhile_0 13 rfl) [1, 2, 3, 0] rfl (by decide) rfl ?_
    refine g_aload_n C (gd DX3_readWhile_0 14 rfl) 0 rfl rfl ?_
    refine g_sipush (v := 5572) C (gd DX3_readWhile_0 15 rfl) (by decide) ?_
    refine g_cV0 (v := .null) (ci := 3) C [_] mX3_expect lm_TestJudge_Reader_86 (by exact hq3.1.1) rfl rfl (e_r_expect1 hq3 b3.2.2.2.2 _) hfl (by first | decide | omega) (by decide) (by omega) (by omega) rfl rfl (Nat.le_of_ble_eq_true rfl) (gd DX3_readWhile_0 16 rfl) ?_
    exact GW.up (by omega) (by omega) (bad31 _ (x + 3) k jf p1 m1 R1 p3 0 R3 b3 lf er (w1.ext x3) w3 (by omega) (by omega))
  have Ke : 4 * (pEn r - j) + 3 ≤ K := by
    rcases r with x | x
    · have h1 : 4 * (x.2 - j) + 17 + 12 * (4 - o) ≤ K := hK
      show 4 * (x.2 - j) + 3 ≤ K
      omega
    · exact hK
  obtain ⟨r1, hr1, ok1⟩ := pzt j hj hF
  rw [hr1] at hz
  rcases r1 with x | ⟨j1, t⟩
  · have er : r = .inl x := (Option.some.inj (show some (Sum.inl x) = some r from hz)).symm
    have h2 : 4 * (x.2 - j) + 17 + 12 * (4 - o) ≤ K := by rw [er] at hK; exact hK
    refine g_aload_n C (gd DX3_readWhile_0 0 rfl) 0 rfl rfl ?_
    refine g_iload_n C (gd DX3_readWhile_0 1 rfl) 1 rfl rfl ?_
    refine g_callV (ci := 3) C [_] mX3_readSum lm_TestJudge_Reader_89 (by exact s.1.1.1) rfl rfl (hS h o j acc (.inl x) (4 * (x.2 - j) + 7 + 12 * (4 - o)) s ho hj hF hr1 (Nat.le_refl _)) hfl (by first | decide | omega) (by decide) (by omega) (by omega) rfl rfl (Nat.le_of_ble_eq_true rfl) (gd DX3_readWhile_0 2 rfl) (fun r g1 hp => ?_)
    obtain ⟨b, p, m, R, rfl, pw, pm⟩ := hp
    have hq := s.1.q b.1
    show GW z w 4 _ _ _ _ _ [.ref p] _
    refine g_astore_n (lv' := [(0, _), (1, _), (2, _)]) C (gd DX3_readWhile_0 3 rfl) [1, 2, 0] rfl (by decide) rfl ?_
    refine g_aload_n C (gd DX3_readWhile_0 4 rfl) 0 rfl rfl ?_
    refine g_aload_n C (gd DX3_readWhile_0 5 rfl) 2 rfl rfl ?_
    refine g_cV0 (v := .null) (ci := 3) C [_] mX3_needPlain lm_TestJudge_Reader_167 (by exact hq.1.1) rfl rfl (e_r_needPlain1 hq b.2.2.2.2 pw.2.2.1.1.1) hfl (by first | decide | omega) (by decide) (by omega) (by omega) rfl rfl (Nat.le_of_ble_eq_true rfl) (gd DX3_readWhile_0 6 rfl) ?_
    refine g_aload_n C (gd DX3_readWhile_0 7 rfl) 0 rfl rfl ?_
    refine g_sipush (v := 143) C (gd DX3_readWhile_0 8 rfl) (by decide) ?_
    refine g_cV0 (v := .null) (ci := 3) C [_] mX3_expect lm_TestJudge_Reader_86 (by exact hq.1.1) rfl rfl (e_r_expect1 hq b.2.2.2.2 _) hfl (by first | decide | omega) (by decide) (by omega) (by omega) rfl rfl (Nat.le_of_ble_eq_true rfl) (gd DX3_readWhile_0 9 rfl) ?_
    exact GW.up (by omega) (by omega) (bad18 _ (4 * (x.2 - j) + 7 + 12 * (4 - o)) x.1 x.2 p m R b ok1.2.1 er pw pm (by omega))
  obtain ⟨k1, k2, k3, k4, k5⟩ := ok1
  rw [if_neg (by omega)] at k5
  have k3' := k3 (by omega)
  dsimp only at k1 k2 k3' k5
  change (if t.1 ≠ 0 then _ else _) = some r at hz
  have le1 : j1 ≤ pEn r := by
    by_cases e : t.1 = 0
    · rw [if_neg (fun q => q e)] at hz
      refine if_bad hz (fun e1 hz1 => ?_)
      have h1 := hc j1 k2 (by omega)
      refine Nat.le_of_succ_le (en_then (pzt (j1 + 1) h1 (by omega)) hz1 (fun j2 y l1 l2 hz2 => if_bad hz2 (fun e2 hz3 => ?_)))
      rw [← Option.some.inj hz3]
      exact Nat.le_succ j2
    · rw [if_pos e] at hz
      rw [← Option.some.inj hz]
      exact Nat.le_refl _
  refine g_aload_n C (gd DX3_readWhile_0 0 rfl) 0 rfl rfl ?_
  refine g_iload_n C (gd DX3_readWhile_0 1 rfl) 1 rfl rfl ?_
  refine g_callV (ci := 3) C [_] mX3_readSum lm_TestJudge_Reader_89 (by exact s.1.1.1) rfl rfl (hS h o j acc (.inr (j1, t)) (4 * (j1 - j) + 3) s ho hj hF hr1 (Nat.le_refl _)) hfl (by first | decide | omega) (by decide) (by omega) (by omega) rfl rfl (Nat.le_of_ble_eq_true rfl) (gd DX3_readWhile_0 2 rfl) (fun r g1 hp => ?_)
  obtain ⟨b1', ct1, f1, p1, rfl, w1⟩ := hp
  dsimp only at ct1 w1
  have s1 := s.q b1' ct1 f1
  have hq1 := s1.1
  show GW z w 4 _ _ _ _ _ [.ref p1] _
  refine g_astore_n (lv' := [(0, _), (1, _), (2, _)]) C (gd DX3_readWhile_0 3 rfl) [1, 2, 0] rfl (by decide) rfl ?_
  refine g_aload_n C (gd DX3_readWhile_0 4 rfl) 0 rfl rfl ?_
  refine g_aload_n C (gd DX3_readWhile_0 5 rfl) 2 rfl rfl ?_
  refine g_cV0 (v := .null) (ci := 3) C [_] mX3_needPlain lm_TestJudge_Reader_167 (by exact hq1.1.1) rfl rfl (e_r_needPlain hq1 ct1 f1 w1.2.2.1.1.1 w1.1.1 (by omega)) hfl (by first | decide | omega) (by decide) (by omega) (by omega) rfl rfl (Nat.le_of_ble_eq_true rfl) (gd DX3_readWhile_0 6 rfl) ?_
  by_cases e : t.1 = 0
  rotate_left
  · rw [if_pos e] at hz
    rw [if_neg e]
    have er : r = .inl (5, j1) := (Option.some.inj hz).symm
    have bd := bdF.pre b1' (bdF.mk hq1 ct1 (k := 5) ⟨by omega, by omega⟩)
    have w1' := w1.q hq1.1.1 hq1.2.2.1.1 (bdF.mk hq1 ct1 (k := 5) ⟨by omega, by omega⟩).1
    have hq2 := s.1.q bd.1
    rw [er] at hK
    refine g_aload_n C (gd DX3_readWhile_0 7 rfl) 0 rfl rfl ?_
    refine g_sipush (v := 143) C (gd DX3_readWhile_0 8 rfl) (by decide) ?_
    refine g_cV0 (v := .null) (ci := 3) C [_] mX3_expect lm_TestJudge_Reader_86 (by exact hq2.1.1) rfl rfl (e_r_expect1 hq2 bd.2.2.2.2 _) hfl (by first | decide | omega) (by decide) (by omega) (by omega) rfl rfl (Nat.le_of_ble_eq_true rfl) (gd DX3_readWhile_0 9 rfl) ?_
    exact GW.up (by omega) (by omega) (bad18 _ (4 * (j1 - j) + 3) 5 j1 p1 _ _ bd k2 er w1' (by omega) (by have h2 : 4 * (j1 - j) + 17 + 12 * (4 - o) ≤ K := hK; omega))
  rw [if_neg (fun q => q e)] at hz
  rw [if_pos e]
  refine g_aload_n C (gd DX3_readWhile_0 7 rfl) 0 rfl rfl ?_
  refine g_sipush (v := 143) C (gd DX3_readWhile_0 8 rfl) (by decide) ?_
  refine g_callV (ci := 3) C [_] mX3_expect lm_TestJudge_Reader_86 (by exact hq1.1.1) rfl rfl (e_r_expect hq1 ct1 f1 (hc j1 k2) (k := 143) (by decide) (by decide)) hfl (by first | decide | omega) (by decide) (by omega) (by omega) rfl rfl (Nat.le_of_ble_eq_true rfl) (gd DX3_readWhile_0 9 rfl) (fun r g2 hp => ?_)
  obtain ⟨rfl, hp⟩ := hp
  show GW z w 4 _ _ _ _ _ [] _
  rcases hp with ⟨e1, a2, ct2⟩ | ⟨e1, rfl⟩
  rotate_left
  · rw [if_pos e1] at hz
    have er := (Option.some.inj hz).symm
    have bm := bdF.mk hq1 ct1 (bk2 (cdT tx n j1 = 1))
    rw [er] at hK
    exact GW.up (by omega) (by omega) (bad18 _ (4 * (j1 - j) + 3) _ j1 p1 _ _ (bdF.pre b1' bm) k2 er (w1.q hq1.1.1 hq1.2.2.1.1 bm.1) (by omega) (by have h2 : 4 * (j1 - j) + 17 + 12 * (4 - o) ≤ K := hK; omega))
  rw [if_neg (fun q => q e1)] at hz
  have hj1 := hc j1 k2 (by omega)
  have s2 := s1.t a2 ct2
  have q02 : qF U T h g2 := b1'.tr a2.q
  have w12 := w1.q hq1.1.1 hq1.2.2.1.1 (a2.q (U := U))
  obtain ⟨r2, hr2, ok2⟩ := pzt (j1 + 1) hj1 (by omega)
  rw [hr2] at hz
  rcases r2 with x | ⟨j2, y⟩
  · have er : r = .inl x := (Option.some.inj (show some (Sum.inl x) = some r from hz)).symm
    have h2 : 4 * (x.2 - j) + 17 + 12 * (4 - o) ≤ K := by rw [er] at hK; exact hK
    have lo := ok2.1
    refine g_aload_n C (gd DX3_readWhile_0 10 rfl) 0 rfl rfl ?_
    refine g_iload_n C (gd DX3_readWhile_0 11 rfl) 1 rfl rfl ?_
    refine g_callV (ci := 3) C [_] mX3_readSum lm_TestJudge_Reader_89 (by exact s2.1.1.1) rfl rfl (hS _ o (j1 + 1) acc (.inl x) (4 * (x.2 - (j1 + 1)) + 7 + 12 * (4 - o)) s2 ho hj1 (by omega) hr2 (Nat.le_refl _)) hfl (by first | decide | omega) (by decide) (by omega) (by omega) rfl rfl (Nat.le_of_ble_eq_true rfl) (gd DX3_readWhile_0 12 rfl) (fun r g3 hp => ?_)
    obtain ⟨b, p, m, R, rfl, pw, pm⟩ := hp
    have hq := s2.1.q b.1
    show GW z w 4 _ _ _ _ _ [.ref p] _
    refine g_astore_n (lv' := [(0, _), (1, _), (2, _), (3, _)]) C (gd DX3_readWhile_0 13 rfl) [1, 2, 3, 0] rfl (by decide) rfl ?_
    refine g_aload_n C (gd DX3_readWhile_0 14 rfl) 0 rfl rfl ?_
    refine g_sipush (v := 5572) C (gd DX3_readWhile_0 15 rfl) (by decide) ?_
    refine g_cV0 (v := .null) (ci := 3) C [_] mX3_expect lm_TestJudge_Reader_86 (by exact hq.1.1) rfl rfl (e_r_expect1 hq b.2.2.2.2 _) hfl (by first | decide | omega) (by decide) (by omega) (by omega) rfl rfl (Nat.le_of_ble_eq_true rfl) (gd DX3_readWhile_0 16 rfl) ?_
    exact GW.up (by omega) (by omega) (bad31 _ (4 * (j1 - j) + 3 + (4 * (x.2 - (j1 + 1)) + 7 + 12 * (4 - o))) x.1 x.2 p1 _ _ p m R (bdF.pre q02 b) ok2.2.1 er (w12.q s2.1.1.1 s2.1.2.2.1.1 b.1) pw (by omega) (by omega))
  obtain ⟨l1, l2, l3, l4, l5⟩ := ok2
  rw [if_neg (by omega)] at l5
  have l3' := l3 (by omega)
  dsimp only at l1 l2 l3' l5
  change (if cdT tx n j2 ≠ 5572 then _ else _) = some r at hz
  have le2 : j2 ≤ pEn r := by
    refine if_bad hz (fun e2 hz3 => ?_)
    rw [← Option.some.inj hz3]
    exact Nat.le_succ j2
  refine g_aload_n C (gd DX3_readWhile_0 10 rfl) 0 rfl rfl ?_
  refine g_iload_n C (gd DX3_readWhile_0 11 rfl) 1 rfl rfl ?_
  refine g_callV (ci := 3) C [_] mX3_readSum lm_TestJudge_Reader_89 (by exact s2.1.1.1) rfl rfl (hS _ o (j1 + 1) acc (.inr (j2, y)) (4 * (j2 - (j1 + 1)) + 3) s2 ho hj1 (by omega) hr2 (Nat.le_refl _)) hfl (by first | decide | omega) (by decide) (by omega) (by omega) rfl rfl (Nat.le_of_ble_eq_true rfl) (gd DX3_readWhile_0 12 rfl) (fun r g3 hp => ?_)
  obtain ⟨b2', ct3, f3, p2, rfl, w2⟩ := hp
  dsimp only at ct3 w2
  have s3 := s2.q b2' ct3 f3
  have hq3 := s3.1
  have q03 := q02.tr b2'
  have w13 := w12.q s2.1.1.1 s2.1.2.2.1.1 b2'
  show GW z w 4 _ _ _ _ _ [.ref p2] _
  refine g_astore_n (lv' := [(0, _), (1, _), (2, _), (3, _)]) C (gd DX3_readWhile_0 13 rfl) [1, 2, 3, 0] rfl (by decide) rfl ?_
  refine g_aload_n C (gd DX3_readWhile_0 14 rfl) 0 rfl rfl ?_
  refine g_sipush (v := 5572) C (gd DX3_readWhile_0 15 rfl) (by decide) ?_
  refine g_callV (ci := 3) C [_] mX3_expect lm_TestJudge_Reader_86 (by exact hq3.1.1) rfl rfl (e_r_expect hq3 ct3 f3 (hc j2 l2) (k := 5572) (by decide) (by decide)) hfl (by first | decide | omega) (by decide) (by omega) (by omega) rfl rfl (Nat.le_of_ble_eq_true rfl) (gd DX3_readWhile_0 16 rfl) (fun r g4 hp => ?_)
  obtain ⟨rfl, hp⟩ := hp
  show GW z w 4 _ _ _ _ _ [] _
  rcases hp with ⟨e2, a4, ct4⟩ | ⟨e2, rfl⟩
  rotate_left
  · rw [if_pos e2] at hz
    have er := (Option.some.inj hz).symm
    have bm := bdF.mk hq3 ct3 (bk2 (cdT tx n j2 = 1))
    rw [er] at hK
    have h2 : 4 * (j2 - j) + 17 + 12 * (4 - o) ≤ K := hK
    exact GW.up (by omega) (by omega) (bad31 _ (4 * (j1 - j) + 3 + (4 * (j2 - (j1 + 1)) + 3)) _ j2 p1 _ _ p2 _ _ (bdF.pre q03 bm) l2 er (w13.q hq3.1.1 hq3.2.2.1.1 bm.1) (w2.q hq3.1.1 hq3.2.2.1.1 bm.1) (by omega) (by omega))
  rw [if_neg (fun q => q e2)] at hz
  have er := (Option.some.inj hz).symm
  rw [er] at hK
  have h2 : 4 * (j2 + 1 - j) + 3 ≤ K := hK
  have s6 := s3.t a4 ct4
  have q06 := q03.tr (a4.q (U := U))
  have w16 := w13.q hq3.1.1 hq3.2.2.1.1 (a4.q (U := U))
  have w26 := w2.q hq3.1.1 hq3.2.2.1.1 (a4.q (U := U))
  rw [e] at w16
  refine g_aload_n C (gd DX3_readWhile_0 17 rfl) 2 rfl rfl ?_
  refine g_aload_n C (gd DX3_readWhile_0 18 rfl) 3 rfl rfl ?_
  refine g_callS C [_, _] mX2_row lm_TestJudge_Reader_129 (e_pc_row w16 w26 (by omega)) hfl (by first | decide | omega) (by decide) (by omega) (by omega) rfl rfl (Nat.le_of_ble_eq_true rfl) (gd DX3_readWhile_0 19 rfl) (fun r g7 hp => ?_)
  obtain ⟨p4, rfl, -, x4, -, w4⟩ := hp
  show GW z w 4 _ _ _ _ _ [.ref p4] _
  have s7 := s6.e x4
  have w17 := w16.ext x4
  have w4' := w4.row0
  refine g_aload_n C (gd DX3_readWhile_0 20 rfl) 0 rfl rfl ?_
  refine g_getr (ci := 3) (k := 0) C rfl (by decide) rfl lf_TestJudge_Reader_12 s7.1.1.1 s7.1.1.2.1 (gd DX3_readWhile_0 21 rfl) ?_
  refine g_cV1 (ci := 8) C [] mX8_allAtoms lm_TestJudge_Reader_113 (by exact s7.1.2.2.2.1.1) rfl rfl (e_w_allAtoms s7.1.2.2.2.1) hfl (by first | decide | omega) (by decide) (by omega) (by omega) rfl rfl (Nat.le_of_ble_eq_true rfl) (gd DX3_readWhile_0 22 rfl) ?_
  rw [s7.2.2.2.2.1.1]
  refine g_callS C [_, _] mX2_star lm_TestJudge_Reader_125 (e_pc_star w4' (allF (nI nt)) (by omega)) hfl (by first | decide | omega) (by decide) (by omega) (by omega) rfl rfl (Nat.le_of_ble_eq_true rfl) (gd DX3_readWhile_0 23 rfl) (fun r g8 hp => ?_)
  obtain ⟨p5, rfl, -, x5, -, w5⟩ := hp
  show GW z w 4 _ _ _ _ _ [.ref p5] _
  have s8 := s7.e x5
  have w18 := w17.ext x5
  refine g_aload_n C (gd DX3_readWhile_0 24 rfl) 0 rfl rfl ?_
  refine g_aload_n C (gd DX3_readWhile_0 25 rfl) 2 rfl rfl ?_
  refine g_callV (ci := 3) C [_] mX3_opposite lm_TestJudge_Reader_170 (by exact s8.1.1.1) rfl rfl (e_r_opposite s8.1 w18.2.2.1.1.1 w18.2.1) hfl (by first | decide | omega) (by decide) (by omega) (by omega) rfl rfl (Nat.le_of_ble_eq_true rfl) (gd DX3_readWhile_0 26 rfl) (fun r g9 hp => ?_)
  obtain ⟨p6, rfl, -, x6, -, w6⟩ := hp
  show GW z w 4 _ _ _ _ _ [.ref p6, .ref p5] _
  rw [s8.2.2.2.2.1.1, w18.1.2 (by omega)] at w6
  refine g_callS C [_, _] mX2_row lm_TestJudge_Reader_129 (e_pc_row (w5.ext x6) w6 (by omega)) hfl (by first | decide | omega) (by decide) (by omega) (by omega) rfl rfl (Nat.le_of_ble_eq_true rfl) (gd DX3_readWhile_0 27 rfl) (fun r ga hp => ?_)
  obtain ⟨p7, rfl, -, x7, -, w7⟩ := hp
  show GW z w 4 _ _ _ _ _ [.ref p7] _
  have s9 := (s8.e x6).e x7
  rw [er]
  exact g_aret C (by omega) (by omega) ⟨(((q06.tr x4.q).tr x5.q).tr x6.q).tr x7.q, s9.2.1, s9.2.2.1, p7, rfl, w7.cg (rq_finish _ _ _)⟩ (gd DX3_readWhile_0 28 rfl)
end R7
