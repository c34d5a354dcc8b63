/-! The class: what make makes -/
def mkW (c n b : Nat) : Nat := if c = 2 ∨ c = 4 then n else n + b
theorem rPl1 (e : Int32) : rPlain e 1 = e := rfl
section MK
variable {w : gD} {x W : Nat} {h : HS}
theorem e_x_made (hx : kvX x W h) {nt c n k a b : Nat} {X Y : Nat → Int32} (hnt : nt ≤ 3) (h0 : hI h W 0 = nI nt) (hc : c ≤ 4) (px : pcW h a n X) (py : pcW h b k Y) (hw : n + k < 1000) (test : Int32) : Ev w 3 25 305 yX9_made cX9_made 8 (some (.object RX2)) [.ref x, .int (nI c), .ref a, .ref b, .int test] h (fun r' h' => ∃ p, r' = some (.ref p) ∧ hT h ≤ p ∧ hExt h h' ∧ pcW h' p (mkW c n k) (mkR c X Y n k (holdC test (2 ^ nt)) (allF (nI nt)))) := by
  refine g_start (by decide) (Nat.le_of_ble_eq_true rfl) [(0, _), (1, _), (2, _), (3, _), (4, _)] rfl (fun z hfl C => ?_)
  have eS := hExt_sN h 3 0
  have hxS : kvX x W (sN h 3 0) := hx.a eS.a
  have lW : W + 5 < hT h := hx.2.2.2.2.2.2.2.2.2.2.1.2
  refine g_aload_n C (gd DX9_made_0 0 rfl) 0 rfl rfl ?_
  refine g_getr (ci := 9) (k := 6) C rfl (by decide) rfl lf_TestJudge_36 hx.1 hx.2.2.2.1.1 (gd DX9_made_0 1 rfl) ?_
  refine g_cV1 (ci := 8) C [] mX8_allAtoms lm_TestJudge_263 (by exact hx.2.2.2.1.2.1) rfl rfl (e_w_allAtoms hx.2.2.2.1.2) hfl (by first | decide | omega) (by decide) (by omega) (by omega) rfl rfl (Nat.le_of_ble_eq_true rfl) (gd DX9_made_0 2 rfl) ?_
  rw [h0]
  refine g_istore (lv' := [(0, _), (1, _), (2, _), (3, _), (4, _), (5, _)]) C (gd DX9_made_0 3 rfl) [1, 2, 3, 4, 5, 0] (by decide) rfl ?_
  refine g_new (ci := 2) C rfl lc_TestJudge_68 lI_TestJudge_Piece li_TestJudge_Piece (by decide) (by decide) (gd DX9_made_0 4 rfl) (gdv2) ?_
  refine g_dup C (gd DX9_made_0 5 rfl) rfl ?_
  refine g_iconst (v := 0) C (gd DX9_made_0 6 rfl) (by decide) ?_
  refine g_aload_n C (gd DX9_made_0 7 rfl) 0 rfl rfl ?_
  refine g_getr (ci := 9) (k := 6) C rfl (by decide) rfl lf_TestJudge_36 hxS.1 hxS.2.2.2.1.1 (gd DX9_made_0 8 rfl) ?_
  refine g_iload C (gd DX9_made_0 9 rfl) 4 rfl ?_
  refine g_cV1 (ci := 8) C [_] mX8_testAtoms lm_TestJudge_294 (by exact hxS.2.2.2.1.2.1) rfl rfl (e_w_testAtoms hxS.2.2.2.1.2 (nt := nt) (by rw [(eS.2 W (by omega)).1]; exact h0) hnt test) hfl (by first | decide | omega) (by decide) (by omega) (by omega) rfl rfl (Nat.le_of_ble_eq_true rfl) (gd DX9_made_0 10 rfl) ?_
  generalize holdC test (2 ^ nt) = its
  refine g_cI C [_, _] mX2_init lm_TestJudge_70 (e_pc_init 0 (by omega) _) hfl (by first | decide | omega) (by decide) (by omega) (by omega) rfl rfl (Nat.le_of_ble_eq_true rfl) (gd DX9_made_0 11 rfl) ?_
  obtain ⟨p1, e1, l1, x1, -, w1⟩ := pcF_mk (np := w.2.2.2) (h := h) its
  cases Option.some.inj e1
  generalize pcF w.2.2.2 h 0 its = g1 at x1 w1 ⊢
  have eS1 := hExt_sN g1 3 0
  have w1S := w1.ext eS1
  refine g_astore (lv' := [(0, _), (1, _), (2, _), (3, _), (4, _), (5, _), (6, _)]) C (gd DX9_made_0 12 rfl) [1, 2, 3, 4, 5, 6, 0] (by decide) rfl ?_
  refine g_new (ci := 2) C rfl lc_TestJudge_68 lI_TestJudge_Piece li_TestJudge_Piece (by decide) (by decide) (gd DX9_made_0 13 rfl) (gdv2) ?_
  refine g_dup C (gd DX9_made_0 14 rfl) rfl ?_
  refine g_iconst (v := 0) C (gd DX9_made_0 15 rfl) (by decide) ?_
  refine g_iload C (gd DX9_made_0 16 rfl) 5 rfl ?_
  refine g_aload C (gd DX9_made_0 17 rfl) 6 rfl ?_
  refine g_geti (ci := 2) (k := 1) C rfl (by decide) rfl lf_TestJudge_151 w1S.2.2.1.1.1 (gd DX9_made_0 18 rfl) ?_
  rw [w1S.1.2 (by omega), rPl1]
  refine g_iconst (v := -1) C (gd DX9_made_0 19 rfl) (by decide) ?_
  refine g_ixor C (gd DX9_made_0 20 rfl) ?_
  refine g_iand C (gd DX9_made_0 21 rfl) ?_
  refine g_cI C [_, _] mX2_init lm_TestJudge_70 (e_pc_init 0 (by omega) _) hfl (by first | decide | omega) (by decide) (by omega) (by omega) rfl rfl (Nat.le_of_ble_eq_true rfl) (gd DX9_made_0 22 rfl) ?_
  obtain ⟨p2, e2, l2, x2, -, w2⟩ := pcF_mk (np := w.2.2.2) (h := g1) (allF (nI nt) &&& (its ^^^ -1))
  cases Option.some.inj e2
  generalize pcF w.2.2.2 g1 0 (allF (nI nt) &&& (its ^^^ -1)) = g2 at x2 w2 ⊢
  have x12 := x1.tr x2
  have w1' := w1.ext x2
  have px2 := px.ext x12
  have py2 := py.ext x12
  have l12 := x1.1
  have l22 := x2.1
  refine g_astore (lv' := [(0, _), (1, _), (2, _), (3, _), (4, _), (5, _), (6, _), (7, _)]) C (gd DX9_made_0 23 rfl) [1, 2, 3, 4, 5, 6, 7, 0] (by decide) rfl ?_
  refine g_iload_n C (gd DX9_made_0 24 rfl) 1 rfl rfl ?_
  rcases (show c = 0 ∨ c = 1 ∨ c = 2 ∨ c = 3 ∨ c = 4 by omega) with rfl | rfl | rfl | rfl | rfl
  · refine g_tableIn C 80 (gd DX9_made_0 25 rfl) (by decide) (by decide) rfl (by decide) ?_
    refine g_aload_n C (gd DX9_made_0 26 rfl) 2 rfl rfl ?_
    refine g_aload_n C (gd DX9_made_0 27 rfl) 3 rfl rfl ?_
    refine g_callS C [_, _] mX2_sum lm_TestJudge_297 (e_pc_sum px2 py2 (by omega)) hfl (by first | decide | omega) (by decide) (by omega) (by omega) rfl rfl (Nat.le_of_ble_eq_true rfl) (gd DX9_made_0 28 rfl) (fun r g3 hp => ?_)
    obtain ⟨p, rfl, p2, p3, p4, p5⟩ := hp
    show GW z w 8 _ _ _ _ _ [.ref p] _
    exact g_aret C (by omega) (by omega) ⟨p, rfl, by omega, x12.tr p3, p5⟩ (gd DX9_made_0 29 rfl)
  · refine g_tableIn C 86 (gd DX9_made_0 25 rfl) (by decide) (by decide) rfl (by decide) ?_
    refine g_aload_n C (gd DX9_made_0 30 rfl) 2 rfl rfl ?_
    refine g_aload_n C (gd DX9_made_0 31 rfl) 3 rfl rfl ?_
    refine g_callS C [_, _] mX2_row lm_TestJudge_225 (e_pc_row px2 py2 (by omega)) hfl (by first | decide | omega) (by decide) (by omega) (by omega) rfl rfl (Nat.le_of_ble_eq_true rfl) (gd DX9_made_0 32 rfl) (fun r g3 hp => ?_)
    obtain ⟨p, rfl, p2, p3, p4, p5⟩ := hp
    show GW z w 8 _ _ _ _ _ [.ref p] _
    exact g_aret C (by omega) (by omega) ⟨p, rfl, by omega, x12.tr p3, p5⟩ (gd DX9_made_0 33 rfl)
  · refine g_tableIn C 92 (gd DX9_made_0 25 rfl) (by decide) (by decide) rfl (by decide) ?_
    refine g_aload_n C (gd DX9_made_0 34 rfl) 2 rfl rfl ?_
    refine g_iload C (gd DX9_made_0 35 rfl) 5 rfl ?_
    refine g_callS C [_, _] mX2_star lm_TestJudge_300 (e_pc_star px2 _ (by omega)) hfl (by first | decide | omega) (by decide) (by omega) (by omega) rfl rfl (Nat.le_of_ble_eq_true rfl) (gd DX9_made_0 36 rfl) (fun r g3 hp => ?_)
    obtain ⟨p, rfl, p2, p3, p4, p5⟩ := hp
    show GW z w 8 _ _ _ _ _ [.ref p] _
    exact g_aret C (by omega) (by omega) ⟨p, rfl, by omega, x12.tr p3, p5⟩ (gd DX9_made_0 37 rfl)
  · refine g_tableIn C 99 (gd DX9_made_0 25 rfl) (by decide) (by decide) rfl (by decide) ?_
    refine g_aload C (gd DX9_made_0 38 rfl) 6 rfl ?_
    refine g_aload_n C (gd DX9_made_0 39 rfl) 2 rfl rfl ?_
    refine g_callS C [_, _] mX2_row lm_TestJudge_225 (e_pc_row w1' px2 (by omega)) hfl (by first | decide | omega) (by decide) (by omega) (by omega) rfl rfl (Nat.le_of_ble_eq_true rfl) (gd DX9_made_0 40 rfl) (fun r g3 hp => ?_)
    obtain ⟨p, rfl, p2, p3, p4, p5⟩ := hp
    show GW z w 8 _ _ _ _ _ [.ref p] _
    have q1 := p5.row0
    rw [rPl1] at q1
    refine g_aload C (gd DX9_made_0 41 rfl) 7 rfl ?_
    refine g_aload_n C (gd DX9_made_0 42 rfl) 3 rfl rfl ?_
    refine g_callS C [_, _] mX2_row lm_TestJudge_225 (e_pc_row (w2.ext p3) (py2.ext p3) (by omega)) hfl (by first | decide | omega) (by decide) (by omega) (by omega) rfl rfl (Nat.le_of_ble_eq_true rfl) (gd DX9_made_0 43 rfl) (fun r g4 hp => ?_)
    obtain ⟨p', rfl, q2, q3, q4, q5⟩ := hp
    show GW z w 8 _ _ _ _ _ (.ref p' :: _) _
    have q6 := q5.row0
    rw [rPl1] at q6
    have l3 := p3.1
    have l4 := q3.1
    refine g_callS C [_, _] mX2_sum lm_TestJudge_297 (e_pc_sum (q1.ext q3) q6 (by omega)) hfl (by first | decide | omega) (by decide) (by omega) (by omega) rfl rfl (Nat.le_of_ble_eq_true rfl) (gd DX9_made_0 44 rfl) (fun r g5 hp => ?_)
    obtain ⟨p'', rfl, r2, r3, r4, r5⟩ := hp
    show GW z w 8 _ _ _ _ _ [.ref p''] _
    exact g_aret C (by omega) (by omega) ⟨p'', rfl, by omega, ((x12.tr p3).tr q3).tr r3, r5⟩ (gd DX9_made_0 45 rfl)
  · refine g_tableOut C 115 (gd DX9_made_0 25 rfl) (by decide) (by decide) ?_
    refine g_aload C (gd DX9_made_0 46 rfl) 6 rfl ?_
    refine g_aload_n C (gd DX9_made_0 47 rfl) 2 rfl rfl ?_
    refine g_callS C [_, _] mX2_row lm_TestJudge_225 (e_pc_row w1' px2 (by omega)) hfl (by first | decide | omega) (by decide) (by omega) (by omega) rfl rfl (Nat.le_of_ble_eq_true rfl) (gd DX9_made_0 48 rfl) (fun r g3 hp => ?_)
    obtain ⟨p, rfl, p2, p3, p4, p5⟩ := hp
    show GW z w 8 _ _ _ _ _ [.ref p] _
    have q1 := p5.row0
    rw [rPl1] at q1
    refine g_iload C (gd DX9_made_0 49 rfl) 5 rfl ?_
    refine g_callS C [_, _] mX2_star lm_TestJudge_300 (e_pc_star q1 _ (by omega)) hfl (by first | decide | omega) (by decide) (by omega) (by omega) rfl rfl (Nat.le_of_ble_eq_true rfl) (gd DX9_made_0 50 rfl) (fun r g4 hp => ?_)
    obtain ⟨p', rfl, q2, q3, q4, q5⟩ := hp
    show GW z w 8 _ _ _ _ _ [.ref p'] _
    have l3 := p3.1
    have l4 := q3.1
    refine g_aload C (gd DX9_made_0 51 rfl) 7 rfl ?_
    refine g_callS C [_, _] mX2_row lm_TestJudge_225 (e_pc_row q5 ((w2.ext p3).ext q3) (by omega)) hfl (by first | decide | omega) (by decide) (by omega) (by omega) rfl rfl (Nat.le_of_ble_eq_true rfl) (gd DX9_made_0 52 rfl) (fun r g5 hp => ?_)
    obtain ⟨p'', rfl, r2, r3, r4, r5⟩ := hp
    show GW z w 8 _ _ _ _ _ [.ref p''] _
    have r6 := r5.cg (rq_finish _ (rPlain (allF (nI nt) &&& (its ^^^ -1))) n)
    rw [rPl1] at r6
    exact g_aret C (by omega) (by omega) ⟨p'', rfl, by omega, ((x12.tr p3).tr q3).tr r3, r6⟩ (gd DX9_made_0 53 rfl)
end MK
