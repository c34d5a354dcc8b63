/-! the class's Reader: readName -/
section R4
variable {w : gD} {U W T N : Nat} {h : HS} {tx : Nat → Nat} {n c j nt na np : Nat} {Wd : Nat → Nat} {PR : Nat → pR}
theorem e_r_readName (hq : cQ U W T N h) (ct : cT T h tx n c j) (h0 : hI h U 1 = 0) (cn : cN W N h nt na np Wd PR) (e2 : cdT tx n j = 2) (hj : j + 1 < c) : Ev w 3 5 61 yX3_readName cX3_readName 2 (some (.object RX2)) [.ref U] h (rsC U T h tx n c j (match nmOf nt na np Wd PR (wdT tx n j) with | none => pBad (envT tx n nt na np Wd PR) 3 j | some a => .inr (j + 1, a))) := by
  generalize hr : (match nmOf nt na np Wd PR (wdT tx n j) with | none => pBad (envT tx n nt na np Wd PR) 3 j | some a => .inr (j + 1, a)) = r
  refine g_start (by decide) (Nat.le_of_ble_eq_true rfl) [(0, _)] rfl (fun z hfl C => ?_)
  obtain ⟨⟨n1, n2, n3⟩, ⟨n4, n5, n6⟩, n7, n8, n9⟩ := id cn
  refine g_aload_n C (gd DX3_readName_0 0 rfl) 0 rfl rfl ?_
  refine g_aload_n C (gd DX3_readName_0 1 rfl) 0 rfl rfl ?_
  refine g_getr (ci := 3) (k := 3) C rfl (by decide) rfl lf_TestJudge_Reader_33 hq.1.1 hq.1.2.2.1 (gd DX3_readName_0 2 rfl) ?_
  refine g_geti (ci := 7) (k := 2) C rfl (by decide) rfl lf_TestJudge_Reader_76 hq.2.2.1.1 (gd DX3_readName_0 3 rfl) ?_
  rw [ct.2.2.2.2 e2]
  refine g_cV1 (ci := 3) C [_] mX3_slotOf lm_TestJudge_Reader_79 (by exact hq.1.1) rfl rfl (e_r_slotOf hq cn (wd_pos j e2) (wd_lt j e2)) hfl (by first | decide | omega) (by decide) (by omega) (by omega) rfl rfl (Nat.le_of_ble_eq_true rfl) (gd DX3_readName_0 4 rfl) ?_
  have mk : ∀ g p m R, tF T h g → cT T g tx n c (j + 1) → r = .inr (j + 1, (m, R)) → ∀ rr g2, hExt g g2 → rr = some (.ref p) → pcW g2 p m R → rsC U T h tx n c j r rr g2 := by
    intro g p m R fr cg er rr g2 e e3 pw
    have qg := hq.q (fr.q (U := U))
    rw [er]
    exact ⟨(fr.q).tr e.q, cg.ext qg e, by rw [(e.2 U qg.2.2.2.2.1).1, fr.2 U 1 (fun x => hq.ne x.1)]; exact h0, p, e3, pw⟩
  have go : ∀ s, slN nt na np Wd (wdT tx n j) = some s → (∀ g, tF T h g → cT T g tx n c (j + 1) → GW z w 2 (gQ z w 5 61 (fun r' h'' => rsC U T h tx n c j r r' h'')) 0 0 39 [(0, .ref U), (1, .int (nI s))] [] g) → GW z w 2 (gQ z w 5 61 (fun r' h'' => rsC U T h tx n c j r r' h'')) 0 0 11 [(0, .ref U)] [.int (vN (slN nt na np Wd (wdT tx n j)))] h := by
    intro s es k
    rw [es]
    show GW z w 2 _ 0 0 11 _ [.int (nI s)] _
    have u := (slN_some n1 n2 es).1
    refine g_istore_n (lv' := [(0, _), (1, _)]) C (gd DX3_readName_0 5 rfl) [1, 0] rfl (by decide) rfl ?_
    refine g_iload_n C (gd DX3_readName_0 6 rfl) 1 rfl rfl ?_
    refine g_iconst (v := -1) C (gd DX3_readName_0 7 rfl) (by decide) ?_
    refine g_icmp_ne C 32 (gd DX3_readName_0 8 rfl) (by decide) (fun c14 => ?_) (fun c14 => ?_)
    · refine g_aload_n C (gd DX3_readName_0 18 rfl) 0 rfl rfl ?_
      refine g_getr (ci := 3) (k := 3) C rfl (by decide) rfl lf_TestJudge_Reader_33 hq.1.1 hq.1.2.2.1 (gd DX3_readName_0 19 rfl) ?_
      refine g_callV (ci := 7) C [] mX7_advance lm_TestJudge_Reader_60 (by exact hq.2.2.1.1) rfl rfl (e_k_adv hq.2.2.1 ct hj) hfl (by first | decide | omega) (by decide) (by omega) (by omega) rfl rfl (Nat.le_of_ble_eq_true rfl) (gd DX3_readName_0 20 rfl) (fun r h2 hp => ?_)
      obtain ⟨rfl, a1, a2⟩ := hp
      exact k _ a1 a2
    · exact absurd (by first | exact c14 | exact Decidable.of_not_not c14) (nI_neg1 (by rcases u with u | u | u <;> omega))
  cases a : fndN Wd 0 (wdT tx n j) nt with
  | some k =>
    have es : slN nt na np Wd (wdT tx n j) = some k := by unfold slN; rw [a]
    have hk := (fndN_lt nt k a).1
    have er : r = .inr (j + 1, (0, rPlain (holdF (nI k) (2 ^ nt)))) := by rw [← hr]; unfold nmOf; rw [a]
    refine go k es (fun g fr cg => ?_)
    have hqg := hq.q (fr.q (U := U))
    have cng := cn.q hq (fr.q (U := U))
    refine g_iload_n C (gd DX3_readName_0 21 rfl) 1 rfl rfl ?_
    refine g_bipush (v := 6) C (gd DX3_readName_0 22 rfl) (by decide) ?_
    refine g_icmp_lt C 57 (gd DX3_readName_0 23 rfl) (by decide) (fun c42 => ?_) (fun c42 => ?_)
    rotate_left
    · exact absurd (by first | exact c42 | exact Int32.not_lt.mp c42) (nI_ge (b := 6) (by omega) (by omega))
    refine g_iload_n C (gd DX3_readName_0 31 rfl) 1 rfl rfl ?_
    refine g_iconst (v := 3) C (gd DX3_readName_0 32 rfl) (by decide) ?_
    refine g_icmp_lt C 76 (gd DX3_readName_0 33 rfl) (by decide) (fun c59 => ?_) (fun c59 => ?_)
    rotate_left
    · exact absurd (by first | exact c59 | exact Int32.not_lt.mp c59) (nI_ge (b := 3) (by omega) (by omega))
    have hx := hExt_sN g 3 0
    have hq1 := hqg.q (hx.q (U := U))
    have eW : hI (sN g 3 0) W = hI g W := (hx.2 W (by have := hqg.2.2.2.2.2.2.1; omega)).1
    refine g_new (ci := 2) C rfl lc_TestJudge_Reader_94 lI_TestJudge_Piece li_TestJudge_Piece (by decide) (by decide) (gd DX3_readName_0 42 rfl) (gdv2) ?_
    refine g_dup C (gd DX3_readName_0 43 rfl) rfl ?_
    refine g_iconst (v := 0) C (gd DX3_readName_0 44 rfl) (by decide) ?_
    refine g_aload_n C (gd DX3_readName_0 45 rfl) 0 rfl rfl ?_
    refine g_getr (ci := 3) (k := 0) C rfl (by decide) rfl lf_TestJudge_Reader_12 hq1.1.1 hq1.1.2.1 (gd DX3_readName_0 46 rfl) ?_
    refine g_iload_n C (gd DX3_readName_0 47 rfl) 1 rfl rfl ?_
    refine g_cV1 (ci := 8) C [_] mX8_testAtoms lm_TestJudge_Reader_164 (by exact hq1.2.2.2.1.1) rfl rfl (e_w_testAtoms hq1.2.2.2.1 (by rw [eW]; exact cng.2.1.1) n1 _) hfl (by first | decide | omega) (by decide) (by omega) (by omega) rfl rfl (Nat.le_of_ble_eq_true rfl) (gd DX3_readName_0 48 rfl) ?_
    rw [holdC_F k (by omega) (2 ^ nt) (by rcases (show nt = 0 ∨ nt = 1 ∨ nt = 2 ∨ nt = 3 by omega) with e | e | e | e <;> subst e <;> decide)]
    refine g_cI C [_, _] mX2_init lm_TestJudge_Reader_116 (e_pc_init 0 (by omega) _) hfl (by first | decide | omega) (by decide) (by omega) (by omega) rfl rfl (Nat.le_of_ble_eq_true rfl) (gd DX3_readName_0 49 rfl) ?_
    obtain ⟨p, p1, p2, p3, p4, p5⟩ := pcF_mk (np := w.2.2.2) (h := g) (holdF (nI k) (2 ^ nt))
    exact g_aret C (by omega) (by omega) (mk g p _ _ fr cg er _ _ p3 p1 p5) (gd DX3_readName_0 50 rfl)
  | none =>
    cases b : fndN Wd 3 (wdT tx n j) na with
    | some k =>
      have es : slN nt na np Wd (wdT tx n j) = some (3 + k) := by unfold slN; rw [a, b]
      have hk := (fndN_lt na k b).1
      have er : r = .inr (j + 1, (1, rAct (nI k) (allF (nI nt)))) := by rw [← hr]; unfold nmOf; rw [a, b]
      refine go (3 + k) es (fun g fr cg => ?_)
      have hqg := hq.q (fr.q (U := U))
      have cng := cn.q hq (fr.q (U := U))
      refine g_iload_n C (gd DX3_readName_0 21 rfl) 1 rfl rfl ?_
      refine g_bipush (v := 6) C (gd DX3_readName_0 22 rfl) (by decide) ?_
      refine g_icmp_lt C 57 (gd DX3_readName_0 23 rfl) (by decide) (fun c42 => ?_) (fun c42 => ?_)
      rotate_left
      · exact absurd (by first | exact c42 | exact Int32.not_lt.mp c42) (nI_ge (b := 6) (by omega) (by omega))
      refine g_iload_n C (gd DX3_readName_0 31 rfl) 1 rfl rfl ?_
      refine g_iconst (v := 3) C (gd DX3_readName_0 32 rfl) (by decide) ?_
      refine g_icmp_lt C 76 (gd DX3_readName_0 33 rfl) (by decide) (fun c59 => ?_) (fun c59 => ?_)
      · exact absurd (show nI (3 + k) ≥ nI 3 from nI_le (by omega) (by omega)) (Int32.not_le.mpr c59)
      · refine g_iload_n C (gd DX3_readName_0 34 rfl) 1 rfl rfl ?_
        refine g_iconst (v := 3) C (gd DX3_readName_0 35 rfl) (by decide) ?_
        refine g_isub C (gd DX3_readName_0 36 rfl) ?_
        rw [show nI (3 + k) - 3 = nI k from by rw [show nI (3 + k) - 3 = nI (3 + k - 3) from nx_sub rfl rfl (by omega)]; congr 1; omega]
        refine g_aload_n C (gd DX3_readName_0 37 rfl) 0 rfl rfl ?_
        refine g_getr (ci := 3) (k := 0) C rfl (by decide) rfl lf_TestJudge_Reader_12 hqg.1.1 hqg.1.2.1 (gd DX3_readName_0 38 rfl) ?_
        refine g_cV1 (ci := 8) C [] mX8_allAtoms lm_TestJudge_Reader_113 (by exact hqg.2.2.2.1.1) rfl rfl (e_w_allAtoms hqg.2.2.2.1) hfl (by first | decide | omega) (by decide) (by omega) (by omega) rfl rfl (Nat.le_of_ble_eq_true rfl) (gd DX3_readName_0 39 rfl) ?_
        rw [cng.2.1.1]
        refine g_callS C [_, _] mX2_ofAct lm_TestJudge_Reader_160 (e_pc_ofAct (nI k) (allF (nI nt))) hfl (by first | decide | omega) (by decide) (by omega) (by omega) rfl rfl (Nat.le_of_ble_eq_true rfl) (gd DX3_readName_0 40 rfl) (fun r h2 hp => ?_)
        obtain ⟨p, rfl, p2, p3, p4, p5⟩ := hp
        show GW z w 2 _ _ _ _ _ [.ref p] _
        exact g_aret C (by omega) (by omega) (mk g p _ _ fr cg er _ _ p3 rfl p5) (gd DX3_readName_0 41 rfl)
    | none =>
      cases d : fndN Wd 6 (wdT tx n j) np with
      | some k =>
        have es : slN nt na np Wd (wdT tx n j) = some (6 + k) := by unfold slN; rw [a, b, d]
        have hk := (fndN_lt np k d).1
        have er : r = .inr (j + 1, PR k) := by rw [← hr]; unfold nmOf; rw [a, b, d]
        refine go (6 + k) es (fun g fr cg => ?_)
        have hqg := hq.q (fr.q (U := U))
        have cng := cn.q hq (fr.q (U := U))
        obtain ⟨⟨p, p1, p2⟩, -⟩ := cng.2.2.2.2 k hk
        refine g_iload_n C (gd DX3_readName_0 21 rfl) 1 rfl rfl ?_
        refine g_bipush (v := 6) C (gd DX3_readName_0 22 rfl) (by decide) ?_
        refine g_icmp_lt C 57 (gd DX3_readName_0 23 rfl) (by decide) (fun c42 => ?_) (fun c42 => ?_)
        · exact absurd (show nI (6 + k) ≥ nI 6 from nI_le (by omega) (by omega)) (Int32.not_le.mpr c42)
        · refine g_aload_n C (gd DX3_readName_0 24 rfl) 0 rfl rfl ?_
          refine g_getr (ci := 3) (k := 0) C rfl (by decide) rfl lf_TestJudge_Reader_12 hqg.1.1 hqg.1.2.1 (gd DX3_readName_0 25 rfl) ?_
          refine g_iload_n C (gd DX3_readName_0 26 rfl) 1 rfl rfl ?_
          refine g_bipush (v := 6) C (gd DX3_readName_0 27 rfl) (by decide) ?_
          refine g_isub C (gd DX3_readName_0 28 rfl) ?_
          rw [show nI (6 + k) - 6 = nI k from by rw [show nI (6 + k) - 6 = nI (6 + k - 6) from nx_sub rfl rfl (by omega)]; congr 1; omega]
          refine g_cV1 (ci := 8) C [_] mX8_piece lm_TestJudge_Reader_157 (by exact hqg.2.2.2.1.1) rfl rfl (e_w_piece hqg.2.2.2.1 n3 cng.2.1.2.2 hk p1) hfl (by first | decide | omega) (by decide) (by omega) (by omega) rfl rfl (Nat.le_of_ble_eq_true rfl) (gd DX3_readName_0 29 rfl) ?_
          exact g_aret C (by omega) (by omega) (mk g p _ _ fr cg er _ _ (hExt.rf g) rfl p2) (gd DX3_readName_0 30 rfl)
      | none =>
        have es : slN nt na np Wd (wdT tx n j) = none := by unfold slN; rw [a, b, d]
        have er : r = .inl (3, j) := by
          rw [← hr]; unfold nmOf; rw [a, b, d]
          show Sum.inl (if cdT tx n j = 1 then 1 else 3, j) = _
          rw [if_neg (by omega)]
        rw [es]
        show GW z w 2 _ 0 0 11 _ [.int (-1)] _
        refine g_istore_n (lv' := [(0, _), (1, _)]) C (gd DX3_readName_0 5 rfl) [1, 0] rfl (by decide) rfl ?_
        refine g_iload_n C (gd DX3_readName_0 6 rfl) 1 rfl rfl ?_
        refine g_iconst (v := -1) C (gd DX3_readName_0 7 rfl) (by decide) ?_
        refine g_icmp_ne C 32 (gd DX3_readName_0 8 rfl) (by decide) (fun c14 => ?_) (fun c14 => ?_)
        · exact absurd rfl c14
        · refine g_aload_n C (gd DX3_readName_0 9 rfl) 0 rfl rfl ?_
          refine g_iconst (v := 3) C (gd DX3_readName_0 10 rfl) (by decide) ?_
          refine g_cV0 (v := .null) (ci := 3) C [_] mX3_fail lm_TestJudge_Reader_55 (by exact hq.1.1) rfl rfl (e_r_fail hq ct h0 (k := 3) (by omega)) hfl (by first | decide | omega) (by decide) (by omega) (by omega) rfl rfl (Nat.le_of_ble_eq_true rfl) (gd DX3_readName_0 11 rfl) ?_
          rw [if_neg (c := cdT tx n j = 1 ∧ 3 ≠ 5) (by omega)]
          have bd := bdF.mk hq ct (k := 3) ⟨by omega, by omega⟩
          generalize sI (sI h U 1 (nI 3)) U 2 (nI (plT tx n j)) = g at bd ⊢
          refine g_new (ci := 2) C rfl lc_TestJudge_Reader_94 lI_TestJudge_Piece li_TestJudge_Piece (by decide) (by decide) (gd DX3_readName_0 12 rfl) (gdv2) ?_
          refine g_dup C (gd DX3_readName_0 13 rfl) rfl ?_
          refine g_iconst (v := 0) C (gd DX3_readName_0 14 rfl) (by decide) ?_
          refine g_iconst (v := 0) C (gd DX3_readName_0 15 rfl) (by decide) ?_
          refine g_cI C [_, _] mX2_init lm_TestJudge_Reader_116 (e_pc_init 0 (by omega) _) hfl (by first | decide | omega) (by decide) (by omega) (by omega) rfl rfl (Nat.le_of_ble_eq_true rfl) (gd DX3_readName_0 16 rfl) ?_
          obtain ⟨p, p1, p2, p3, p4, p5⟩ := pcF_mk (np := w.2.2.2) (h := g) 0
          rw [er]
          exact g_aret C (by omega) (by omega) ⟨bd.ext hq p3, p, 0, _, p1, p5, Nat.zero_le _⟩ (gd DX3_readName_0 17 rfl)
end R4
