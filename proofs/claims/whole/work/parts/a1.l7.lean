/-! the class's Reader: readZero -/
section L7
variable {w : gD} {U W T N : Nat} {h : HS} {tx : Nat → Nat} {n c j : Nat} {S : pS}
theorem fsum_P {FR : Nat → pR} : ∀ k, fsum (fun f => (FR f).1) k = fsP FR k
  | 0 => rfl
  | k + 1 => by rw [fsum, fsP, fsum_P k]
theorem e_r_zero (L : cLn U W T N h tx n c j S) (hj : j < c) (ed : cdT tx n j = 857679) {r : pLz} (hz : pZer tx n j S = some r) {K : Nat} (hKb : jL j r ≤ K) : Ev w 18 (5 * K) (61 * K) yX3_readZero cX3_readZero 2 none [.ref U] h (fun r' h' => r' = none ∧ lsC U W T N h tx n c r h') := by
  refine g_start (by decide) (Nat.le_of_ble_eq_true rfl) [(0, _)] rfl (fun z hfl C => ?_)
  have hq := L.1.1
  have ct := L.1.2.1
  have h0 := L.1.2.2.1
  have c5 : c ≤ 501 := ct.1.2.1.2
  have hj1 : j + 1 < c := ct.hc j hj (by omega)
  obtain ⟨n1, n2⟩ := L.2.1
  obtain ⟨⟨-, -, -, m4⟩, -, -, m5, m6⟩ := L.2.2.2.2
  unfold pZer at hz
  refine g_aload_n C (gd DX3_readZero_0 0 rfl) 0 rfl rfl ?_
  refine g_getr (ci := 3) (k := 0) C rfl (by decide) rfl lf_TestJudge_Reader_12 hq.1.1 hq.1.2.1 (gd DX3_readZero_0 1 rfl) ?_
  refine g_geti (ci := 8) (k := 3) C rfl (by decide) rfl lf_TestJudge_Reader_102 hq.2.2.2.1.1 (gd DX3_readZero_0 2 rfl) ?_
  rw [n1]
  refine g_iconst (v := 2) C (gd DX3_readZero_0 3 rfl) (by decide) ?_
  refine g_icmp_lt C 17 (gd DX3_readZero_0 4 rfl) (by decide) (fun c8 => ?_) (fun c8 => ?_)
  rotate_left
  · have e8 : S.1.2.2.2 = 2 := by
      by_cases q : S.1.2.2.2 = 2
      · exact q
      · exact absurd c8 (fun q2 => q2 (nI_lt (a := S.1.2.2.2) (b := 2) (by omega) (by omega)))
    rw [if_pos e8] at hz
    cases Option.some.inj hz
    refine g_aload_n C (gd DX3_readZero_0 5 rfl) 0 rfl rfl ?_
    refine g_iconst (v := 4) C (gd DX3_readZero_0 6 rfl) (by decide) ?_
    refine g_cV0 (v := .null) (ci := 3) C [_] mX3_fail lm_TestJudge_Reader_55 (by exact hq.1.1) rfl rfl (e_r_fail hq ct h0 (k := 4) (by omega)) hfl (by first | decide | omega) (by decide) (by omega) (by omega) rfl rfl (Nat.le_of_ble_eq_true rfl) (gd DX3_readZero_0 7 rfl) ?_
    exact g_vret C (by omega) (by omega) ⟨rfl, lsC.f2 hq ct ⟨by omega, by omega⟩ (by omega)⟩ (gd DX3_readZero_0 8 rfl)
  have e8 : S.1.2.2.2 ≠ 2 := fun q => by rw [q] at c8; exact absurd c8 (by decide)
  rw [if_neg e8] at hz
  obtain ⟨fr1, L1⟩ := L.close
  have hq1 := L1.1.1
  refine g_aload_n C (gd DX3_readZero_0 9 rfl) 0 rfl rfl ?_
  refine g_iconst (v := 1) C (gd DX3_readZero_0 10 rfl) (by decide) ?_
  refine g_putz (ci := 3) (k := 5) C rfl (by decide) rfl lf_TestJudge_Reader_29 hq1.1.1 (Or.inl rfl) rfl (by decide) (gd DX3_readZero_0 11 rfl) ?_
  refine g_aload_n C (gd DX3_readZero_0 12 rfl) 0 rfl rfl ?_
  refine g_getr (ci := 3) (k := 3) C rfl (by decide) rfl lf_TestJudge_Reader_33 hq1.1.1 hq1.1.2.2.1 (gd DX3_readZero_0 13 rfl) ?_
  refine g_callV (ci := 7) C [] mX7_advance lm_TestJudge_Reader_60 (by exact hq1.2.2.1.1) rfl rfl (e_k_adv hq1.2.2.1 L1.1.2.1 hj1) hfl (by first | decide | omega) (by decide) (by omega) (by omega) rfl rfl (Nat.le_of_ble_eq_true rfl) (gd DX3_readZero_0 14 rfl) (fun r g2 hp => ?_)
  obtain ⟨rfl, a1, a2⟩ := hp
  show GW z w 2 _ _ _ _ _ [] _
  have L2 := L1.t a1 a2
  have fr2 := fr1.tr (a1.l (U := U) (W := W) (N := N))
  have hq2 := L2.1.1
  obtain ⟨r0, hr0, okr⟩ := pz_tot (E := envT tx n S.1.1 S.1.2.1 S.1.2.2.1 S.2.1 S.2.2.1) ct.hc L.1.2.2.2.nm 5000 4 0 (j + 1) (0, rPlain 0) (by omega) hj1 (show 8 * (c - (j + 1)) + 3 < 5000 by omega) (fun q => by omega)
  rw [hr0] at hz
  refine g_aload_n C (gd DX3_readZero_0 15 rfl) 0 rfl rfl ?_
  refine g_iconst (v := 0) C (gd DX3_readZero_0 16 rfl) (by decide) ?_
  rcases r0 with x | ⟨j1, a⟩
  · have er : r = .inl x := (Option.some.inj (show some (Sum.inl x) = some r from hz)).symm
    subst er
    have hK' : 4 * (x.2 - j) + 55 ≤ K := hKb
    refine g_callV (ci := 3) C [_] mX3_readSum lm_TestJudge_Reader_89 (by exact hq2.1.1) rfl rfl ((rc_all 5000).2 5000 (Nat.le_refl _) g2 0 (j + 1) (0, rPlain 0) (.inl x) K L2.1 (by omega) hj1 (by omega) hr0 (show 4 * (x.2 - (j + 1)) + 7 + 12 * (4 - 0) ≤ K by omega)) hfl (by first | decide | omega) (by decide) (by omega) (by omega) rfl rfl (Nat.le_of_ble_eq_true rfl) (gd DX3_readZero_0 17 rfl) (fun r g3 hp => ?_)
    obtain ⟨bd, p, m, R, rfl, pw, -⟩ := hp
    show GW z w 2 _ _ _ _ _ [.ref p] _
    have ls : lsC U W T N g2 tx n c (.inl x) g3 := bd.l
    have hq3 := hq2.q bd.1
    have f3 : hI g3 W 3 = nI S.1.2.2.2 ∧ ∀ k, k < S.1.2.2.2 → ∃ a, hR g3 (W + 3) k = some a ∧ pcW g3 a (S.2.2.2 k).1 (S.2.2.2 k).2 := by
      obtain ⟨-, ⟨f1, f2⟩, -⟩ := L2
      have e := bd.1.2
      obtain ⟨⟨q1, -⟩, -, ⟨q3, -⟩, ⟨q4, -⟩, l1, l2, l3, l4⟩ := id hq2
      refine ⟨((e W (by omega)).2 3 (fun x => by omega) (fun x => by rw [x.1, q3] at q4; exact absurd q4 (by decide))).trans f1, fun i hi => ?_⟩
      obtain ⟨b, b1, b2, -⟩ := f2 i hi
      exact ⟨b, by rw [(e (W + 3) (by omega)).1.2.1]; exact b1, b2.q q1 q3 bd.1⟩
    refine g_astore_n (lv' := [(0, _), (1, _)]) C (gd DX3_readZero_0 18 rfl) [1, 0] rfl (by decide) rfl ?_
    refine g_aload_n C (gd DX3_readZero_0 19 rfl) 0 rfl rfl ?_
    refine g_aload_n C (gd DX3_readZero_0 20 rfl) 0 rfl rfl ?_
    refine g_getr (ci := 3) (k := 0) C rfl (by decide) rfl lf_TestJudge_Reader_12 hq3.1.1 hq3.1.2.1 (gd DX3_readZero_0 21 rfl) ?_
    refine g_cV1 (ci := 8) C [] mX8_factWeight lm_TestJudge_Reader_105 (by exact hq3.2.2.2.1.1) rfl rfl (e_w_factWeight hq3.2.2.2.1 (nf := S.1.2.2.2) m4 f3.1 (fw := fun f => (S.2.2.2 f).1) (fun f hf => by obtain ⟨b, b1, b2⟩ := f3.2 f hf; exact ⟨b, b1, b2.2.2.1.1.1, b2.1.1⟩)) hfl (by first | decide | omega) (by decide) (by omega) (by omega) rfl rfl (Nat.le_of_ble_eq_true rfl) (gd DX3_readZero_0 22 rfl) ?_
    refine g_aload_n C (gd DX3_readZero_0 23 rfl) 1 rfl rfl ?_
    refine g_geti (ci := 2) (k := 0) C rfl (by decide) rfl lf_TestJudge_Reader_93 pw.2.2.1.1.1 (gd DX3_readZero_0 24 rfl) ?_
    refine g_iadd C (gd DX3_readZero_0 25 rfl) ?_
    refine g_iconst (v := 2) C (gd DX3_readZero_0 26 rfl) (by decide) ?_
    refine g_cV0 (v := .null) (ci := 3) C [_, _] mX3_endLine lm_TestJudge_Reader_66 (by exact hq3.1.1) rfl rfl (e_r_endLine1 hq3 bd.2.2.2.2 _ _) hfl (by first | decide | omega) (by decide) (by omega) (by omega) rfl rfl (Nat.le_of_ble_eq_true rfl) (gd DX3_readZero_0 27 rfl) ?_
    refine g_aload_n C (gd DX3_readZero_0 28 rfl) 0 rfl rfl ?_
    refine g_geti (ci := 3) (k := 1) C rfl (by decide) rfl lf_TestJudge_Reader_18 hq3.1.1 (gd DX3_readZero_0 29 rfl) ?_
    refine g_if_ne C 67 (gd DX3_readZero_0 30 rfl) (by decide) (fun c56 => ?_) (fun c56 => ?_)
    · exact g_vret C (by omega) (by omega) ⟨rfl, lsC.pre fr2 ls⟩ (gd DX3_readZero_0 35 rfl)
    · exact absurd (by first | exact c56 | exact Decidable.of_not_not c56) bd.2.2.2.2
  · obtain ⟨x1, x2, x3, x4, x5⟩ := okr
    dsimp only at x1 x2 x4
    change (if cdT tx n j1 ≠ 59 then some (pBl (cdT tx n) 2 j1) else if 2 < fsP S.2.2.2 S.1.2.2.2 + a.1 then some (.inl (5, j1)) else some (.inr (j1 + 1, ((S.1.1, S.1.2.1, S.1.2.2.1, S.1.2.2.2 + 1), S.2.1, S.2.2.1, updA S.2.2.2 S.1.2.2.2 a)))) = some r at hz
    have hK' : 4 * (j1 - (j + 1)) + 3 ≤ K := by
      have hK2 := hKb
      by_cases e59 : cdT tx n j1 = 59
      · rw [if_neg (fun q => q e59)] at hz
        by_cases e5 : 2 < fsP S.2.2.2 S.1.2.2.2 + a.1
        · rw [if_pos e5] at hz
          cases Option.some.inj hz
          have : 4 * (j1 - j) + 55 ≤ K := hK2
          omega
        · rw [if_neg e5] at hz
          cases Option.some.inj hz
          have : 4 * (j1 + 1 - j) ≤ K := hK2
          omega
      · rw [if_pos e59] at hz
        cases Option.some.inj hz
        have : 4 * (j1 - j) + 55 ≤ K := hK2
        omega
    refine g_callV (ci := 3) C [_] mX3_readSum lm_TestJudge_Reader_89 (by exact hq2.1.1) rfl rfl (rc_top 5000 g2 0 (j + 1) (0, rPlain 0) (.inr (j1, a)) K L2.1 (by omega) hj1 (by omega) hr0 (show 4 * (j1 - (j + 1)) + 3 ≤ K by omega)) hfl (by first | decide | omega) (by decide) (by omega) (by omega) rfl rfl (Nat.le_of_ble_eq_true rfl) (gd DX3_readZero_0 17 rfl) (fun r g5 hp => ?_)
    obtain ⟨⟨qf, ct5, f05, p, rfl, pw⟩, fs⟩ := hp
    have lp : W + 5 < p := by
      obtain ⟨_, e', lp⟩ := fs _ rfl
      cases e'
      have := hq2.2.2.2.2.2.2.1
      omega
    dsimp only at ct5 pw
    show GW z w 2 _ _ _ _ _ [.ref p] _
    have L5 := L2.q qf ct5 f05
    have fr5 := fr2.tr (qf.l (W := W) (N := N))
    have hq5 := L5.1.1
    have lta : a.1 < 2 ^ 30 := by rw [if_neg (by omega)] at x5; dsimp only at x5; omega
    refine g_astore_n (lv' := [(0, _), (1, _)]) C (gd DX3_readZero_0 18 rfl) [1, 0] rfl (by decide) rfl ?_
    refine g_aload_n C (gd DX3_readZero_0 19 rfl) 0 rfl rfl ?_
    refine g_aload_n C (gd DX3_readZero_0 20 rfl) 0 rfl rfl ?_
    refine g_getr (ci := 3) (k := 0) C rfl (by decide) rfl lf_TestJudge_Reader_12 hq5.1.1 hq5.1.2.1 (gd DX3_readZero_0 21 rfl) ?_
    refine g_cV1 (ci := 8) C [] mX8_factWeight lm_TestJudge_Reader_105 (by exact hq5.2.2.2.1.1) rfl rfl (e_w_factWeight hq5.2.2.2.1 (nf := S.1.2.2.2) m4 L5.2.1.1 (fw := fun f => (S.2.2.2 f).1) (fun f hf => by obtain ⟨b, b1, b2, -⟩ := L5.2.1.2 f hf; exact ⟨b, b1, b2.2.2.1.1.1, b2.1.1⟩)) hfl (by first | decide | omega) (by decide) (by omega) (by omega) rfl rfl (Nat.le_of_ble_eq_true rfl) (gd DX3_readZero_0 22 rfl) ?_
    refine g_aload_n C (gd DX3_readZero_0 23 rfl) 1 rfl rfl ?_
    refine g_geti (ci := 2) (k := 0) C rfl (by decide) rfl lf_TestJudge_Reader_93 pw.2.2.1.1.1 (gd DX3_readZero_0 24 rfl) ?_
    rw [pw.1.1, fsum_P]
    refine g_iadd C (gd DX3_readZero_0 25 rfl) ?_
    rw [show nI (fsP S.2.2.2 S.1.2.2.2) + nI a.1 = nI (fsP S.2.2.2 S.1.2.2.2 + a.1) from nx_add rfl rfl]
    refine g_iconst (v := 2) C (gd DX3_readZero_0 26 rfl) (by decide) ?_
    refine g_callV (ci := 3) C [_, _] mX3_endLine lm_TestJudge_Reader_66 (by exact hq5.1.1) rfl rfl (e_r_endLine hq5 ct5 f05 (fun q => ct.hc j1 x2 q) (nI (fsP S.2.2.2 S.1.2.2.2 + a.1)) 2) hfl (by first | decide | omega) (by decide) (by omega) (by omega) rfl rfl (Nat.le_of_ble_eq_true rfl) (gd DX3_readZero_0 27 rfl) (fun r g6 hp => ?_)
    obtain ⟨rfl, hp⟩ := hp
    show GW z w 2 _ _ _ _ _ [] _
    rcases hp with ⟨e59, e5, rfl⟩ | ⟨e59, e5, s1, s2⟩ | ⟨e59, rfl⟩
    · have e5' : 2 < fsP S.2.2.2 S.1.2.2.2 + a.1 := (nI_ltI (a := 2) (by omega) (by omega)).mp e5
      rw [if_neg (fun q => q e59), if_pos e5'] at hz
      cases Option.some.inj hz
      have ls := lsC.bd (W := W) (N := N) hq5 ct5 (k := 5) ⟨by omega, by omega⟩
      have ne : hI (sI (sI g5 U 1 (nI 5)) U 2 (nI (plT tx n j1))) U 1 ≠ 0 := ls.2.2.2.2
      refine g_aload_n C (gd DX3_readZero_0 28 rfl) 0 rfl rfl ?_
      refine g_geti (ci := 3) (k := 1) C rfl (by decide) rfl lf_TestJudge_Reader_18 hq5.1.1 (gd DX3_readZero_0 29 rfl) ?_
      refine g_if_ne C 67 (gd DX3_readZero_0 30 rfl) (by decide) (fun c56 => ?_) (fun c56 => ?_)
      · exact g_vret C (by omega) (by omega) ⟨rfl, lsC.pre fr5 ls⟩ (gd DX3_readZero_0 35 rfl)
      · exact absurd (by first | exact c56 | exact Decidable.of_not_not c56) ne
    · have e5' : ¬ 2 < fsP S.2.2.2 S.1.2.2.2 + a.1 := fun q => e5 ((nI_ltI (a := 2) (by omega) (by omega)).mpr q)
      rw [if_neg (fun q => q e59), if_neg e5'] at hz
      cases Option.some.inj hz
      have L6 := L5.t s1 s2
      have fr6 := fr5.tr (s1.l (U := U) (W := W) (N := N))
      have pw6 := pw.q hq5.1.1 hq5.2.2.1.1 (s1.q (U := U))
      have hq6 := L6.1.1
      have f06 := L6.1.2.2.1
      refine g_aload_n C (gd DX3_readZero_0 28 rfl) 0 rfl rfl ?_
      refine g_geti (ci := 3) (k := 1) C rfl (by decide) rfl lf_TestJudge_Reader_18 hq6.1.1 (gd DX3_readZero_0 29 rfl) ?_
      rw [f06]
      refine g_if_ne C 67 (gd DX3_readZero_0 30 rfl) (by decide) (fun c56 => ?_) (fun c56 => ?_)
      · exact absurd rfl c56
      refine g_aload_n C (gd DX3_readZero_0 31 rfl) 0 rfl rfl ?_
      refine g_getr (ci := 3) (k := 0) C rfl (by decide) rfl lf_TestJudge_Reader_12 hq6.1.1 hq6.1.2.1 (gd DX3_readZero_0 32 rfl) ?_
      refine g_aload_n C (gd DX3_readZero_0 33 rfl) 1 rfl rfl ?_
      refine g_cV0 (v := .null) (ci := 8) C [_] mX8_tellFact lm_TestJudge_Reader_109 (by exact hq6.2.2.2.1.1) rfl rfl (e_w_tellFact hq6.2.2.2.1 (nf := S.1.2.2.2) (by omega) L6.2.1.1 pw6.2.2.1.1.1) hfl (by first | decide | omega) (by decide) (by omega) (by omega) rfl rfl (Nat.le_of_ble_eq_true rfl) (gd DX3_readZero_0 34 rfl) ?_
      obtain ⟨v1, v2⟩ := cLm.fct L6 (show S.1.2.2.2 < 2 by omega) pw6 lp (by omega) x4
      exact g_vret C (by omega) (by omega) ⟨rfl, fr6.tr v1, v2⟩ (gd DX3_readZero_0 35 rfl)
    · rw [if_pos e59] at hz
      cases Option.some.inj hz
      have ls := lsC.f1 (W := W) (N := N) (k := 2) hq5 ct5 ⟨by omega, by omega⟩
      have ne := lsC.ne ls
      refine g_aload_n C (gd DX3_readZero_0 28 rfl) 0 rfl rfl ?_
      refine g_geti (ci := 3) (k := 1) C rfl (by decide) rfl lf_TestJudge_Reader_18 hq5.1.1 (gd DX3_readZero_0 29 rfl) ?_
      refine g_if_ne C 67 (gd DX3_readZero_0 30 rfl) (by decide) (fun c56 => ?_) (fun c56 => ?_)
      · exact g_vret C (by omega) (by omega) ⟨rfl, lsC.pre fr5 ls⟩ (gd DX3_readZero_0 35 rfl)
      · exact absurd (by first | exact c56 | exact Decidable.of_not_not c56) ne
end L7
