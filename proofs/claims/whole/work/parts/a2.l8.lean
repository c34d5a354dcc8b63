/-! the class's Reader: readText -/
section L8
variable {w : gD} {U W T N : Nat} {h : HS} {tx : Nat → Nat} {n c j : Nat} {S : pS}
theorem e_r_names1 (L : cLn U W T N h tx n c j S) (hn : ¬ (S.1.2.2.1 = 0 ∧ S.1.2.2.2 = 0)) (x : Int32) : EvF w 3 0 0 yX3_readNames cX3_readNames 3 none [.ref U, .int x] h none (sI (sI h U 1 (nI (if cdT tx n j = 1 ∧ 2 ≠ 5 then 1 else 2))) U 2 (nI (plT tx n j))) := by
  have hq := L.1.1
  have ct := L.1.2.1
  have u5 : hI h U 5 = 1 := by rw [L.2.2.2.1, if_neg hn]
  have ee := e_r_fail (w := w) hq ct L.1.2.2.1 (k := 2) (by omega)
  generalize sI (sI h U 1 (nI (if cdT tx n j = 1 ∧ 2 ≠ 5 then 1 else 2))) U 2 (nI (plT tx n j)) = g at ee ⊢
  refine g_start (by decide) (Nat.le_of_ble_eq_true rfl) [(0, _), (1, _)] rfl (fun z hfl C => ?_)
  refine g_aload_n C (gd DX3_readNames_0 0 rfl) 0 rfl rfl ?_
  refine g_geti (ci := 3) (k := 5) C rfl (by decide) rfl lf_TestJudge_Reader_29 hq.1.1 (gd DX3_readNames_0 1 rfl) ?_
  rw [u5]
  refine g_if_eq C 13 (gd DX3_readNames_0 2 rfl) (by decide) (fun c4 => ?_) (fun c4 => ?_)
  · exact absurd c4 (by decide)
  refine g_aload_n C (gd DX3_readNames_0 3 rfl) 0 rfl rfl ?_
  refine g_iconst (v := 2) C (gd DX3_readNames_0 4 rfl) (by decide) ?_
  refine g_cV0 (v := .null) (ci := 3) C [_] mX3_fail lm_TestJudge_Reader_55 (by exact hq.1.1) rfl rfl ee hfl (by first | decide | omega) (by decide) (by omega) (by omega) rfl rfl (Nat.le_of_ble_eq_true rfl) (gd DX3_readNames_0 5 rfl) ?_
  exact g_vret C (by omega) (by omega) ⟨rfl, rfl⟩ (gd DX3_readNames_0 6 rfl)
theorem e_r_text (L : cLn U W T N h tx n c 0 pSz) {r : pLz} (hz : pTx tx n 502 0 pSz = some r) {K : Nat} (hKb : jL 0 r ≤ K) : Ev w 19 (5 * K) (61 * K) yX3_readText cX3_readText 2 none [.ref U] h (fun r' h' => r' = none ∧ lsC U W T N h tx n c r h') := by
  refine g_start (by decide) (Nat.le_of_ble_eq_true rfl) [(0, _)] rfl (fun z hfl C => ?_)
  have loop : ∀ y j1 f S1 g i, c ≤ j1 + y → j1 < c → i ≤ j1 → y < f → lF U W T N h g → cLn U W T N g tx n c j1 S1 → pTx tx n f j1 S1 = some r → GW z w 2 (gQ z w (5 * K) (61 * K) (fun r' h'' => r' = none ∧ lsC U W T N h tx n c r h'')) (5 * (4 * j1)) (61 * (4 * j1)) 2 [(0, .ref U), (1, .int (nI i))] [] g := by
    intro y
    induction y with
    | zero => intro j1 f S1 g i hy hj1; omega
    | succ y ih =>
      intro j1 f S1 g i hy hj1 hi hf fr L1 hz
      have hq1 := L1.1.1
      have ct1 := L1.1.2.1
      have h01 := L1.1.2.2.1
      obtain ⟨f, rfl⟩ : ∃ f', f = f' + 1 := ⟨f - 1, by omega⟩
      have c5 : c ≤ 501 := ct1.1.2.1.2
      have lt := cd_lt (tx := tx) (n := n) j1
      rw [pTx] at hz
      refine g_iload_n C (gd DX3_readText_0 2 rfl) 1 rfl rfl ?_
      refine g_aload_n C (gd DX3_readText_0 3 rfl) 0 rfl rfl ?_
      refine g_getr (ci := 3) (k := 3) C rfl (by decide) rfl lf_TestJudge_Reader_33 hq1.1.1 hq1.1.2.2.1 (gd DX3_readText_0 4 rfl) ?_
      refine g_geti (ci := 7) (k := 0) C rfl (by decide) rfl lf_TestJudge_Reader_37 hq1.2.2.1.1 (gd DX3_readText_0 5 rfl) ?_
      rw [ct1.1.1]
      refine g_icmp_gt C 121 (gd DX3_readText_0 6 rfl) (by decide) (fun c10 => ?_) (fun c10 => ?_)
      · exact absurd (by first | exact c10 | exact Int32.not_le.mp c10) (Int32.not_lt.mpr (nI_le (a := i) (b := c) (by omega) (by omega)))
      refine g_aload_n C (gd DX3_readText_0 7 rfl) 0 rfl rfl ?_
      refine g_geti (ci := 3) (k := 1) C rfl (by decide) rfl lf_TestJudge_Reader_18 hq1.1.1 (gd DX3_readText_0 8 rfl) ?_
      rw [h01]
      refine g_if_ne C 121 (gd DX3_readText_0 9 rfl) (by decide) (fun c17 => ?_) (fun c17 => ?_)
      · exact absurd rfl c17
      refine g_aload_n C (gd DX3_readText_0 10 rfl) 0 rfl rfl ?_
      refine g_getr (ci := 3) (k := 3) C rfl (by decide) rfl lf_TestJudge_Reader_33 hq1.1.1 hq1.1.2.2.1 (gd DX3_readText_0 11 rfl) ?_
      refine g_geti (ci := 7) (k := 1) C rfl (by decide) rfl lf_TestJudge_Reader_42 hq1.2.2.1.1 (gd DX3_readText_0 12 rfl) ?_
      rw [ct1.2.2.1]
      refine g_if_eq C 121 (gd DX3_readText_0 13 rfl) (by decide) (fun c27 => ?_) (fun c27 => ?_)
      · have e0 : cdT tx n j1 = 0 := (nI_eq (b := 0) (by omega) (by omega)).mp (by first | exact c27 | exact Decidable.of_not_not c27)
        rw [if_pos e0] at hz
        cases Option.some.inj hz
        have hK' : 4 * (j1 - 0) ≤ K := hKb
        exact g_vret C (by omega) (by omega) ⟨rfl, fr, L1⟩ (gd DX3_readText_0 37 rfl)
      have e0 : cdT tx n j1 ≠ 0 := fun q => c27 (by rw [q]; rfl)
      rw [if_neg e0] at hz
      have hj2 := ct1.hc j1 hj1 e0
      obtain ⟨r1, hr1, ok1⟩ := pLn_k ct1.hc c5 hj1 L1.2.2.2.2
      rw [hr1] at hz
      have bud : 4 * j1 + jL j1 r1 ≤ K := by
        rcases r1 with x | ⟨j2, S2⟩
        · have er : r = .inl x := (Option.some.inj (show some (Sum.inl x) = some r from hz)).symm
          rw [er] at hKb
          have h1 : 4 * (x.2 - 0) + 55 ≤ K := hKb
          have h2 := ok1.1
          show 4 * j1 + (4 * (x.2 - j1) + 55) ≤ K
          omega
        · obtain ⟨k1, k2, k3⟩ := ok1
          dsimp only at k1 k2 k3
          have hz2 : pTx tx n f j2 S2 = some r := hz
          obtain ⟨r2, hr2, ok2⟩ := pTx_k ct1.hc c5 f j2 S2 k2 (by omega) k3
          cases Option.some.inj (hz2.symm.trans hr2)
          show 4 * j1 + 4 * (j2 - j1) ≤ K
          rcases r with x | x
          · have h1 : 4 * (x.2 - 0) + 55 ≤ K := hKb
            have h2 : j2 ≤ x.2 := ok2.1
            omega
          · have h1 : 4 * (x.1 - 0) ≤ K := hKb
            have h2 : j2 ≤ x.1 := ok2.1
            omega
      have back : ∀ g2, lsC U W T N g tx n c r1 g2 → GW z w 2 (gQ z w (5 * K) (61 * K) (fun r' h'' => r' = none ∧ lsC U W T N h tx n c r h'')) (5 * (4 * j1) + 5 * jL j1 r1) (61 * (4 * j1) + 61 * jL j1 r1) 115 [(0, .ref U), (1, .int (nI i))] [] g2 := by
        intro g2 ls
        rcases r1 with x | ⟨j2, S2⟩
        · have er : r = .inl x := (Option.some.inj (show some (Sum.inl x) = some r from hz)).symm
          subst er
          have ls2 : bdL U W T N g g2 tx n c x.1 x.2 := ls
          have hqg := hq1.l ls2.1
          have rt := bdL.pre fr ls2
          have bud' : 4 * j1 + (4 * (x.2 - j1) + 55) ≤ K := bud
          have ej : jL j1 (.inl x) = 4 * (x.2 - j1) + 55 := rfl
          rw [ej]
          refine g_iinc (lv' := [(0, _), (1, _)]) C (gd DX3_readText_0 35 rfl) 1 [1, 0] rfl rfl (by decide) rfl ?_
          refine g_goto (tgt := 2) C (gd DX3_readText_0 36 rfl) (by decide) ?_
          refine g_iload_n C (gd DX3_readText_0 2 rfl) 1 rfl rfl ?_
          refine g_aload_n C (gd DX3_readText_0 3 rfl) 0 rfl rfl ?_
          refine g_getr (ci := 3) (k := 3) C rfl (by decide) rfl lf_TestJudge_Reader_33 hqg.1.1 hqg.1.2.2.1 (gd DX3_readText_0 4 rfl) ?_
          refine g_geti (ci := 7) (k := 0) C rfl (by decide) rfl lf_TestJudge_Reader_37 hqg.2.2.1.1 (gd DX3_readText_0 5 rfl) ?_
          refine g_icmp_gt C 121 (gd DX3_readText_0 6 rfl) (by decide) (fun c10 => ?_) (fun c10 => ?_)
          · exact g_vret C (by omega) (by omega) ⟨rfl, rt⟩ (gd DX3_readText_0 37 rfl)
          · refine g_aload_n C (gd DX3_readText_0 7 rfl) 0 rfl rfl ?_
            refine g_geti (ci := 3) (k := 1) C rfl (by decide) rfl lf_TestJudge_Reader_18 hqg.1.1 (gd DX3_readText_0 8 rfl) ?_
            refine g_if_ne C 121 (gd DX3_readText_0 9 rfl) (by decide) (fun c17 => ?_) (fun c17 => ?_)
            · exact g_vret C (by omega) (by omega) ⟨rfl, rt⟩ (gd DX3_readText_0 37 rfl)
            · exact absurd (by first | exact c17 | exact Decidable.of_not_not c17) ls2.2.2.2.2
        · obtain ⟨k1, k2, k3⟩ := ok1
          dsimp only at k1 k2 k3
          have ls2 : lF U W T N g g2 ∧ cLn U W T N g2 tx n c j2 S2 := ls
          have ej : jL j1 (.inr (j2, S2)) = 4 * (j2 - j1) := rfl
          rw [ej]
          have hqg := ls2.2.1.1
          refine g_iinc (lv' := [(0, _), (1, _)]) C (gd DX3_readText_0 35 rfl) 1 [1, 0] rfl rfl (by decide) rfl ?_
          refine g_goto (tgt := 2) C (gd DX3_readText_0 36 rfl) (by decide) ?_
          rw [inc1]
          exact GW.up (by omega) (by omega) (ih j2 f S2 g2 (i + 1) (by omega) k2 (by omega) (by omega) (fr.tr ls2.1) ls2.2 hz)
      refine g_aload_n C (gd DX3_readText_0 14 rfl) 0 rfl rfl ?_
      refine g_getr (ci := 3) (k := 3) C rfl (by decide) rfl lf_TestJudge_Reader_33 hq1.1.1 hq1.1.2.2.1 (gd DX3_readText_0 15 rfl) ?_
      refine g_geti (ci := 7) (k := 1) C rfl (by decide) rfl lf_TestJudge_Reader_42 hq1.2.2.1.1 (gd DX3_readText_0 16 rfl) ?_
      rw [ct1.2.2.1]
      unfold pLn at hr1
      by_cases el : cdT tx n j1 = 12468
      · rw [if_pos el] at hr1
        rw [el]
        refine g_lookup (off := 59) C 96 (gd DX3_readText_0 17 rfl) (by decide) (by decide) (by decide) ?_
        refine g_aload_n C (gd DX3_readText_0 26 rfl) 0 rfl rfl ?_
        refine g_callV (ci := 3) C [] mX3_readLet lm_TestJudge_Reader_49 (by exact hq1.1.1) rfl rfl (e_r_let L1 hj1 el hr1 (Nat.le_refl _)) hfl (by first | decide | omega) (by decide) (by omega) (by omega) rfl rfl (Nat.le_of_ble_eq_true rfl) (gd DX3_readText_0 27 rfl) (fun r g2 hp => ?_)
        obtain ⟨rfl, ls⟩ := hp
        show GW z w 2 _ _ _ _ _ [] _
        refine g_goto (tgt := 115) C (gd DX3_readText_0 28 rfl) (by decide) ?_
        exact back g2 ls
      rw [if_neg el] at hr1
      by_cases ez : cdT tx n j1 = 857679
      · rw [if_pos ez] at hr1
        rw [ez]
        refine g_lookup (off := 66) C 103 (gd DX3_readText_0 17 rfl) (by decide) (by decide) (by decide) ?_
        refine g_aload_n C (gd DX3_readText_0 29 rfl) 0 rfl rfl ?_
        refine g_callV (ci := 3) C [] mX3_readZero lm_TestJudge_Reader_52 (by exact hq1.1.1) rfl rfl (e_r_zero L1 hj1 ez hr1 (Nat.le_refl _)) hfl (by first | decide | omega) (by decide) (by omega) (by omega) rfl rfl (Nat.le_of_ble_eq_true rfl) (gd DX3_readText_0 30 rfl) (fun r g2 hp => ?_)
        obtain ⟨rfl, ls⟩ := hp
        show GW z w 2 _ _ _ _ _ [] _
        refine g_goto (tgt := 115) C (gd DX3_readText_0 31 rfl) (by decide) ?_
        exact back g2 ls
      rw [if_neg ez] at hr1
      by_cases en : (cdT tx n j1 = 21155475 ∨ cdT tx n j1 = 36499) ∧ S1.1.2.2.1 = 0 ∧ S1.1.2.2.2 = 0
      · rw [if_pos en] at hr1
        by_cases et : cdT tx n j1 = 21155475
        · rw [decide_eq_true et] at hr1
          have enm : Ev w 3 0 0 yX3_readNames cX3_readNames 3 none [.ref U, .int 1] g _ := e_r_names true L1 en.2.1 en.2.2 hj2
          rw [et]
          refine g_lookup (off := 43) C 80 (gd DX3_readText_0 17 rfl) (by decide) (by decide) (by decide) ?_
          refine g_aload_n C (gd DX3_readText_0 18 rfl) 0 rfl rfl ?_
          refine g_iconst (v := 1) C (gd DX3_readText_0 19 rfl) (by decide) ?_
          refine g_callV (ci := 3) C [_] mX3_readNames lm_TestJudge_Reader_45 (by exact hq1.1.1) rfl rfl enm hfl (by first | decide | omega) (by decide) (by omega) (by omega) rfl rfl (Nat.le_of_ble_eq_true rfl) (gd DX3_readText_0 20 rfl) (fun r g2 hp => ?_)
          obtain ⟨rfl, r2, er2, ls⟩ := hp
          cases Option.some.inj (hr1.symm.trans er2)
          show GW z w 2 _ _ _ _ _ [] _
          refine g_goto (tgt := 115) C (gd DX3_readText_0 21 rfl) (by decide) ?_
          exact GW.up (by omega) (by omega) (back g2 ls)
        · have ea : cdT tx n j1 = 36499 := by rcases en.1 with q | q; exact absurd q et; exact q
          rw [decide_eq_false et] at hr1
          have enm : Ev w 3 0 0 yX3_readNames cX3_readNames 3 none [.ref U, .int 0] g _ := e_r_names false L1 en.2.1 en.2.2 hj2
          rw [ea]
          refine g_lookup (off := 51) C 88 (gd DX3_readText_0 17 rfl) (by decide) (by decide) (by decide) ?_
          refine g_aload_n C (gd DX3_readText_0 22 rfl) 0 rfl rfl ?_
          refine g_iconst (v := 0) C (gd DX3_readText_0 23 rfl) (by decide) ?_
          refine g_callV (ci := 3) C [_] mX3_readNames lm_TestJudge_Reader_45 (by exact hq1.1.1) rfl rfl enm hfl (by first | decide | omega) (by decide) (by omega) (by omega) rfl rfl (Nat.le_of_ble_eq_true rfl) (gd DX3_readText_0 24 rfl) (fun r g2 hp => ?_)
          obtain ⟨rfl, r2, er2, ls⟩ := hp
          cases Option.some.inj (hr1.symm.trans er2)
          show GW z w 2 _ _ _ _ _ [] _
          refine g_goto (tgt := 115) C (gd DX3_readText_0 25 rfl) (by decide) ?_
          exact GW.up (by omega) (by omega) (back g2 ls)
      rw [if_neg en] at hr1
      have bk := back (sI (sI g U 1 (nI (if cdT tx n j1 = 1 ∧ 2 ≠ 5 then 1 else 2))) U 2 (nI (plT tx n j1))) (by cases Option.some.inj hr1; exact lsC.f2 hq1 ct1 ⟨by omega, by omega⟩ (by omega))
      by_cases et : cdT tx n j1 = 21155475
      · have hn : ¬ (S1.1.2.2.1 = 0 ∧ S1.1.2.2.2 = 0) := fun q => en ⟨Or.inl et, q⟩
        have enm := e_r_names1 (w := w) L1 hn 1
        rw [et] at enm bk ⊢
        refine g_lookup (off := 43) C 80 (gd DX3_readText_0 17 rfl) (by decide) (by decide) (by decide) ?_
        refine g_aload_n C (gd DX3_readText_0 18 rfl) 0 rfl rfl ?_
        refine g_iconst (v := 1) C (gd DX3_readText_0 19 rfl) (by decide) ?_
        refine g_cV0 (v := .null) (ci := 3) C [_] mX3_readNames lm_TestJudge_Reader_45 (by exact hq1.1.1) rfl rfl enm hfl (by first | decide | omega) (by decide) (by omega) (by omega) rfl rfl (Nat.le_of_ble_eq_true rfl) (gd DX3_readText_0 20 rfl) ?_
        refine g_goto (tgt := 115) C (gd DX3_readText_0 21 rfl) (by decide) ?_
        exact GW.up (by omega) (by omega) bk
      by_cases ea : cdT tx n j1 = 36499
      · have hn : ¬ (S1.1.2.2.1 = 0 ∧ S1.1.2.2.2 = 0) := fun q => en ⟨Or.inr ea, q⟩
        have enm := e_r_names1 (w := w) L1 hn 0
        rw [ea] at enm bk ⊢
        refine g_lookup (off := 51) C 88 (gd DX3_readText_0 17 rfl) (by decide) (by decide) (by decide) ?_
        refine g_aload_n C (gd DX3_readText_0 22 rfl) 0 rfl rfl ?_
        refine g_iconst (v := 0) C (gd DX3_readText_0 23 rfl) (by decide) ?_
        refine g_cV0 (v := .null) (ci := 3) C [_] mX3_readNames lm_TestJudge_Reader_45 (by exact hq1.1.1) rfl rfl enm hfl (by first | decide | omega) (by decide) (by omega) (by omega) rfl rfl (Nat.le_of_ble_eq_true rfl) (gd DX3_readText_0 24 rfl) ?_
        refine g_goto (tgt := 115) C (gd DX3_readText_0 25 rfl) (by decide) ?_
        exact GW.up (by omega) (by omega) bk
      refine g_lookup (off := 73) C 110 (gd DX3_readText_0 17 rfl) (by decide) ?_ (by decide) ?_
      · rw [nI_toInt (by omega)]
        simp only [Op.lookupswitch.offset_cons, Op.lookupswitch.offset_nil]
        rw [if_neg (by omega), if_neg (by omega), if_neg (by omega), if_neg (by omega)]
      · refine g_aload_n C (gd DX3_readText_0 32 rfl) 0 rfl rfl ?_
        refine g_iconst (v := 2) C (gd DX3_readText_0 33 rfl) (by decide) ?_
        refine g_cV0 (v := .null) (ci := 3) C [_] mX3_fail lm_TestJudge_Reader_55 (by exact hq1.1.1) rfl rfl (e_r_fail hq1 ct1 h01 (k := 2) (by omega)) hfl (by first | decide | omega) (by decide) (by omega) (by omega) rfl rfl (Nat.le_of_ble_eq_true rfl) (gd DX3_readText_0 34 rfl) ?_
        exact GW.up (by omega) (by omega) bk
  have hj0 : 0 < c := L.1.2.1.1.2.1.1
  have c5 : c ≤ 501 := L.1.2.1.1.2.1.2
  refine g_iconst (v := 0) C (gd DX3_readText_0 0 rfl) (by decide) ?_
  refine g_istore_n (lv' := [(0, _), (1, _)]) C (gd DX3_readText_0 1 rfl) [1, 0] rfl (by decide) rfl ?_
  exact loop c 0 502 pSz h 0 (by omega) hj0 (by omega) (by omega) (lF.rf U W T N h) L hz
end L8
