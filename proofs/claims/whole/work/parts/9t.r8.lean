/-! the class's Reader: readBase -/
theorem rsC.pre {U T : Nat} {h0 h : HS} {tx : Nat → Nat} {n c j j1 : Nat} {r : pRz} {r' : Option Value} {h' : HS} (a : qF U T h0 h) (hj : j ≤ j1) (b : rsC U T h tx n c j1 r r' h') : rsC U T h0 tx n c j r r' h' := by
  rcases r with x | x
  · obtain ⟨b1, p, m, R, e, w, l⟩ := b
    exact ⟨bdF.pre a b1, p, m, R, e, w, by omega⟩
  · obtain ⟨b1, b2⟩ := b
    exact ⟨a.tr b1, b2⟩
section R8
variable {w : gD} {U W T N : Nat} {tx : Nat → Nat} {n c nt na np : Nat} {Wd : Nat → Nat} {PR : Nat → pR}
theorem rc_base {F : Nat} (hB : cCB w U W T N tx n c nt na np Wd PR F) (hS : cCS w U W T N tx n c nt na np Wd PR F) : cCB w U W T N tx n c nt na np Wd PR (F + 1) := by
  intro h o j acc r K s ho hj hF hz hK
  refine g_start (by decide) (Nat.le_of_ble_eq_true rfl) [(0, _), (1, _)] rfl (fun z hfl C => ?_)
  have hc := s.2.1.hc
  have c5 : c ≤ 501 := s.2.1.1.2.1.2
  have hU := s.1.ne
  have lt := cd_lt (tx := tx) (n := n) j
  have k40bad : ∀ k, k ≠ 0 ∧ k < 10 → r = .inl (k, j) → GW z w 4 (gQ z w (5 * K) (61 * K) (fun r' h'' => rsC U T h tx n c j r r' h'')) 0 0 40 [(0, .ref U), (1, .int (nI o)), (2, .int (nI (cdT tx n j)))] [] (sI (sI h U 1 (nI k)) U 2 (nI (plT tx n j))) := by
    intro k hk er
    have K1 : 1 ≤ K := by
      rw [er] at hK
      have h1 : 4 * (j - j) + 1 + 12 * (4 - o) ≤ K := hK
      omega
    have bd := bdF.mk s.1 s.2.1 hk
    generalize sI (sI h U 1 (nI k)) U 2 (nI (plT tx n j)) = g at bd ⊢
    have hq := s.1.q bd.1
    refine g_aload_n C (gd DX3_readBase_0 20 rfl) 0 rfl rfl ?_
    refine g_geti (ci := 3) (k := 1) C rfl (by decide) rfl lf_TestJudge_Reader_18 hq.1.1 (gd DX3_readBase_0 21 rfl) ?_
    refine g_if_eq C 57 (gd DX3_readBase_0 22 rfl) (by decide) (fun c44 => ?_) (fun c44 => ?_)
    · exact absurd (by first | exact c44 | exact Decidable.of_not_not c44) bd.2.2.2.2
    · refine g_new (ci := 2) C rfl lc_TestJudge_Reader_94 lI_TestJudge_Piece li_TestJudge_Piece (by omega) (by omega) (gd DX3_readBase_0 23 rfl) (gdv2) ?_
      refine g_dup C (gd DX3_readBase_0 24 rfl) rfl ?_
      refine g_iconst (v := 0) C (gd DX3_readBase_0 25 rfl) (by decide) ?_
      refine g_iconst (v := 0) C (gd DX3_readBase_0 26 rfl) (by decide) ?_
      refine g_cI C [_, _] mX2_init lm_TestJudge_Reader_116 (e_pc_init 0 (by omega) _) hfl (by first | decide | omega) (by decide) (by omega) (by omega) rfl rfl (Nat.le_of_ble_eq_true rfl) (gd DX3_readBase_0 27 rfl) ?_
      obtain ⟨p, p1, p2, p3, p4, p5⟩ := pcF_mk (np := w.2.2.2) (h := g) 0
      rw [er]
      exact g_aret C (by omega) (by omega) ⟨bd.ext s.1 p3, p, 0, _, p1, p5, Nat.zero_le _⟩ (gd DX3_readBase_0 28 rfl)
  have k57 : pBeg (cdT tx n j) → ¬ (pOpn (cdT tx n j) ∧ o = 4) → GW z w 4 (gQ z w (5 * K) (61 * K) (fun r' h'' => rsC U T h tx n c j r r' h'')) 0 0 57 [(0, .ref U), (1, .int (nI o)), (2, .int (nI (cdT tx n j)))] [] h := by
    intro hb ho4
    have cd0 : cdT tx n j ≠ 0 := by rcases hb with q | q | q | q | q | q | q <;> omega
    have hj1 := hc j hj cd0
    by_cases e2 : cdT tx n j = 2
    · rw [pz_nm (E := envT tx n nt na np Wd PR) e2] at hz
      change (match nmOf nt na np Wd PR (wdT tx n j) with | none => some (pBad (envT tx n nt na np Wd PR) 3 j) | some a => some (.inr (j + 1, a))) = some r at hz
      have hE : Ev w 3 5 61 yX3_readName cX3_readName 2 (some (.object RX2)) [.ref U] h (rsC U T h tx n c j r) ∧ 1 ≤ K := by
        have h1 := e_r_readName (w := w) s.1 s.2.1 s.2.2.1 s.2.2.2 e2 hj1
        revert h1 hz
        cases nmOf nt na np Wd PR (wdT tx n j) with
        | none =>
          intro hz h1
          have er := (Option.some.inj hz).symm
          rw [er]
          refine ⟨h1, ?_⟩
          rw [er] at hK
          have h1 : 4 * (j - j) + 1 + 12 * (4 - o) ≤ K := hK
          omega
        | some a =>
          intro hz h1
          have er := (Option.some.inj hz).symm
          rw [er]
          refine ⟨h1, ?_⟩
          rw [er] at hK
          have h1 : 4 * (j + 1 - j) - 1 ≤ K := hK
          omega
      obtain ⟨hE, K1⟩ := hE
      refine g_iload_n C (gd DX3_readBase_0 29 rfl) 2 rfl rfl ?_
      refine g_iconst (v := 2) C (gd DX3_readBase_0 30 rfl) (by decide) ?_
      refine g_icmp_ne C 67 (gd DX3_readBase_0 31 rfl) (by decide) (fun c59 => ?_) (fun c59 => ?_)
      · exact absurd (by rw [e2]; rfl) c59
      · refine g_aload_n C (gd DX3_readBase_0 32 rfl) 0 rfl rfl ?_
        have retn : ∀ rr g2, rsC U T h tx n c j r rr g2 → GW z w 4 (gQ z w (5 * K) (61 * K) (fun r' h'' => rsC U T h tx n c j r r' h'')) 5 61 66 [(0, .ref U), (1, .int (nI o)), (2, .int (nI (cdT tx n j)))] rr.toList g2 := by
          intro rr g2 q
          have q2 := q
          rcases r with x | x
          · obtain ⟨b, p, m, R, rfl, pw⟩ := q2
            exact g_aret C (by omega) (by omega) q (gd DX3_readBase_0 34 rfl)
          · obtain ⟨b, ct, f, p, rfl, pw⟩ := q2
            exact g_aret C (by omega) (by omega) q (gd DX3_readBase_0 34 rfl)
        refine g_callV (ci := 3) C [] mX3_readName lm_TestJudge_Reader_144 (by exact s.1.1.1) rfl rfl hE hfl (by first | decide | omega) (by decide) (by omega) (by omega) rfl rfl (Nat.le_of_ble_eq_true rfl) (gd DX3_readBase_0 33 rfl) (fun r g2 hp => ?_)
        rw [List.append_nil]
        exact GW.up (by omega) (by omega) (retn _ _ hp)
    refine g_iload_n C (gd DX3_readBase_0 29 rfl) 2 rfl rfl ?_
    refine g_iconst (v := 2) C (gd DX3_readBase_0 30 rfl) (by decide) ?_
    refine g_icmp_ne C 67 (gd DX3_readBase_0 31 rfl) (by decide) (fun c59 => ?_) (fun c59 => ?_)
    rotate_left
    · exact absurd ((nI_eq (b := 2) (by omega) (by omega)).mp (by first | exact c59 | exact Decidable.of_not_not c59)) e2
    refine g_aload_n C (gd DX3_readBase_0 35 rfl) 0 rfl rfl ?_
    refine g_getr (ci := 3) (k := 3) C rfl (by decide) rfl lf_TestJudge_Reader_33 s.1.1.1 s.1.1.2.2.1 (gd DX3_readBase_0 36 rfl) ?_
    refine g_callV (ci := 7) C [] mX7_advance lm_TestJudge_Reader_60 (by exact s.1.2.2.1.1) rfl rfl (e_k_adv s.1.2.2.1 s.2.1 hj1) hfl (by first | decide | omega) (by decide) (by omega) (by omega) rfl rfl (Nat.le_of_ble_eq_true rfl) (gd DX3_readBase_0 37 rfl) (fun r g1 hp => ?_)
    obtain ⟨rfl, a1, ct1⟩ := hp
    have s1 := s.t a1 ct1
    have q1 : qF U T h g1 := a1.q
    show GW z w 4 _ _ _ _ _ [] _
    by_cases e48 : cdT tx n j = 48 ∨ cdT tx n j = 49
    · have hx := hExt_sN g1 3 0
      have hqx := s1.1.q (hx.q (U := U))
      have eW : hI (sN g1 3 0) W = hI g1 W := (hx.2 W (by have := s1.1.2.2.2.2.2.2.1; omega)).1
      have fin : ∀ e, r = .inr (j + 1, (0, rPlain e)) → rsC U T h tx n c j r (some (.ref (hT g1))) (pcF w.2.2.2 g1 0 e) := by
        intro e er
        obtain ⟨p, p1, p2, p3, p4, p5⟩ := pcF_mk (np := w.2.2.2) (h := g1) e
        have s2 := s1.e p3
        rw [er]
        exact ⟨q1.tr p3.q, s2.2.1, s2.2.2.1, p, p1, p5⟩
      rcases e48 with e | e
      · have er : r = .inr (j + 1, (0, rPlain 0)) := by rw [pz_48 (E := envT tx n nt na np Wd PR) e] at hz; exact (Option.some.inj hz).symm
        have K1 : 1 ≤ K := by rw [er] at hK; have h1 : 4 * (j + 1 - j) - 1 ≤ K := hK; omega
        rw [e]
        refine g_iload_n C (gd DX3_readBase_0 38 rfl) 2 rfl rfl ?_
        refine g_lookup (off := 81) C 156 (gd DX3_readBase_0 39 rfl) (by decide) (by decide) (by decide) ?_
        refine g_new (ci := 2) C rfl lc_TestJudge_Reader_94 lI_TestJudge_Piece li_TestJudge_Piece (by omega) (by omega) (gd DX3_readBase_1 9 rfl) (gdv2) ?_
        refine g_dup C (gd DX3_readBase_1 10 rfl) rfl ?_
        refine g_iconst (v := 0) C (gd DX3_readBase_1 11 rfl) (by decide) ?_
        refine g_iload_n C (gd DX3_readBase_1 12 rfl) 2 rfl rfl ?_
        refine g_bipush (v := 49) C (gd DX3_readBase_1 13 rfl) (by decide) ?_
        refine g_icmp_ne C 177 (gd DX3_readBase_1 14 rfl) (by decide) (fun c164 => ?_) (fun c164 => ?_)
        · refine g_iconst (v := 0) C (gd DX3_readBase_1 19 rfl) (by decide) ?_
          refine g_cI C [_, _] mX2_init lm_TestJudge_Reader_116 (e_pc_init 0 (by omega) _) hfl (by first | decide | omega) (by decide) (by omega) (by omega) rfl rfl (Nat.le_of_ble_eq_true rfl) (gd DX3_readBase_1 20 rfl) ?_
          exact g_aret C (by omega) (by omega) (fin 0 er) (gd DX3_readBase_1 21 rfl)
        · exact absurd (by first | exact c164 | exact Decidable.of_not_not c164) (by decide)
      · have er : r = .inr (j + 1, (0, rPlain (allF (nI nt)))) := by rw [pz_49 (E := envT tx n nt na np Wd PR) e] at hz; exact (Option.some.inj hz).symm
        have K1 : 1 ≤ K := by rw [er] at hK; have h1 : 4 * (j + 1 - j) - 1 ≤ K := hK; omega
        rw [e]
        refine g_iload_n C (gd DX3_readBase_0 38 rfl) 2 rfl rfl ?_
        refine g_lookup (off := 81) C 156 (gd DX3_readBase_0 39 rfl) (by decide) (by decide) (by decide) ?_
        refine g_new (ci := 2) C rfl lc_TestJudge_Reader_94 lI_TestJudge_Piece li_TestJudge_Piece (by omega) (by omega) (gd DX3_readBase_1 9 rfl) (gdv2) ?_
        refine g_dup C (gd DX3_readBase_1 10 rfl) rfl ?_
        refine g_iconst (v := 0) C (gd DX3_readBase_1 11 rfl) (by decide) ?_
        refine g_iload_n C (gd DX3_readBase_1 12 rfl) 2 rfl rfl ?_
        refine g_bipush (v := 49) C (gd DX3_readBase_1 13 rfl) (by decide) ?_
        refine g_icmp_ne C 177 (gd DX3_readBase_1 14 rfl) (by decide) (fun c164 => ?_) (fun c164 => ?_)
        · exact absurd rfl c164
        · refine g_aload_n C (gd DX3_readBase_1 15 rfl) 0 rfl rfl ?_
          refine g_getr (ci := 3) (k := 0) C rfl (by decide) rfl lf_TestJudge_Reader_12 hqx.1.1 hqx.1.2.1 (gd DX3_readBase_1 16 rfl) ?_
          refine g_cV1 (ci := 8) C [] mX8_allAtoms lm_TestJudge_Reader_113 (by exact hqx.2.2.2.1.1) rfl rfl (e_w_allAtoms hqx.2.2.2.1) hfl (by first | decide | omega) (by decide) (by omega) (by omega) rfl rfl (Nat.le_of_ble_eq_true rfl) (gd DX3_readBase_1 17 rfl) ?_
          rw [eW, s1.2.2.2.2.1.1]
          refine g_goto (tgt := 178) C (gd DX3_readBase_1 18 rfl) (by decide) ?_
          refine g_cI C [_, _] mX2_init lm_TestJudge_Reader_116 (e_pc_init 0 (by omega) _) hfl (by first | decide | omega) (by decide) (by omega) (by omega) rfl rfl (Nat.le_of_ble_eq_true rfl) (gd DX3_readBase_1 20 rfl) ?_
          exact g_aret C (by omega) (by omega) (fin _ er) (gd DX3_readBase_1 21 rfl)
    have eo : pOpn (cdT tx n j) := by rcases hb with q | q | q | q; exact absurd (Or.inl q) e48; exact absurd (Or.inr q) e48; exact absurd q e2; exact q
    have o4 : ¬ o = 4 := fun q => ho4 ⟨eo, q⟩
    have o1 : nI o + 1 = nI (o + 1) := nx_add (b := 1) rfl rfl
    have retp : ∀ pc rr g2, rsC U T h tx n c j r rr g2 → (∀ p, rsC U T h tx n c j r (some (.ref p)) g2 → GW z w 4 (gQ z w (5 * K) (61 * K) (fun r' h'' => rsC U T h tx n c j r r' h'')) (5 * K) (61 * K) pc [(0, .ref U), (1, .int (nI o)), (2, .int (nI (cdT tx n j)))] [.ref p] g2) → GW z w 4 (gQ z w (5 * K) (61 * K) (fun r' h'' => rsC U T h tx n c j r r' h'')) (5 * K) (61 * K) pc [(0, .ref U), (1, .int (nI o)), (2, .int (nI (cdT tx n j)))] rr.toList g2 := by
      intro pc rr g2 q k
      have q2 := q
      rcases r with x | x
      · obtain ⟨b, p, m, R, rfl, pw⟩ := q2
        exact k p q
      · obtain ⟨b, ct, f, p, rfl, pw⟩ := q2
        exact k p q
    rcases eo with e | e | e | e
    · rw [pz_33 (E := envT tx n nt na np Wd PR) e o4] at hz
      obtain ⟨r0, hr0, ok0⟩ := pz_tot (E := envT tx n nt na np Wd PR) hc s.2.2.2.nm F 0 (o + 1) (j + 1) acc (by omega) hj1 (show 8 * (c - (j + 1)) + 0 < F by omega) (fun q => by omega)
      rw [hr0] at hz
      have hK2 : jB (o + 1) (j + 1) r0 + 1 ≤ K := by
        rcases r0 with x | ⟨j1, a⟩
        · have er : r = .inl x := (Option.some.inj (show some (Sum.inl x) = some r from hz)).symm
          rw [er] at hK
          have h1 : 4 * (x.2 - j) + 1 + 12 * (4 - o) ≤ K := hK
          have := ok0.1
          show 4 * (x.2 - (j + 1)) + 1 + 12 * (4 - (o + 1)) + 1 ≤ K
          omega
        · have l1 := ok0.2.2.1 (by omega)
          dsimp only at l1
          show 4 * (j1 - (j + 1)) - 1 + 1 ≤ K
          change (if a.1 = 0 then _ else _) = some r at hz
          by_cases e0 : a.1 = 0
          · rw [if_pos e0] at hz
            rw [← Option.some.inj hz] at hK
            have h1 : 4 * (j1 - j) - 1 ≤ K := hK
            omega
          · rw [if_neg e0] at hz
            rw [← Option.some.inj hz] at hK
            have h1 : 4 * (j1 - j) + 1 + 12 * (4 - o) ≤ K := hK
            omega
      rw [e]
      refine g_iload_n C (gd DX3_readBase_0 38 rfl) 2 rfl rfl ?_
      refine g_lookup (off := 41) C 116 (gd DX3_readBase_0 39 rfl) (by decide) (by decide) (by decide) ?_
      refine g_aload_n C (gd DX3_readBase_0 40 rfl) 0 rfl rfl ?_
      refine g_iload_n C (gd DX3_readBase_0 41 rfl) 1 rfl rfl ?_
      refine g_iconst (v := 1) C (gd DX3_readBase_0 42 rfl) (by decide) ?_
      refine g_iadd C (gd DX3_readBase_0 43 rfl) ?_
      rw [o1]
      refine g_callV (ci := 3) C [_] mX3_readNot lm_TestJudge_Reader_148 (by exact s1.1.1.1) rfl rfl (e_r_not hB s1 (by omega) hj1 (by omega) hr0 hz hK2) hfl (by first | decide | omega) (by decide) (by omega) (by omega) rfl rfl (Nat.le_of_ble_eq_true rfl) (gd DX3_readBase_0 44 rfl) (fun r g2 hp => ?_)
      rw [List.append_nil, ← e]
      refine GW.up (by omega) (by omega) (retp 123 _ _ (hp.pre q1 (by omega)) (fun p q => ?_))
      exact g_aret C (by omega) (by omega) q (gd DX3_readBase_0 45 rfl)
    · rw [pz_40 (E := envT tx n nt na np Wd PR) e o4] at hz
      obtain ⟨r0, hr0, ok0⟩ := pz_tot (E := envT tx n nt na np Wd PR) hc s.2.2.2.nm F 4 (o + 1) (j + 1) acc (by omega) hj1 (show 8 * (c - (j + 1)) + 3 < F by omega) (fun q => by omega)
      rw [hr0] at hz
      rw [e]
      refine g_iload_n C (gd DX3_readBase_0 38 rfl) 2 rfl rfl ?_
      refine g_lookup (off := 49) C 124 (gd DX3_readBase_0 39 rfl) (by decide) (by decide) (by decide) ?_
      refine g_aload_n C (gd DX3_readBase_0 46 rfl) 0 rfl rfl ?_
      refine g_iload_n C (gd DX3_readBase_0 47 rfl) 1 rfl rfl ?_
      refine g_iconst (v := 1) C (gd DX3_readBase_0 48 rfl) (by decide) ?_
      refine g_iadd C (gd DX3_readBase_0 49 rfl) ?_
      rw [o1]
      rcases r0 with x | ⟨j1, a⟩
      · have er : r = .inl x := (Option.some.inj (show some (Sum.inl x) = some r from hz)).symm
        have h1 : 4 * (x.2 - j) + 1 + 12 * (4 - o) ≤ K := by rw [er] at hK; exact hK
        have l1 := ok0.1
        refine g_callV (ci := 3) C [_] mX3_readSum lm_TestJudge_Reader_89 (by exact s1.1.1.1) rfl rfl (hS g1 (o + 1) (j + 1) acc (.inl x) (4 * (x.2 - (j + 1)) + 7 + 12 * (4 - (o + 1))) s1 (by omega) hj1 (by omega) hr0 (Nat.le_refl _)) hfl (by first | decide | omega) (by decide) (by omega) (by omega) rfl rfl (Nat.le_of_ble_eq_true rfl) (gd DX3_readBase_0 50 rfl) (fun r g2 hp => ?_)
        obtain ⟨b, p, m, R, rfl, pw, pm⟩ := hp
        have hq := s1.1.q b.1
        show GW z w 4 _ _ _ _ _ [.ref p] _
        refine g_astore_n (lv' := [(0, _), (1, _), (2, _), (3, _)]) C (gd DX3_readBase_0 51 rfl) [1, 2, 3, 0] rfl (by decide) rfl ?_
        refine g_aload_n C (gd DX3_readBase_0 52 rfl) 0 rfl rfl ?_
        refine g_bipush (v := 41) C (gd DX3_readBase_0 53 rfl) (by decide) ?_
        refine g_cV0 (v := .null) (ci := 3) C [_] mX3_expect lm_TestJudge_Reader_86 (by exact hq.1.1) rfl rfl (e_r_expect1 hq b.2.2.2.2 _) hfl (by first | decide | omega) (by decide) (by omega) (by omega) rfl rfl (Nat.le_of_ble_eq_true rfl) (gd DX3_readBase_0 54 rfl) ?_
        rw [er]
        refine g_aload_n C (gd DX3_readBase_0 55 rfl) 3 rfl rfl ?_
        exact g_aret C (by omega) (by omega) ⟨bdF.pre q1 b, p, m, R, rfl, pw, by omega⟩ (gd DX3_readBase_0 56 rfl)
      · obtain ⟨l1, l2, l3, l4, l5⟩ := ok0
        rw [if_neg (by omega)] at l5
        have l3' := l3 (by omega)
        dsimp only at l1 l2 l3' l5
        change (if cdT tx n j1 = 41 then _ else _) = some r at hz
        have h1 : 4 * (j1 - j) - 1 ≤ K := by
          by_cases e1 : cdT tx n j1 = 41
          · rw [if_pos e1] at hz
            rw [← Option.some.inj hz] at hK
            have h1 : 4 * (j1 + 1 - j) - 1 ≤ K := hK
            omega
          · rw [if_neg e1] at hz
            rw [← Option.some.inj hz] at hK
            have h1 : 4 * (j1 - j) + 1 + 12 * (4 - o) ≤ K := hK
            omega
        refine g_callV (ci := 3) C [_] mX3_readSum lm_TestJudge_Reader_89 (by exact s1.1.1.1) rfl rfl (hS g1 (o + 1) (j + 1) acc (.inr (j1, a)) (4 * (j1 - (j + 1)) + 3) s1 (by omega) hj1 (by omega) hr0 (Nat.le_refl _)) hfl (by first | decide | omega) (by decide) (by omega) (by omega) rfl rfl (Nat.le_of_ble_eq_true rfl) (gd DX3_readBase_0 50 rfl) (fun r g2 hp => ?_)
        obtain ⟨b, ct2, f2, p, rfl, pw⟩ := hp
        dsimp only at ct2 pw
        have s2 := s1.q b ct2 f2
        show GW z w 4 _ _ _ _ _ [.ref p] _
        refine g_astore_n (lv' := [(0, _), (1, _), (2, _), (3, _)]) C (gd DX3_readBase_0 51 rfl) [1, 2, 3, 0] rfl (by decide) rfl ?_
        refine g_aload_n C (gd DX3_readBase_0 52 rfl) 0 rfl rfl ?_
        refine g_bipush (v := 41) C (gd DX3_readBase_0 53 rfl) (by decide) ?_
        refine g_callV (ci := 3) C [_] mX3_expect lm_TestJudge_Reader_86 (by exact s2.1.1.1) rfl rfl (e_r_expect s2.1 ct2 f2 (hc j1 l2) (k := 41) (by decide) (by decide)) hfl (by first | decide | omega) (by decide) (by omega) (by omega) rfl rfl (Nat.le_of_ble_eq_true rfl) (gd DX3_readBase_0 54 rfl) (fun r g3 hp => ?_)
        obtain ⟨rfl, hp⟩ := hp
        show GW z w 4 _ _ _ _ _ [] _
        rcases hp with ⟨e1, a2, ct3⟩ | ⟨e1, rfl⟩
        · rw [if_pos e1] at hz
          have s3 := s2.t a2 ct3
          rw [← Option.some.inj hz]
          refine g_aload_n C (gd DX3_readBase_0 55 rfl) 3 rfl rfl ?_
          exact g_aret C (by omega) (by omega) ⟨(q1.tr b).tr a2.q, ct3, s3.2.2.1, p, rfl, pw.q s2.1.1.1 s2.1.2.2.1.1 (a2.q (U := U))⟩ (gd DX3_readBase_0 56 rfl)
        · rw [if_neg e1] at hz
          have bm := bdF.mk s2.1 ct2 (bk2 (cdT tx n j1 = 1))
          rw [← Option.some.inj hz]
          refine g_aload_n C (gd DX3_readBase_0 55 rfl) 3 rfl rfl ?_
          exact g_aret C (by omega) (by omega) ⟨bdF.pre (q1.tr b) bm, p, _, _, rfl, pw.q s2.1.1.1 s2.1.2.2.1.1 bm.1, by show a.1 ≤ 5 * (j1 - j); omega⟩ (gd DX3_readBase_0 56 rfl)
    · rw [pz_if (E := envT tx n nt na np Wd PR) e o4] at hz
      have en : j + 1 ≤ pEn r := by
        have pzt := fun i (hi : i < c) (hf : 8 * (c - i) + 3 < F) => pz_tot (E := envT tx n nt na np Wd PR) hc s.2.2.2.nm F 4 (o + 1) i acc (by omega) hi hf (fun q => by omega)
        refine en_then (pzt (j + 1) hj1 (by omega)) hz (fun j1 t k1 k2 hz1 => ?_)
        by_cases e0 : t.1 = 0
        · rw [if_neg (fun q => q e0)] at hz1
          refine if_bad hz1 (fun e1 hz2 => ?_)
          have h1 := hc j1 k2 (by have : cdT tx n j1 = 663726 := e1; omega)
          refine Nat.le_of_succ_le (en_then (pzt (j1 + 1) h1 (by omega)) hz2 (fun j2 y l1 l2 hz2 => if_bad hz2 (fun e2 hz3 => ?_)))
          have h2 := hc j2 l2 (by have : cdT tx n j2 = 176741 := e2; omega)
          refine Nat.le_of_succ_le (en_then (pzt (j2 + 1) h2 (by omega)) hz3 (fun j3 v _ _ hz4 => if_bad hz4 (fun e3 hz5 => ?_)))
          rw [← Option.some.inj hz5]
          exact Nat.le_succ j3
        · rw [if_pos e0] at hz1
          rw [← Option.some.inj hz1]
          exact Nat.le_refl _
      have hK2 : jI (o + 1) (j + 1) r ≤ K := by
        rcases r with x | x
        · have h1 : 4 * (x.2 - j) + 1 + 12 * (4 - o) ≤ K := hK
          have h2 : j + 1 ≤ x.2 := en
          show 4 * (x.2 - (j + 1)) + 17 + 12 * (4 - (o + 1)) ≤ K
          omega
        · have h1 : 4 * (x.1 - j) - 1 ≤ K := hK
          have h2 : j + 1 ≤ x.1 := en
          show 4 * (x.1 - (j + 1)) + 3 ≤ K
          omega
      rw [e]
      refine g_iload_n C (gd DX3_readBase_0 38 rfl) 2 rfl rfl ?_
      refine g_lookup (off := 65) C 140 (gd DX3_readBase_0 39 rfl) (by decide) (by decide) (by decide) ?_
      refine g_aload_n C (gd DX3_readBase_0 57 rfl) 0 rfl rfl ?_
      refine g_iload_n C (gd DX3_readBase_0 58 rfl) 1 rfl rfl ?_
      refine g_iconst (v := 1) C (gd DX3_readBase_0 59 rfl) (by decide) ?_
      refine g_iadd C (gd DX3_readBase_1 0 rfl) ?_
      rw [o1]
      refine g_callV (ci := 3) C [_] mX3_readIf lm_TestJudge_Reader_151 (by exact s1.1.1.1) rfl rfl (e_r_if hS s1 (by omega) hj1 (by omega) hz hK2) hfl (by first | decide | omega) (by decide) (by omega) (by omega) rfl rfl (Nat.le_of_ble_eq_true rfl) (gd DX3_readBase_1 1 rfl) (fun r g2 hp => ?_)
      rw [List.append_nil, ← e]
      refine GW.up (by omega) (by omega) (retp 147 _ _ (hp.pre q1 (by omega)) (fun p q => ?_))
      exact g_aret C (by omega) (by omega) q (gd DX3_readBase_1 2 rfl)
    · rw [pz_wh (E := envT tx n nt na np Wd PR) e o4] at hz
      have en : j + 1 ≤ pEn r := by
        have pzt := fun i (hi : i < c) (hf : 8 * (c - i) + 3 < F) => pz_tot (E := envT tx n nt na np Wd PR) hc s.2.2.2.nm F 4 (o + 1) i acc (by omega) hi hf (fun q => by omega)
        refine en_then (pzt (j + 1) hj1 (by omega)) hz (fun j1 t k1 k2 hz1 => ?_)
        by_cases e0 : t.1 = 0
        · rw [if_neg (fun q => q e0)] at hz1
          refine if_bad hz1 (fun e1 hz2 => ?_)
          have h1 := hc j1 k2 (by have : cdT tx n j1 = 143 := e1; omega)
          refine Nat.le_of_succ_le (en_then (pzt (j1 + 1) h1 (by omega)) hz2 (fun j2 y l1 l2 hz2 => if_bad hz2 (fun e2 hz3 => ?_)))
          rw [← Option.some.inj hz3]
          exact Nat.le_succ j2
        · rw [if_pos e0] at hz1
          rw [← Option.some.inj hz1]
          exact Nat.le_refl _
      have hK2 : jI (o + 1) (j + 1) r ≤ K := by
        rcases r with x | x
        · have h1 : 4 * (x.2 - j) + 1 + 12 * (4 - o) ≤ K := hK
          have h2 : j + 1 ≤ x.2 := en
          show 4 * (x.2 - (j + 1)) + 17 + 12 * (4 - (o + 1)) ≤ K
          omega
        · have h1 : 4 * (x.1 - j) - 1 ≤ K := hK
          have h2 : j + 1 ≤ x.1 := en
          show 4 * (x.1 - (j + 1)) + 3 ≤ K
          omega
      rw [e]
      refine g_iload_n C (gd DX3_readBase_0 38 rfl) 2 rfl rfl ?_
      refine g_lookup (off := 73) C 148 (gd DX3_readBase_0 39 rfl) (by decide) (by decide) (by decide) ?_
      refine g_aload_n C (gd DX3_readBase_1 3 rfl) 0 rfl rfl ?_
      refine g_iload_n C (gd DX3_readBase_1 4 rfl) 1 rfl rfl ?_
      refine g_iconst (v := 1) C (gd DX3_readBase_1 5 rfl) (by decide) ?_
      refine g_iadd C (gd DX3_readBase_1 6 rfl) ?_
      rw [o1]
      refine g_callV (ci := 3) C [_] mX3_readWhile lm_TestJudge_Reader_154 (by exact s1.1.1.1) rfl rfl (e_r_while hS s1 (by omega) hj1 (by omega) hz hK2) hfl (by first | decide | omega) (by decide) (by omega) (by omega) rfl rfl (Nat.le_of_ble_eq_true rfl) (gd DX3_readBase_1 7 rfl) (fun r g2 hp => ?_)
      rw [List.append_nil, ← e]
      refine GW.up (by omega) (by omega) (retp 155 _ _ (hp.pre q1 (by omega)) (fun p q => ?_))
      exact g_aret C (by omega) (by omega) q (gd DX3_readBase_1 8 rfl)
  have k40 : pBeg (cdT tx n j) → ¬ (pOpn (cdT tx n j) ∧ o = 4) → GW z w 4 (gQ z w (5 * K) (61 * K) (fun r' h'' => rsC U T h tx n c j r r' h'')) 0 0 40 [(0, .ref U), (1, .int (nI o)), (2, .int (nI (cdT tx n j)))] [] h := by
    intro h1 h2
    refine g_aload_n C (gd DX3_readBase_0 20 rfl) 0 rfl rfl ?_
    refine g_geti (ci := 3) (k := 1) C rfl (by decide) rfl lf_TestJudge_Reader_18 s.1.1.1 (gd DX3_readBase_0 21 rfl) ?_
    rw [s.2.2.1]
    refine g_if_eq C 57 (gd DX3_readBase_0 22 rfl) (by decide) (fun c44 => ?_) (fun c44 => ?_)
    · exact k57 h1 h2
    · exact absurd rfl c44
  refine g_aload_n C (gd DX3_readBase_0 0 rfl) 0 rfl rfl ?_
  refine g_getr (ci := 3) (k := 3) C rfl (by decide) rfl lf_TestJudge_Reader_33 s.1.1.1 s.1.1.2.2.1 (gd DX3_readBase_0 1 rfl) ?_
  refine g_geti (ci := 7) (k := 1) C rfl (by decide) rfl lf_TestJudge_Reader_42 s.1.2.2.1.1 (gd DX3_readBase_0 2 rfl) ?_
  rw [s.2.1.2.2.1]
  refine g_istore_n (lv' := [(0, _), (1, _), (2, _)]) C (gd DX3_readBase_0 3 rfl) [1, 2, 0] rfl (by decide) rfl ?_
  refine g_iload_n C (gd DX3_readBase_0 4 rfl) 2 rfl rfl ?_
  refine g_cS1 C [_] mX3_beginsBase lm_TestJudge_Reader_136 (e_r_beginsBase lt) hfl (by first | decide | omega) (by decide) (by omega) (by omega) rfl rfl (Nat.le_of_ble_eq_true rfl) (gd DX3_readBase_0 5 rfl) ?_
  by_cases hb : pBeg (cdT tx n j)
  · rw [b1_t hb]
    refine g_if_ne C 23 (gd DX3_readBase_0 6 rfl) (by decide) (fun c12 => ?_) (fun c12 => ?_)
    rotate_left
    · exact absurd (by first | exact c12 | exact Decidable.of_not_not c12) (by decide)
    refine g_iload_n C (gd DX3_readBase_0 11 rfl) 2 rfl rfl ?_
    refine g_cS1 C [_] mX3_opens lm_TestJudge_Reader_140 (e_r_opens lt) hfl (by first | decide | omega) (by decide) (by omega) (by omega) rfl rfl (Nat.le_of_ble_eq_true rfl) (gd DX3_readBase_0 12 rfl) ?_
    by_cases eo : pOpn (cdT tx n j)
    · rw [b1_t eo]
      refine g_if_eq C 40 (gd DX3_readBase_0 13 rfl) (by decide) (fun c27 => ?_) (fun c27 => ?_)
      · exact absurd c27 (by decide)
      · refine g_iload_n C (gd DX3_readBase_0 14 rfl) 1 rfl rfl ?_
        refine g_iconst (v := 4) C (gd DX3_readBase_0 15 rfl) (by decide) ?_
        refine g_icmp_lt C 40 (gd DX3_readBase_0 16 rfl) (by decide) (fun c32 => ?_) (fun c32 => ?_)
        · have o3 : o < 4 := by
            apply Classical.byContradiction
            intro q
            exact absurd (show nI o ≥ nI 4 from nI_le (by omega) (by omega)) (Int32.not_le.mpr c32)
          exact k40 hb (fun q => by omega)
        · have o4 : o = 4 := by
            apply Classical.byContradiction
            intro q
            exact absurd (by first | exact c32 | exact Int32.not_lt.mp c32) (nI_ge (b := 4) (by omega) (by omega))
          rw [pz_o4 (E := envT tx n nt na np Wd PR) eo o4] at hz
          have er : r = .inl (4, j) := by
            rw [← Option.some.inj hz]
            show Sum.inl (if cdT tx n j = 1 then 1 else 4, j) = _
            rw [if_neg (by rcases eo with q | q | q | q <;> omega)]
          refine g_aload_n C (gd DX3_readBase_0 17 rfl) 0 rfl rfl ?_
          refine g_iconst (v := 4) C (gd DX3_readBase_0 18 rfl) (by decide) ?_
          refine g_cV0 (v := .null) (ci := 3) C [_] mX3_fail lm_TestJudge_Reader_55 (by exact s.1.1.1) rfl rfl (e_r_fail s.1 s.2.1 s.2.2.1 (k := 4) (by omega)) hfl (by first | decide | omega) (by decide) (by omega) (by omega) rfl rfl (Nat.le_of_ble_eq_true rfl) (gd DX3_readBase_0 19 rfl) ?_
          rw [if_neg (c := cdT tx n j = 1 ∧ 4 ≠ 5) (by rcases eo with q | q | q | q <;> omega)]
          exact k40bad 4 ⟨by omega, by omega⟩ er
    · rw [b1_f eo]
      refine g_if_eq C 40 (gd DX3_readBase_0 13 rfl) (by decide) (fun c27 => ?_) (fun c27 => ?_)
      · exact k40 hb (fun q => eo q.1)
      · exact absurd rfl c27
  · rw [b1_f hb]
    rw [pz_no (E := envT tx n nt na np Wd PR) hb] at hz
    have er := (Option.some.inj hz).symm
    refine g_if_ne C 23 (gd DX3_readBase_0 6 rfl) (by decide) (fun c12 => ?_) (fun c12 => ?_)
    · exact absurd rfl c12
    · refine g_aload_n C (gd DX3_readBase_0 7 rfl) 0 rfl rfl ?_
      refine g_iconst (v := 2) C (gd DX3_readBase_0 8 rfl) (by decide) ?_
      refine g_cV0 (v := .null) (ci := 3) C [_] mX3_fail lm_TestJudge_Reader_55 (by exact s.1.1.1) rfl rfl (e_r_fail s.1 s.2.1 s.2.2.1 (k := 2) (by omega)) hfl (by first | decide | omega) (by decide) (by omega) (by omega) rfl rfl (Nat.le_of_ble_eq_true rfl) (gd DX3_readBase_0 9 rfl) ?_
      rw [show (if cdT tx n j = 1 ∧ 2 ≠ 5 then 1 else 2) = (if cdT tx n j = 1 then 1 else 2) from by
        by_cases q : cdT tx n j = 1
        · rw [if_pos ⟨q, by omega⟩, if_pos q]
        · rw [if_neg (fun x => q x.1), if_neg q]]
      refine g_goto (tgt := 40) C (gd DX3_readBase_0 10 rfl) (by decide) ?_
      exact k40bad _ (bk2 _) er
end R8
