/-! reading in the reference: ones, rows, sums, if, while -/
section M53
variable {w : gD} {m : Nat} {tx : Nat → Nat} {n c nt na np : Nat} {W : Nat → Nat} {PR : Nat → pR}
section V
variable {h : HS}
theorem e_v_begins (hm : mSh m h) {t a : Nat} (ht : t < 102) (ha : gRec (hI h (m + 1)) t 0 = nI a) (hab : a < 10000) (e : Int32) : EvF w 2 0 0 yX10_begins cX10_begins 4 none [.ref m, .int (nI t), .int e] h none (hRc m h t (rBegins (gRec (hI h (m + 1)) t) a e)) := by
  have q := e_m_begins (w := w) hm (ρ := hI h (m + 1)) (R := gRec (hI h (m + 1)) t) ht ha hab e
  rw [sF_view] at q
  exact q
theorem e_v_stars (hm : mSh m h) {t a : Nat} (ht : t < 102) (ha : gRec (hI h (m + 1)) t 0 = nI a) (hab : a < 10000) (al : Int32) : EvF w 2 0 0 yX10_stars cX10_stars 5 none [.ref m, .int (nI t), .int al] h none (hRc m h t (rStar (gRec (hI h (m + 1)) t) a al)) := by
  have q := e_m_stars (w := w) hm (ρ := hI h (m + 1)) (R := gRec (hI h (m + 1)) t) ht ha hab al
  rw [sF_view] at q
  exact q
theorem e_v_whiles (hm : mSh m h) {t a : Nat} (ht : t < 102) (ha : gRec (hI h (m + 1)) t 0 = nI a) (hab : a < 10000) (e al : Int32) : EvF w 3 0 0 yX10_whiles cX10_whiles 4 none [.ref m, .int (nI t), .int e, .int al] h none (hRc m h t (rFinish (rStar (rBegins (gRec (hI h (m + 1)) t) a e) a al) a (al &&& (e ^^^ -1)))) := by
  have q := e_m_whiles (w := w) hm (ρ := hI h (m + 1)) (R := gRec (hI h (m + 1)) t) ht ha hab e al
  rw [sF_view] at q
  exact q
end V
theorem sR_rec {m k t : Nat} {h : HS} {v : Int32} : gRec (hI (sI h m k v) (m + 1)) t = gRec (hI h (m + 1)) t := by
  rw [hI_sI_ne (by omega)]
theorem some_inj_r {x y : pRz} (h : some x = some y) : x = y := Option.some.inj h
theorem rd_one (si : gSI w) (hc : ∀ j, j < c → cdT tx n j ≠ 0 → j + 1 < c) (hc5 : c ≤ 501) {F : Nat} (hB : cRB w m tx n c nt na np W PR F) : cRO w m tx n c nt na np W PR (F + 1) := by
  intro h o f j acc r hm N T ho ho4 hf h22 hcap hj hF hz
  rw [pz_2] at hz
  obtain ⟨r1, hr1, ok1⟩ := pz_tot (E := envT tx n nt na np W PR) hc N.nm F 0 o j acc (by omega) hj (show 8 * (c - j) + 0 < F by omega) (fun q => by omega)
  rw [hr1] at hz
  refine g_start (by decide) (Nat.le_of_ble_eq_true rfl) [(0, _)] rfl (fun z hfl C => ?_)
  have loop : ∀ F' h' j1 (a : pR), rdF m f h h' → mTk m h' tx n j1 → hI h' m 26 = nI o → hI h' m 25 = nI (f + 1) → Ag (gRec (hI h' (m + 1)) f) a.2 → j1 < c → okT (allF (nI nt)) a → a.1 < 10000 → pz (envT tx n nt na np W PR) F' 1 o j1 a = some r → GW z w 2 (gQ z w 0 0 (fun r' h'' => rdP m h tx n f o r r' h'')) 0 0 14 [(0, .ref m), (1, .int (nI f))] [] h' := by
    intro F'
    induction F' with
    | zero => intro h' j1 a _ _ _ _ _ _ _ _ e; exact absurd e (fun q => by rw [pz] at q; cases q)
    | succ F' ih =>
      intro h' j1 a fr T1 p26 p25 ag hj1 oka wa hz1
      have hm1 := fr.sh hm
      have N1 := N.fr fr h22
      refine g_aload_n C (gd DX10_readOne_0 8 rfl) 0 rfl rfl ?_
      refine g_bipush (v := 42) C (gd DX10_readOne_0 9 rfl) (by decide) ?_
      refine g_cV1 (ci := 10) C [_] mX10_isSign lm_TestJudgeModel_240 (by exact hm1.1) rfl rfl (e_t_sign hm1 T1 (k := 42) (by decide)) hfl (by first | decide | omega) (by decide) (by omega) (by omega) rfl rfl (Nat.le_of_ble_eq_true rfl) (gd DX10_readOne_0 10 rfl) ?_
      by_cases e : cdT tx n j1 = 42
      · rw [b1_t e]
        rw [pz_1s e] at hz1
        have hj2 := hc j1 hj1 (by omega)
        refine g_if_eq C 44 (gd DX10_readOne_0 11 rfl) (by decide) (fun c20 => ?_) (fun c20 => ?_)
        · exact absurd c20 (by decide)
        · refine g_aload_n C (gd DX10_readOne_0 12 rfl) 0 rfl rfl ?_
          refine g_callV (ci := 10) C [] mX10_goes lm_TestJudgeModel_215 (by exact hm1.1) rfl rfl (e_t_goes si hm1 T1) hfl (by first | decide | omega) (by decide) (by omega) (by omega) rfl rfl (Nat.le_of_ble_eq_true rfl) (gd DX10_readOne_0 13 rfl) (fun r h2 hp => ?_)
          obtain ⟨rfl, a1, a2⟩ := hp
          have fr2 := fr.tr (rdF.nx a1)
          have hm2 := fr2.sh hm
          have N2 := N.fr fr2 h22
          have eg : gRec (hI h2 (m + 1)) f = gRec (hI h' (m + 1)) f := by rw [show hI h2 (m + 1) = hI h' (m + 1) from funext fun k => a1.2.1 (m + 1) k (by omega)]
          show GW z w 2 _ 0 0 _ _ [.int 1] _
          refine g_if_ne C 32 (gd DX10_readOne_0 14 rfl) (by decide) (fun c27 => ?_) (fun c27 => ?_)
          · refine g_aload_n C (gd DX10_readOne_0 17 rfl) 0 rfl rfl ?_
            refine g_iload_n C (gd DX10_readOne_0 18 rfl) 1 rfl rfl ?_
            refine g_aload_n C (gd DX10_readOne_0 19 rfl) 0 rfl rfl ?_
            refine g_cV1 (ci := 10) C [] mX10_all lm_TestJudgeModel_267 (by exact hm2.1) rfl rfl (e_m_all hm2) hfl (by first | decide | omega) (by decide) (by omega) (by omega) rfl rfl (Nat.le_of_ble_eq_true rfl) (gd DX10_readOne_0 20 rfl) ?_
            rw [N2.2.1.1]
            refine g_cV0 (v := .null) (ci := 10) C [_, _] mX10_stars lm_TestJudgeModel_270 (by exact hm2.1) rfl rfl (e_v_stars hm2 (t := f) (a := a.1) (by omega) (by rw [eg, ag 0 (by omega)]; exact oka.1) wa _) hfl (by first | decide | omega) (by decide) (by omega) (by omega) rfl rfl (Nat.le_of_ble_eq_true rfl) (gd DX10_readOne_0 21 rfl) ?_
            refine g_goto (tgt := 14) C (gd DX10_readOne_0 22 rfl) (by decide) ?_
            refine ih _ (j1 + 1) (a.1, rStar a.2 a.1 (allF (nI nt))) (fr2.tr (rdF.rc (Nat.le_refl f))) a2.rc ?_ ?_ ?_ hj2 oka.star wa hz1
            · rw [hRc_m, a1.2.1 m 26 (by omega)]; exact p26
            · rw [hRc_m, a1.2.1 m 25 (by omega)]; exact p25
            · refine hRc_at.tr ?_
              rw [eg]
              exact rStar_ag ag _ _
          · exact absurd c27 (by decide)
      · rw [b1_f e]
        rw [pz_1n e] at hz1
        cases some_inj_r hz1
        refine g_if_eq C 44 (gd DX10_readOne_0 11 rfl) (by decide) (fun c20 => ?_) (fun c20 => ?_)
        · refine g_iconst (v := 1) C (gd DX10_readOne_0 23 rfl) (by decide) ?_
          exact g_zret C (by decide) (by omega) (by omega) ⟨fr, rfl, T1, p26, p25, ag⟩ (gd DX10_readOne_0 24 rfl)
        · exact absurd rfl c20
  refine g_aload_n C (gd DX10_readOne_0 0 rfl) 0 rfl rfl ?_
  refine g_geti (ci := 10) (k := 25) C rfl (by decide) rfl lf_TestJudgeModel_234 hm.1 (gd DX10_readOne_0 1 rfl) ?_
  rw [hf]
  refine g_istore_n (lv' := [(0, _), (1, _)]) C (gd DX10_readOne_0 2 rfl) [1, 0] rfl (by decide) rfl ?_
  refine g_aload_n C (gd DX10_readOne_0 3 rfl) 0 rfl rfl ?_
  refine g_callV (ci := 10) C [] mX10_readBase lm_TestJudgeModel_264 (by exact hm.1) rfl rfl (hB h o f j acc r1 hm N T ho ho4 hf h22 (by omega) hj (by omega) hr1) hfl (by first | decide | omega) (by decide) (by omega) (by omega) rfl rfl (Nat.le_of_ble_eq_true rfl) (gd DX10_readOne_0 4 rfl) (fun r h2 hp => ?_)
  rcases r1 with x | ⟨j1, a⟩
  · obtain ⟨p1, rfl, p2, p3⟩ := hp
    cases some_inj_r (show some (Sum.inl x) = some r from hz)
    show GW z w 2 _ 0 0 _ _ [.int 0] _
    refine g_if_ne C 14 (gd DX10_readOne_0 5 rfl) (by decide) (fun c9 => ?_) (fun c9 => ?_)
    · exact absurd rfl c9
    · refine g_iconst (v := 0) C (gd DX10_readOne_0 6 rfl) (by decide) ?_
      exact g_zret C (by decide) (by omega) (by omega) ⟨p1, rfl, p2, p3⟩ (gd DX10_readOne_0 7 rfl)
  · obtain ⟨p1, rfl, T1, p2, p3, p4⟩ := hp
    obtain ⟨x1, x2, x3, x4, x5⟩ := ok1
    rw [if_neg (by omega)] at x5
    dsimp only at x1 x2 x4 x5
    show GW z w 2 _ 0 0 _ _ [.int 1] _
    refine g_if_ne C 14 (gd DX10_readOne_0 5 rfl) (by decide) (fun c9 => ?_) (fun c9 => ?_)
    · exact loop F _ j1 a p1 T1 p2 p3 p4 x2 x4 (by omega) hz
    · exact absurd c9 (by decide)
theorem rd_row (si : gSI w) (hc : ∀ j, j < c → cdT tx n j ≠ 0 → j + 1 < c) (hc5 : c ≤ 501) {F : Nat} (hO : ∀ F', F' ≤ F → cRO w m tx n c nt na np W PR F') : cRR w m tx n c nt na np W PR (F + 1) := by
  intro h o f j acc r hm N T ho ho4 hf h22 hcap hj hF hz
  rw [pz_6] at hz
  obtain ⟨r1, hr1, ok1⟩ := pz_tot (E := envT tx n nt na np W PR) hc N.nm F 2 o j acc (by omega) hj (show 8 * (c - j) + 1 < F by omega) (fun q => by omega)
  rw [hr1] at hz
  refine g_start (by decide) (Nat.le_of_ble_eq_true rfl) [(0, _)] rfl (fun z hfl C => ?_)
  have loop : ∀ F' h' j1 (a : pR), F' ≤ F → rdF m f h h' → mTk m h' tx n j1 → hI h' m 26 = nI o → hI h' m 25 = nI (f + 1) → Ag (gRec (hI h' (m + 1)) f) a.2 → j ≤ j1 → j1 < c → okT (allF (nI nt)) a → a.1 ≤ 5 * (j1 - j) → 8 * (c - j1) + 2 < F' → pz (envT tx n nt na np W PR) F' 3 o j1 a = some r → GW z w 2 (gQ z w 0 0 (fun r' h'' => rdP m h tx n f o r r' h'')) 0 0 14 [(0, .ref m), (1, .int (nI f))] [] h' := by
    intro F'
    induction F' with
    | zero => intro h' j1 a _ _ _ _ _ _ _ _ _ _ _ e; exact absurd e (fun q => by rw [pz] at q; cases q)
    | succ F' ih =>
      intro h' j1 a hFF fr T1 p26 p25 ag hjj hj1 oka wa hfu hz1
      have hm1 := fr.sh hm
      have N1 := N.fr fr h22
      refine g_aload_n C (gd DX10_readRow_0 8 rfl) 0 rfl rfl ?_
      refine g_cV1 (ci := 10) C [] mX10_beginsOne lm_TestJudgeModel_258 (by exact hm1.1) rfl rfl (e_t_begins hm1 T1) hfl (by first | decide | omega) (by decide) (by omega) (by omega) rfl rfl (Nat.le_of_ble_eq_true rfl) (gd DX10_readRow_0 9 rfl) ?_
      by_cases e : pBeg (cdT tx n j1)
      · rw [b1_t e]
        rw [pz_3b e] at hz1
        obtain ⟨r2, hr2, ok2⟩ := pz_tot (E := envT tx n nt na np W PR) hc N.nm F' 2 o j1 a (by omega) hj1 (show 8 * (c - j1) + 1 < F' by omega) (fun q => by omega)
        rw [hr2] at hz1
        refine g_if_eq C 59 (gd DX10_readRow_0 10 rfl) (by decide) (fun c18 => ?_) (fun c18 => ?_)
        · exact absurd c18 (by decide)
        · refine g_aload_n C (gd DX10_readRow_0 11 rfl) 0 rfl rfl ?_
          refine g_callV (ci := 10) C [] mX10_readOne lm_TestJudgeModel_255 (by exact hm1.1) rfl rfl (hO F' (by omega) h' o (f + 1) j1 a r2 hm1 N1 T1 p26 ho4 p25 (by omega) (by omega) hj1 (by omega) hr2) hfl (by first | decide | omega) (by decide) (by omega) (by omega) rfl rfl (Nat.le_of_ble_eq_true rfl) (gd DX10_readRow_0 12 rfl) (fun r h2 hp => ?_)
          rcases r2 with x | ⟨j2, b⟩
          · obtain ⟨q1, rfl, q2, q3⟩ := hp
            cases some_inj_r (show some (Sum.inl x) = some r from hz1)
            show GW z w 2 _ 0 0 _ _ [.int 0] _
            refine g_if_ne C 30 (gd DX10_readRow_0 13 rfl) (by decide) (fun c25 => ?_) (fun c25 => ?_)
            · exact absurd rfl c25
            · refine g_iconst (v := 0) C (gd DX10_readRow_0 14 rfl) (by decide) ?_
              exact g_zret C (by decide) (by omega) (by omega) ⟨fr.g.tr (q1.le (by omega)), rfl, q2, q3⟩ (gd DX10_readRow_0 15 rfl)
          · obtain ⟨q1, rfl, T2, q2, q3, q4⟩ := hp
            obtain ⟨x1, x2, x3, x4, x5⟩ := ok2
            rw [if_neg (by omega)] at x5
            dsimp only at x1 x2 x4 x5
            have fr2 := fr.tr (q1.le (by omega : f ≤ f + 1))
            have hm2 := fr2.sh hm
            have ag2 : Ag (gRec (hI h2 (m + 1)) f) a.2 := (q1.rec (by omega)).tr ag
            show GW z w 2 _ 0 0 _ _ [.int 1] _
            refine g_if_ne C 30 (gd DX10_readRow_0 13 rfl) (by decide) (fun c25 => ?_) (fun c25 => ?_)
            · refine g_aload_n C (gd DX10_readRow_0 16 rfl) 0 rfl rfl ?_
              refine g_iload_n C (gd DX10_readRow_0 17 rfl) 1 rfl rfl ?_
              refine g_iload_n C (gd DX10_readRow_0 18 rfl) 1 rfl rfl ?_
              refine g_iconst (v := 1) C (gd DX10_readRow_0 19 rfl) (by decide) ?_
              refine g_iadd C (gd DX10_readRow_0 20 rfl) ?_
              rw [show nI f + 1 = nI (f + 1) from nx_add (b := 1) rfl rfl]
              refine g_iload_n C (gd DX10_readRow_0 21 rfl) 1 rfl rfl ?_
              refine g_iconst (v := 2) C (gd DX10_readRow_0 22 rfl) (by decide) ?_
              refine g_iadd C (gd DX10_readRow_0 23 rfl) ?_
              rw [show nI f + 2 = nI (f + 2) from nx_add (b := 2) rfl rfl]
              refine g_cV0 (v := .null) (ci := 10) C [_, _, _] mX10_joins lm_TestJudgeModel_261 (by exact hm2.1) rfl rfl (e_m_joins hm2 (x := f) (y := f + 1) (t := f + 2) (a := a.1) (b := b.1) (by omega) (by omega) (by omega) (by omega) (by omega) (by rw [ag2 0 (by omega)]; exact oka.1) (by rw [q4 0 (by omega)]; exact x4.1) (by omega)) hfl (by first | decide | omega) (by decide) (by omega) (by omega) rfl rfl (Nat.le_of_ble_eq_true rfl) (gd DX10_readRow_0 24 rfl) ?_
              rw [rJoin_ag ag2 q4]
              generalize hg : sF h2 (m + 1) (pRec (hI h2 (m + 1)) (f + 2) (rJoin a.2 b.2 a.1 b.1)) = h3
              have e3 : h3 = hRc m h2 (f + 2) (rJoin a.2 b.2 a.1 b.1) := hg.symm
              have fr3 : rdF m f h h3 := by rw [e3]; exact fr2.tr (rdF.rc (by omega))
              have hm3 := fr3.sh hm
              have T3 : mTk m h3 tx n j2 := by rw [e3]; exact T2.rc
              have r3 : Ag (gRec (hI h3 (m + 1)) (f + 2)) (rJoin a.2 b.2 a.1 b.1) := by rw [e3]; exact hRc_at
              have m3 : hI h3 m = hI h2 m := by rw [e3]; exact hRc_m
              clear hg e3
              refine g_aload_n C (gd DX10_readRow_0 25 rfl) 0 rfl rfl ?_
              refine g_iload_n C (gd DX10_readRow_0 26 rfl) 1 rfl rfl ?_
              refine g_iconst (v := 2) C (gd DX10_readRow_0 27 rfl) (by decide) ?_
              refine g_iadd C (gd DX10_readRow_0 28 rfl) ?_
              rw [show nI f + 2 = nI (f + 2) from nx_add (b := 2) rfl rfl]
              refine g_iload_n C (gd DX10_readRow_0 29 rfl) 1 rfl rfl ?_
              refine g_cV0 (v := .null) (ci := 10) C [_, _] mX10_copies lm_TestJudgeModel_246 (by exact hm3.1) rfl rfl (e_m_copies hm3 (r := f + 2) (t := f) (by omega) (by omega) (by omega)) hfl (by first | decide | omega) (by decide) (by omega) (by omega) rfl rfl (Nat.le_of_ble_eq_true rfl) (gd DX10_readRow_0 30 rfl) ?_
              refine g_aload_n C (gd DX10_readRow_0 31 rfl) 0 rfl rfl ?_
              refine g_iload_n C (gd DX10_readRow_0 32 rfl) 1 rfl rfl ?_
              refine g_iconst (v := 1) C (gd DX10_readRow_0 33 rfl) (by decide) ?_
              refine g_iadd C (gd DX10_readRow_0 34 rfl) ?_
              rw [show nI f + 1 = nI (f + 1) from nx_add (b := 1) rfl rfl]
              refine g_puti (ci := 10) (k := 25) C rfl (by decide) rfl lf_TestJudgeModel_234 hm3.1 (Or.inl rfl) rfl (gd DX10_readRow_0 35 rfl) ?_
              refine g_goto (tgt := 14) C (gd DX10_readRow_0 36 rfl) (by decide) ?_
              refine ih (sI (hRc m h3 f (gRec (hI h3 (m + 1)) (f + 2))) m 25 (nI (f + 1))) j2 (a.1 + b.1, rJoin a.2 b.2 a.1 b.1) (by omega) ((fr3.tr (rdF.rc (Nat.le_refl f))).tr (rdF.i (by omega) (by omega))) (T3.rc.i (by omega)) ?_ ?_ ?_ (by omega) x2 (oka.join x4) ?_ ?_ hz1
              · rw [hI_sI, if_neg (by omega), hRc_m, m3]; exact q2
              · rw [hI_sI, if_pos ⟨rfl, rfl⟩]
              · rw [sR_rec]
                exact hRc_at.tr r3
              · show a.1 + b.1 ≤ 5 * (j2 - j)
                omega
              · have := x3 (Or.inr (Or.inl rfl))
                dsimp only at this
                omega
            · exact absurd c25 (by decide)
      · rw [b1_f e]
        rw [pz_3n e] at hz1
        cases some_inj_r hz1
        refine g_if_eq C 59 (gd DX10_readRow_0 10 rfl) (by decide) (fun c18 => ?_) (fun c18 => ?_)
        · refine g_iconst (v := 1) C (gd DX10_readRow_0 37 rfl) (by decide) ?_
          exact g_zret C (by decide) (by omega) (by omega) ⟨fr, rfl, T1, p26, p25, ag⟩ (gd DX10_readRow_0 38 rfl)
        · exact absurd rfl c18
  refine g_aload_n C (gd DX10_readRow_0 0 rfl) 0 rfl rfl ?_
  refine g_geti (ci := 10) (k := 25) C rfl (by decide) rfl lf_TestJudgeModel_234 hm.1 (gd DX10_readRow_0 1 rfl) ?_
  rw [hf]
  refine g_istore_n (lv' := [(0, _), (1, _)]) C (gd DX10_readRow_0 2 rfl) [1, 0] rfl (by decide) rfl ?_
  refine g_aload_n C (gd DX10_readRow_0 3 rfl) 0 rfl rfl ?_
  refine g_callV (ci := 10) C [] mX10_readOne lm_TestJudgeModel_255 (by exact hm.1) rfl rfl (hO F (Nat.le_refl F) h o f j acc r1 hm N T ho ho4 hf h22 (by omega) hj (by omega) hr1) hfl (by first | decide | omega) (by decide) (by omega) (by omega) rfl rfl (Nat.le_of_ble_eq_true rfl) (gd DX10_readRow_0 4 rfl) (fun r h2 hp => ?_)
  rcases r1 with x | ⟨j1, a⟩
  · obtain ⟨p1, rfl, p2, p3⟩ := hp
    cases some_inj_r (show some (Sum.inl x) = some r from hz)
    show GW z w 2 _ 0 0 _ _ [.int 0] _
    refine g_if_ne C 14 (gd DX10_readRow_0 5 rfl) (by decide) (fun c9 => ?_) (fun c9 => ?_)
    · exact absurd rfl c9
    · refine g_iconst (v := 0) C (gd DX10_readRow_0 6 rfl) (by decide) ?_
      exact g_zret C (by decide) (by omega) (by omega) ⟨p1, rfl, p2, p3⟩ (gd DX10_readRow_0 7 rfl)
  · obtain ⟨p1, rfl, T1, p2, p3, p4⟩ := hp
    obtain ⟨x1, x2, x3, x4, x5⟩ := ok1
    have x3' := x3 (Or.inr (Or.inl rfl))
    rw [if_neg (by omega)] at x5
    dsimp only at x1 x2 x3' x4 x5
    show GW z w 2 _ 0 0 _ _ [.int 1] _
    refine g_if_ne C 14 (gd DX10_readRow_0 5 rfl) (by decide) (fun c9 => ?_) (fun c9 => ?_)
    · exact loop F _ j1 a (Nat.le_refl F) p1 T1 p2 p3 p4 (by omega) x2 x4 (by omega) (by omega) hz
    · exact absurd c9 (by decide)
theorem rd_sum (si : gSI w) (hc : ∀ j, j < c → cdT tx n j ≠ 0 → j + 1 < c) (hc5 : c ≤ 501) {F : Nat} (hO : ∀ F', F' ≤ F → cRR w m tx n c nt na np W PR F') : cRS w m tx n c nt na np W PR (F + 1) := by
  intro h o f j acc r hm N T ho ho4 hf h22 hcap hj hF hz
  rw [pz_4] at hz
  obtain ⟨r1, hr1, ok1⟩ := pz_tot (E := envT tx n nt na np W PR) hc N.nm F 6 o j acc (by omega) hj (show 8 * (c - j) + 2 < F by omega) (fun q => by omega)
  rw [hr1] at hz
  refine g_start (by decide) (Nat.le_of_ble_eq_true rfl) [(0, _)] rfl (fun z hfl C => ?_)
  have loop : ∀ F' h' j1 (a : pR), F' ≤ F → rdF m f h h' → mTk m h' tx n j1 → hI h' m 26 = nI o → hI h' m 25 = nI (f + 1) → Ag (gRec (hI h' (m + 1)) f) a.2 → j ≤ j1 → j1 < c → okT (allF (nI nt)) a → a.1 ≤ 5 * (j1 - j) → 8 * (c - j1) + 3 < F' → pz (envT tx n nt na np W PR) F' 5 o j1 a = some r → GW z w 2 (gQ z w 0 0 (fun r' h'' => rdP m h tx n f o r r' h'')) 0 0 14 [(0, .ref m), (1, .int (nI f))] [] h' := by
    intro F'
    induction F' with
    | zero => intro h' j1 a _ _ _ _ _ _ _ _ _ _ _ e; exact absurd e (fun q => by rw [pz] at q; cases q)
    | succ F' ih =>
      intro h' j1 a hFF fr T1 p26 p25 ag hjj hj1 oka wa hfu hz1
      have hm1 := fr.sh hm
      have N1 := N.fr fr h22
      refine g_aload_n C (gd DX10_readSum_0 8 rfl) 0 rfl rfl ?_
      refine g_bipush (v := 43) C (gd DX10_readSum_0 9 rfl) (by decide) ?_
      refine g_cV1 (ci := 10) C [_] mX10_isSign lm_TestJudgeModel_240 (by exact hm1.1) rfl rfl (e_t_sign hm1 T1 (k := 43) (by decide)) hfl (by first | decide | omega) (by decide) (by omega) (by omega) rfl rfl (Nat.le_of_ble_eq_true rfl) (gd DX10_readSum_0 10 rfl) ?_
      by_cases e : cdT tx n j1 = 43
      · rw [b1_t e]
        rw [pz_5p e] at hz1
        have hj2 := hc j1 hj1 (by omega)
        obtain ⟨r2, hr2, ok2⟩ := pz_tot (E := envT tx n nt na np W PR) hc N.nm F' 6 o (j1 + 1) a (by omega) hj2 (show 8 * (c - (j1 + 1)) + 2 < F' by omega) (fun q => by omega)
        rw [hr2] at hz1
        refine g_if_eq C 68 (gd DX10_readSum_0 11 rfl) (by decide) (fun c20 => ?_) (fun c20 => ?_)
        · exact absurd c20 (by decide)
        · refine g_aload_n C (gd DX10_readSum_0 12 rfl) 0 rfl rfl ?_
          refine g_callV (ci := 10) C [] mX10_goes lm_TestJudgeModel_215 (by exact hm1.1) rfl rfl (e_t_goes si hm1 T1) hfl (by first | decide | omega) (by decide) (by omega) (by omega) rfl rfl (Nat.le_of_ble_eq_true rfl) (gd DX10_readSum_0 13 rfl) (fun r h2 hp => ?_)
          obtain ⟨rfl, a1, a2⟩ := hp
          have fr2 := fr.tr (rdF.nx a1)
          have hm2 := fr2.sh hm
          have N2 := N.fr fr2 h22
          have eg : gRec (hI h2 (m + 1)) f = gRec (hI h' (m + 1)) f := by rw [show hI h2 (m + 1) = hI h' (m + 1) from funext fun k => a1.2.1 (m + 1) k (by omega)]
          have ag2 : Ag (gRec (hI h2 (m + 1)) f) a.2 := by rw [eg]; exact ag
          have o2 : hI h2 m 26 = nI o := by rw [a1.2.1 m 26 (by omega)]; exact p26
          have f2 : hI h2 m 25 = nI (f + 1) := by rw [a1.2.1 m 25 (by omega)]; exact p25
          show GW z w 2 _ 0 0 _ _ [.int 1] _
          refine g_if_eq C 37 (gd DX10_readSum_0 14 rfl) (by decide) (fun c27 => ?_) (fun c27 => ?_)
          · exact absurd c27 (by decide)
          · refine g_aload_n C (gd DX10_readSum_0 15 rfl) 0 rfl rfl ?_
            refine g_callV (ci := 10) C [] mX10_readRow lm_TestJudgeModel_237 (by exact hm2.1) rfl rfl (hO F' (by omega) h2 o (f + 1) (j1 + 1) a r2 hm2 N2 a2 o2 ho4 f2 (by omega) (by omega) hj2 (by omega) hr2) hfl (by first | decide | omega) (by decide) (by omega) (by omega) rfl rfl (Nat.le_of_ble_eq_true rfl) (gd DX10_readSum_0 16 rfl) (fun r h3 hp => ?_)
            rcases r2 with x | ⟨j2, b⟩
            · obtain ⟨q1, rfl, q2, q3⟩ := hp
              cases some_inj_r (show some (Sum.inl x) = some r from hz1)
              show GW z w 2 _ 0 0 _ _ [.int 0] _
              refine g_if_ne C 39 (gd DX10_readSum_0 17 rfl) (by decide) (fun c34 => ?_) (fun c34 => ?_)
              · exact absurd rfl c34
              · refine g_iconst (v := 0) C (gd DX10_readSum_0 18 rfl) (by decide) ?_
                exact g_zret C (by decide) (by omega) (by omega) ⟨fr2.g.tr (q1.le (by omega)), rfl, q2, q3⟩ (gd DX10_readSum_0 19 rfl)
            · obtain ⟨q1, rfl, T2, q2, q3, q4⟩ := hp
              obtain ⟨x1, x2, x3, x4, x5⟩ := ok2
              have x3' := x3 (Or.inr (Or.inr (Or.inr rfl)))
              rw [if_neg (by omega)] at x5
              dsimp only at x1 x2 x3' x4 x5
              have fr3 := fr2.tr (q1.le (by omega : f ≤ f + 1))
              have hm3 := fr3.sh hm
              have ag3 : Ag (gRec (hI h3 (m + 1)) f) a.2 := (q1.rec (by omega)).tr ag2
              show GW z w 2 _ 0 0 _ _ [.int 1] _
              refine g_if_ne C 39 (gd DX10_readSum_0 17 rfl) (by decide) (fun c34 => ?_) (fun c34 => ?_)
              · refine g_aload_n C (gd DX10_readSum_0 20 rfl) 0 rfl rfl ?_
                refine g_iload_n C (gd DX10_readSum_0 21 rfl) 1 rfl rfl ?_
                refine g_iload_n C (gd DX10_readSum_0 22 rfl) 1 rfl rfl ?_
                refine g_iconst (v := 1) C (gd DX10_readSum_0 23 rfl) (by decide) ?_
                refine g_iadd C (gd DX10_readSum_0 24 rfl) ?_
                rw [show nI f + 1 = nI (f + 1) from nx_add (b := 1) rfl rfl]
                refine g_iload_n C (gd DX10_readSum_0 25 rfl) 1 rfl rfl ?_
                refine g_iconst (v := 2) C (gd DX10_readSum_0 26 rfl) (by decide) ?_
                refine g_iadd C (gd DX10_readSum_0 27 rfl) ?_
                rw [show nI f + 2 = nI (f + 2) from nx_add (b := 2) rfl rfl]
                refine g_cV0 (v := .null) (ci := 10) C [_, _, _] mX10_sums lm_TestJudgeModel_243 (by exact hm3.1) rfl rfl (e_m_sums hm3 (x := f) (y := f + 1) (t := f + 2) (a := a.1) (b := b.1) (by omega) (by omega) (by omega) (by omega) (by omega) (by rw [ag3 0 (by omega)]; exact oka.1) (by rw [q4 0 (by omega)]; exact x4.1) (by omega)) hfl (by first | decide | omega) (by decide) (by omega) (by omega) rfl rfl (Nat.le_of_ble_eq_true rfl) (gd DX10_readSum_0 28 rfl) ?_
                rw [rSum_ag ag3 q4]
                generalize hg : sF h3 (m + 1) (pRec (hI h3 (m + 1)) (f + 2) (rSum a.2 b.2 a.1 b.1)) = h4
                have e4 : h4 = hRc m h3 (f + 2) (rSum a.2 b.2 a.1 b.1) := hg.symm
                have fr4 : rdF m f h h4 := by rw [e4]; exact fr3.tr (rdF.rc (by omega))
                have hm4 := fr4.sh hm
                have T4 : mTk m h4 tx n j2 := by rw [e4]; exact T2.rc
                have r4 : Ag (gRec (hI h4 (m + 1)) (f + 2)) (rSum a.2 b.2 a.1 b.1) := by rw [e4]; exact hRc_at
                have m4 : hI h4 m = hI h3 m := by rw [e4]; exact hRc_m
                clear hg e4
                refine g_aload_n C (gd DX10_readSum_0 29 rfl) 0 rfl rfl ?_
                refine g_iload_n C (gd DX10_readSum_0 30 rfl) 1 rfl rfl ?_
                refine g_iconst (v := 2) C (gd DX10_readSum_0 31 rfl) (by decide) ?_
                refine g_iadd C (gd DX10_readSum_0 32 rfl) ?_
                rw [show nI f + 2 = nI (f + 2) from nx_add (b := 2) rfl rfl]
                refine g_iload_n C (gd DX10_readSum_0 33 rfl) 1 rfl rfl ?_
                refine g_cV0 (v := .null) (ci := 10) C [_, _] mX10_copies lm_TestJudgeModel_246 (by exact hm4.1) rfl rfl (e_m_copies hm4 (r := f + 2) (t := f) (by omega) (by omega) (by omega)) hfl (by first | decide | omega) (by decide) (by omega) (by omega) rfl rfl (Nat.le_of_ble_eq_true rfl) (gd DX10_readSum_0 34 rfl) ?_
                refine g_aload_n C (gd DX10_readSum_0 35 rfl) 0 rfl rfl ?_
                refine g_iload_n C (gd DX10_readSum_0 36 rfl) 1 rfl rfl ?_
                refine g_iconst (v := 1) C (gd DX10_readSum_0 37 rfl) (by decide) ?_
                refine g_iadd C (gd DX10_readSum_0 38 rfl) ?_
                rw [show nI f + 1 = nI (f + 1) from nx_add (b := 1) rfl rfl]
                refine g_puti (ci := 10) (k := 25) C rfl (by decide) rfl lf_TestJudgeModel_234 hm4.1 (Or.inl rfl) rfl (gd DX10_readSum_0 39 rfl) ?_
                refine g_goto (tgt := 14) C (gd DX10_readSum_0 40 rfl) (by decide) ?_
                refine ih (sI (hRc m h4 f (gRec (hI h4 (m + 1)) (f + 2))) m 25 (nI (f + 1))) j2 (a.1 + b.1, rSum a.2 b.2 a.1 b.1) (by omega) ((fr4.tr (rdF.rc (Nat.le_refl f))).tr (rdF.i (by omega) (by omega))) (T4.rc.i (by omega)) ?_ ?_ ?_ (by omega) x2 (oka.sum x4) ?_ (by omega) hz1
                · rw [hI_sI, if_neg (by omega), hRc_m, m4]; exact q2
                · rw [hI_sI, if_pos ⟨rfl, rfl⟩]
                · rw [sR_rec]
                  exact hRc_at.tr r4
                · show a.1 + b.1 ≤ 5 * (j2 - j)
                  omega
              · exact absurd c34 (by decide)
      · rw [b1_f e]
        rw [pz_5n e] at hz1
        cases some_inj_r hz1
        refine g_if_eq C 68 (gd DX10_readSum_0 11 rfl) (by decide) (fun c20 => ?_) (fun c20 => ?_)
        · refine g_iconst (v := 1) C (gd DX10_readSum_0 41 rfl) (by decide) ?_
          exact g_zret C (by decide) (by omega) (by omega) ⟨fr, rfl, T1, p26, p25, ag⟩ (gd DX10_readSum_0 42 rfl)
        · exact absurd rfl c20
  refine g_aload_n C (gd DX10_readSum_0 0 rfl) 0 rfl rfl ?_
  refine g_geti (ci := 10) (k := 25) C rfl (by decide) rfl lf_TestJudgeModel_234 hm.1 (gd DX10_readSum_0 1 rfl) ?_
  rw [hf]
  refine g_istore_n (lv' := [(0, _), (1, _)]) C (gd DX10_readSum_0 2 rfl) [1, 0] rfl (by decide) rfl ?_
  refine g_aload_n C (gd DX10_readSum_0 3 rfl) 0 rfl rfl ?_
  refine g_callV (ci := 10) C [] mX10_readRow lm_TestJudgeModel_237 (by exact hm.1) rfl rfl (hO F (Nat.le_refl F) h o f j acc r1 hm N T ho ho4 hf h22 (by omega) hj (by omega) hr1) hfl (by first | decide | omega) (by decide) (by omega) (by omega) rfl rfl (Nat.le_of_ble_eq_true rfl) (gd DX10_readSum_0 4 rfl) (fun r h2 hp => ?_)
  rcases r1 with x | ⟨j1, a⟩
  · obtain ⟨p1, rfl, p2, p3⟩ := hp
    cases some_inj_r (show some (Sum.inl x) = some r from hz)
    show GW z w 2 _ 0 0 _ _ [.int 0] _
    refine g_if_ne C 14 (gd DX10_readSum_0 5 rfl) (by decide) (fun c9 => ?_) (fun c9 => ?_)
    · exact absurd rfl c9
    · refine g_iconst (v := 0) C (gd DX10_readSum_0 6 rfl) (by decide) ?_
      exact g_zret C (by decide) (by omega) (by omega) ⟨p1, rfl, p2, p3⟩ (gd DX10_readSum_0 7 rfl)
  · obtain ⟨p1, rfl, T1, p2, p3, p4⟩ := hp
    obtain ⟨x1, x2, x3, x4, x5⟩ := ok1
    have x3' := x3 (Or.inr (Or.inr (Or.inr rfl)))
    rw [if_neg (by omega)] at x5
    dsimp only at x1 x2 x3' x4 x5
    show GW z w 2 _ 0 0 _ _ [.int 1] _
    refine g_if_ne C 14 (gd DX10_readSum_0 5 rfl) (by decide) (fun c9 => ?_) (fun c9 => ?_)
    · exact loop F _ j1 a (Nat.le_refl F) p1 T1 p2 p3 p4 (by omega) x2 x4 (by omega) (by omega) hz
    · exact absurd c9 (by decide)
end M53
