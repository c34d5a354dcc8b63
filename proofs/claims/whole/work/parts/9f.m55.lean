/-! reading in the reference: while, bases; all of it -/
section M55
variable {w : gD} {m : Nat} {tx : Nat → Nat} {n c nt na np : Nat} {W : Nat → Nat} {PR : Nat → pR}
theorem rd_while (si : gSI w) (hc : ∀ j, j < c → cdT tx n j ≠ 0 → j + 1 < c) (hc5 : c ≤ 501) {F : Nat} (hS : cRS w m tx n c nt na np W PR F) {h : HS} {o f j : Nat} {acc : pR} {r : pRz} (hm : mSh m h) (N : rdN m h nt na np W PR) (T : mTk m h tx n j) (ho : hI h m 26 = nI o) (ho4 : o ≤ 4) (hf : hI h m 25 = nI f) (h22 : 22 ≤ f) (hcap : f + 5 + 4 * (4 - o) < 102) (hj : j < c) (hF : 8 * (c - j) < F + 1) (hcd : cdT tx n j = 24388997) (hz : pz (envT tx n nt na np W PR) (F + 1) 0 o j acc = some r) : Ev w (9 + 5 * (4 - o)) 0 0 yX10_readWhile cX10_readWhile 3 (some .boolean) [.ref m] h (rdP m h tx n f o r) := by
  refine g_start (by decide) (Nat.le_of_ble_eq_true rfl) [(0, _)] rfl (fun z hfl C => ?_)
  have no : ∀ h', rdP m h tx n f o r (some (.int 0)) h' → GW z w 3 (gQ z w 0 0 (fun r' h'' => rdP m h tx n f o r r' h'')) 0 0 27 [(0, .ref m), (1, .int (nI f))] [] h' := by
    intro h' q
    refine g_iconst (v := 0) C (gd DX10_readWhile_0 13 rfl) (by decide) ?_
    exact g_zret C (by decide) (by omega) (by omega) q (gd DX10_readWhile_0 14 rfl)
  have no2 : ∀ h', rdP m h tx n f o r (some (.int 0)) h' → GW z w 3 (gQ z w 0 0 (fun r' h'' => rdP m h tx n f o r r' h'')) 0 0 62 [(0, .ref m), (1, .int (nI f))] [] h' := by
    intro h' q
    refine g_iconst (v := 0) C (gd DX10_readWhile_0 30 rfl) (by decide) ?_
    exact g_zret C (by decide) (by omega) (by omega) q (gd DX10_readWhile_0 31 rfl)
  have hj1 := hc j hj (by omega)
  refine g_aload_n C (gd DX10_readWhile_0 0 rfl) 0 rfl rfl ?_
  refine g_geti (ci := 10) (k := 25) C rfl (by decide) rfl lf_TestJudgeModel_234 hm.1 (gd DX10_readWhile_0 1 rfl) ?_
  rw [hf]
  refine g_istore_n (lv' := [(0, _), (1, _)]) C (gd DX10_readWhile_0 2 rfl) [1, 0] rfl (by decide) rfl ?_
  refine g_aload_n C (gd DX10_readWhile_0 3 rfl) 0 rfl rfl ?_
  refine g_callV (ci := 10) C [] mX10_opens lm_TestJudgeModel_279 (by exact hm.1) rfl rfl (e_t_opens si hm T ho ho4) hfl (by first | decide | omega) (by decide) (by omega) (by omega) rfl rfl (Nat.le_of_ble_eq_true rfl) (gd DX10_readWhile_0 4 rfl) (fun r h2 hp => ?_)
  rcases hp with ⟨e4, rfl, rfl⟩ | ⟨e4, rfl, h1, a1, a2, rfl⟩
  · rw [pz_o4 (Or.inr (Or.inr (Or.inr hcd))) e4] at hz
    cases some_inj_r hz
    show GW z w 3 _ 0 0 _ _ [.int 0] _
    refine g_if_eq C 27 (gd DX10_readWhile_0 5 rfl) (by decide) (fun c9 => ?_) (fun c9 => ?_)
    · exact no _ (rd_bad (rdF.rf m f h))
    · exact absurd rfl c9
  rw [pz_wh hcd e4] at hz
  have fr1 : rdF m f h (sI h1 m 26 (nI (o + 1))) := (rdF.nx a1).tr (rdF.i (by omega) (by omega))
  have o1 : hI (sI h1 m 26 (nI (o + 1))) m 26 = nI (o + 1) := by rw [hI_sI, if_pos ⟨rfl, rfl⟩]
  have f1 : hI (sI h1 m 26 (nI (o + 1))) m 25 = nI f := by rw [hI_sI, if_neg (by omega), a1.2.1 m 25 (by omega)]; exact hf
  have T1 : mTk m (sI h1 m 26 (nI (o + 1))) tx n (j + 1) := a2.i (by omega)
  generalize sI h1 m 26 (nI (o + 1)) = g1 at fr1 o1 f1 T1 ⊢
  have hm1 := fr1.sh hm
  have N1 := N.fr fr1 h22
  obtain ⟨r1, hr1, ok1⟩ := pz_tot (E := envT tx n nt na np W PR) hc N.nm F 4 (o + 1) (j + 1) acc (by omega) hj1 (show 8 * (c - (j + 1)) + 3 < F by omega) (fun q => by omega)
  rw [hr1] at hz
  show GW z w 3 _ 0 0 _ _ [.int 1] _
  refine g_if_eq C 27 (gd DX10_readWhile_0 5 rfl) (by decide) (fun c9 => ?_) (fun c9 => ?_)
  · exact absurd c9 (by decide)
  refine g_aload_n C (gd DX10_readWhile_0 6 rfl) 0 rfl rfl ?_
  refine g_callV (ci := 10) C [] mX10_readSum lm_TestJudgeModel_285 (by exact hm1.1) rfl rfl (hS g1 (o + 1) f (j + 1) acc r1 hm1 N1 T1 o1 (by omega) f1 h22 (by omega) hj1 (by omega) hr1) hfl (by first | decide | omega) (by decide) (by omega) (by omega) rfl rfl (Nat.le_of_ble_eq_true rfl) (gd DX10_readWhile_0 7 rfl) (fun r g2 hp => ?_)
  rcases r1 with x | ⟨j1, t⟩
  · obtain ⟨q1, rfl, q2, q3⟩ := hp
    cases some_inj_r (show some (Sum.inl x) = some r from hz)
    show GW z w 3 _ 0 0 _ _ [.int 0] _
    refine g_if_eq C 27 (gd DX10_readWhile_0 8 rfl) (by decide) (fun c16 => ?_) (fun c16 => ?_)
    · exact no _ ⟨fr1.g.tr q1, rfl, q2, q3⟩
    · exact absurd rfl c16
  obtain ⟨q1, rfl, T2, o2, f2, g2a⟩ := hp
  obtain ⟨x1, x2, x3, x4, x5⟩ := ok1
  have x3' := x3 (Or.inr (Or.inr (Or.inl rfl)))
  rw [if_neg (by omega)] at x5
  dsimp only at x1 x2 x3' x4 x5 T2 g2a
  have fr2 := fr1.tr q1
  have hm2 := fr2.sh hm
  have N2 := N.fr fr2 h22
  change (if t.1 ≠ 0 then _ else _) = some r at hz
  show GW z w 3 _ 0 0 _ _ [.int 1] _
  refine g_if_eq C 27 (gd DX10_readWhile_0 8 rfl) (by decide) (fun c16 => ?_) (fun c16 => ?_)
  · exact absurd c16 (by decide)
  refine g_aload_n C (gd DX10_readWhile_0 9 rfl) 0 rfl rfl ?_
  refine g_iload_n C (gd DX10_readWhile_0 10 rfl) 1 rfl rfl ?_
  refine g_cV1 (ci := 10) C [_] mX10_isPlain lm_TestJudgeModel_282 (by exact hm2.1) rfl rfl (e_t_plain hm2 T2 (t := f) (a := t.1) (by omega) (by rw [g2a 0 (by omega)]; exact x4.1) (by omega)) hfl (by first | decide | omega) (by decide) (by omega) (by omega) rfl rfl (Nat.le_of_ble_eq_true rfl) (gd DX10_readWhile_0 11 rfl) ?_
  by_cases et : t.1 = 0
  rotate_left
  · rw [b1_f et, if_neg et]
    rw [if_pos et] at hz
    cases some_inj_r hz
    refine g_if_ne C 29 (gd DX10_readWhile_0 12 rfl) (by decide) (fun c24 => ?_) (fun c24 => ?_)
    · exact absurd rfl c24
    · exact no _ (rd_bad (k := 5) fr2)
  rw [b1_t et, if_pos et]
  rw [if_neg (fun q => q et)] at hz
  change (if cdT tx n j1 ≠ 143 then _ else _) = some r at hz
  refine g_if_ne C 29 (gd DX10_readWhile_0 12 rfl) (by decide) (fun c24 => ?_) (fun c24 => ?_)
  rotate_left
  · exact absurd c24 (by decide)
  refine g_aload_n C (gd DX10_readWhile_0 15 rfl) 0 rfl rfl ?_
  refine g_aload_n C (gd DX10_readWhile_0 16 rfl) 0 rfl rfl ?_
  refine g_bipush (v := 8) C (gd DX10_readWhile_0 17 rfl) (by decide) ?_
  refine g_cV1 (ci := 10) C [_] mX10_isWord lm_TestJudgeModel_252 (by exact hm2.1) rfl rfl (e_t_word hm2 T2 (i := 8) (c := 143) (by decide) rfl) hfl (by first | decide | omega) (by decide) (by omega) (by omega) rfl rfl (Nat.le_of_ble_eq_true rfl) (gd DX10_readWhile_0 18 rfl) ?_
  refine g_callV (ci := 10) C [_] mX10_needs lm_TestJudgeModel_288 (by exact hm2.1) rfl rfl (e_t_needs si hm2 T2 (cdT tx n j1 = 143)) hfl (by first | decide | omega) (by decide) (by omega) (by omega) rfl rfl (Nat.le_of_ble_eq_true rfl) (gd DX10_readWhile_0 19 rfl) (fun r g3 hp => ?_)
  rcases hp with ⟨ec, rfl, b1, T3⟩ | ⟨ec, rfl, rfl⟩
  rotate_left
  · rw [if_pos ec] at hz
    cases some_inj_r hz
    show GW z w 3 _ 0 0 _ _ [.int 0] _
    refine g_if_eq C 62 (gd DX10_readWhile_0 20 rfl) (by decide) (fun c39 => ?_) (fun c39 => ?_)
    · exact no2 _ (rd_bad fr2)
    · exact absurd rfl c39
  rw [if_neg (fun q => q ec)] at hz
  have hj2 := hc j1 x2 (by omega)
  have fr3 := fr2.tr (rdF.nx b1)
  have hm3 := fr3.sh hm
  have N3 := N.fr fr3 h22
  have o3 : hI g3 m 26 = nI (o + 1) := by rw [b1.2.1 m 26 (by omega)]; exact o2
  have f3 : hI g3 m 25 = nI (f + 1) := by rw [b1.2.1 m 25 (by omega)]; exact f2
  have g3a : Ag (gRec (hI g3 (m + 1)) f) t.2 := by rw [show hI g3 (m + 1) = hI g2 (m + 1) from funext fun k => b1.2.1 (m + 1) k (by omega)]; exact g2a
  obtain ⟨r2, hr2, ok2⟩ := pz_tot (E := envT tx n nt na np W PR) hc N.nm F 4 (o + 1) (j1 + 1) acc (by omega) hj2 (show 8 * (c - (j1 + 1)) + 3 < F by omega) (fun q => by omega)
  rw [hr2] at hz
  show GW z w 3 _ 0 0 _ _ [.int 1] _
  refine g_if_eq C 62 (gd DX10_readWhile_0 20 rfl) (by decide) (fun c39 => ?_) (fun c39 => ?_)
  · exact absurd c39 (by decide)
  refine g_aload_n C (gd DX10_readWhile_0 21 rfl) 0 rfl rfl ?_
  refine g_callV (ci := 10) C [] mX10_readSum lm_TestJudgeModel_285 (by exact hm3.1) rfl rfl (hS g3 (o + 1) (f + 1) (j1 + 1) acc r2 hm3 N3 T3 o3 (by omega) f3 (by omega) (by omega) hj2 (by omega) hr2) hfl (by first | decide | omega) (by decide) (by omega) (by omega) rfl rfl (Nat.le_of_ble_eq_true rfl) (gd DX10_readWhile_0 22 rfl) (fun r g4 hp => ?_)
  rcases r2 with x | ⟨j2, u⟩
  · obtain ⟨q1, rfl, q2, q3⟩ := hp
    cases some_inj_r (show some (Sum.inl x) = some r from hz)
    show GW z w 3 _ 0 0 _ _ [.int 0] _
    refine g_if_eq C 62 (gd DX10_readWhile_0 23 rfl) (by decide) (fun c46 => ?_) (fun c46 => ?_)
    · exact no2 _ ⟨fr3.g.tr (q1.le (by omega)), rfl, q2, q3⟩
    · exact absurd rfl c46
  obtain ⟨q4, rfl, T4, o4, f4, g4b⟩ := hp
  obtain ⟨y1, y2, y3, y4, y5⟩ := ok2
  have y3' := y3 (Or.inr (Or.inr (Or.inl rfl)))
  rw [if_neg (by omega)] at y5
  dsimp only at y1 y2 y3' y4 y5 T4 g4b
  have fr4 := fr3.tr (q4.le (by omega : f ≤ f + 1))
  have hm4 := fr4.sh hm
  have N4 := N.fr fr4 h22
  have g4a : Ag (gRec (hI g4 (m + 1)) f) t.2 := (q4.rec (by omega)).tr g3a
  change (if cdT tx n j2 ≠ 5572 then _ else _) = some r at hz
  show GW z w 3 _ 0 0 _ _ [.int 1] _
  refine g_if_eq C 62 (gd DX10_readWhile_0 23 rfl) (by decide) (fun c46 => ?_) (fun c46 => ?_)
  · exact absurd c46 (by decide)
  refine g_aload_n C (gd DX10_readWhile_0 24 rfl) 0 rfl rfl ?_
  refine g_aload_n C (gd DX10_readWhile_0 25 rfl) 0 rfl rfl ?_
  refine g_bipush (v := 9) C (gd DX10_readWhile_0 26 rfl) (by decide) ?_
  refine g_cV1 (ci := 10) C [_] mX10_isWord lm_TestJudgeModel_252 (by exact hm4.1) rfl rfl (e_t_word hm4 T4 (i := 9) (c := 5572) (by decide) rfl) hfl (by first | decide | omega) (by decide) (by omega) (by omega) rfl rfl (Nat.le_of_ble_eq_true rfl) (gd DX10_readWhile_0 27 rfl) ?_
  refine g_callV (ci := 10) C [_] mX10_needs lm_TestJudgeModel_288 (by exact hm4.1) rfl rfl (e_t_needs si hm4 T4 (cdT tx n j2 = 5572)) hfl (by first | decide | omega) (by decide) (by omega) (by omega) rfl rfl (Nat.le_of_ble_eq_true rfl) (gd DX10_readWhile_0 28 rfl) (fun r g7 hp => ?_)
  rcases hp with ⟨ec3, rfl, b3, T7⟩ | ⟨ec3, rfl, rfl⟩
  rotate_left
  · rw [if_pos ec3] at hz
    cases some_inj_r hz
    show GW z w 3 _ 0 0 _ _ [.int 0] _
    refine g_if_ne C 64 (gd DX10_readWhile_0 29 rfl) (by decide) (fun c59 => ?_) (fun c59 => ?_)
    · exact absurd rfl c59
    · exact no2 _ (rd_bad fr4)
  rw [if_neg (fun q => q ec3)] at hz
  cases some_inj_r hz
  have er : hI g7 (m + 1) = hI g4 (m + 1) := funext fun k => b3.2.1 (m + 1) k (by omega)
  have s7 : rdS m h tx n f (j2 + 1) t.2 u.2 (gRec (hI g7 (m + 1)) (f + 2)) (o + 1) (f + 2) g7 := ⟨fr4.tr (rdF.nx b3), T7, ⟨by rw [er]; exact g4a, by rw [er]; exact g4b, fun _ _ => rfl⟩, by rw [b3.2.1 m 26 (by omega)]; exact o4, by rw [b3.2.1 m 25 (by omega)]; exact f4⟩
  have hm7 := s7.1.sh hm
  show GW z w 3 _ 0 0 _ _ [.int 1] _
  refine g_if_ne C 64 (gd DX10_readWhile_0 29 rfl) (by decide) (fun c59 => ?_) (fun c59 => ?_)
  rotate_left
  · exact absurd c59 (by decide)
  refine g_aload_n C (gd DX10_readWhile_0 32 rfl) 0 rfl rfl ?_
  refine g_dup C (gd DX10_readWhile_0 33 rfl) rfl ?_
  refine g_geti (ci := 10) (k := 26) C rfl (by decide) rfl lf_TestJudgeModel_273 hm7.1 (gd DX10_readWhile_0 34 rfl) ?_
  rw [s7.2.2.2.1]
  refine g_iconst (v := 1) C (gd DX10_readWhile_0 35 rfl) (by decide) ?_
  refine g_isub C (gd DX10_readWhile_0 36 rfl) ?_
  rw [show nI (o + 1) - 1 = nI o from nx_sub (a := o + 1) (b := 1) rfl rfl (by omega)]
  refine g_puti (ci := 10) (k := 26) C rfl (by decide) rfl lf_TestJudgeModel_273 hm7.1 (Or.inl rfl) rfl (gd DX10_readWhile_0 37 rfl) ?_
  have s8 := s7.o o
  generalize sI g7 m 26 (nI o) = g8 at s8 ⊢
  have hm8 := s8.1.sh hm
  have N8 := N.fr s8.1 h22
  refine g_aload_n C (gd DX10_readWhile_0 38 rfl) 0 rfl rfl ?_
  refine g_iload_n C (gd DX10_readWhile_0 39 rfl) 1 rfl rfl ?_
  refine g_iconst (v := 1) C (gd DX10_readWhile_0 40 rfl) (by decide) ?_
  refine g_cV1 (ci := 10) C [_, _] mX10_at lm_TestJudgeModel_131 (by exact hm8.1) rfl rfl (e_m_at hm8 (j := 307 * f + 1) (r_ix f 1) (by omega)) hfl (by first | decide | omega) (by decide) (by omega) (by omega) rfl rfl (Nat.le_of_ble_eq_true rfl) (gd DX10_readWhile_0 41 rfl) ?_
  rw [show hI g8 (m + 1) (307 * f + 1) = t.2 1 from s8.2.2.1.1 1 (by omega)]
  refine g_istore_n (lv' := [(0, _), (1, _), (2, _)]) C (gd DX10_readWhile_0 42 rfl) [1, 2, 0] rfl (by decide) rfl ?_
  refine g_aload_n C (gd DX10_readWhile_0 43 rfl) 0 rfl rfl ?_
  refine g_iload_n C (gd DX10_readWhile_0 44 rfl) 1 rfl rfl ?_
  refine g_iconst (v := 1) C (gd DX10_readWhile_0 45 rfl) (by decide) ?_
  refine g_iadd C (gd DX10_readWhile_0 46 rfl) ?_
  rw [show nI f + 1 = nI (f + 1) from nx_add (b := 1) rfl rfl]
  refine g_iload_n C (gd DX10_readWhile_0 47 rfl) 2 rfl rfl ?_
  refine g_aload_n C (gd DX10_readWhile_0 48 rfl) 0 rfl rfl ?_
  refine g_cV1 (ci := 10) C [] mX10_all lm_TestJudgeModel_267 (by exact hm8.1) rfl rfl (e_m_all hm8) hfl (by first | decide | omega) (by decide) (by omega) (by omega) rfl rfl (Nat.le_of_ble_eq_true rfl) (gd DX10_readWhile_0 49 rfl) ?_
  rw [N8.2.1.1]
  refine g_cV0 (v := .null) (ci := 10) C [_, _, _] mX10_whiles lm_TestJudgeModel_307 (by exact hm8.1) rfl rfl (e_v_whiles hm8 (t := f + 1) (a := u.1) (by omega) (by rw [s8.2.2.1.2.1 0 (by omega)]; exact y4.1) (by omega) _ _) hfl (by first | decide | omega) (by decide) (by omega) (by omega) rfl rfl (Nat.le_of_ble_eq_true rfl) (gd DX10_readWhile_0 50 rfl) ?_
  have s9 := (s8.rc1 (rFinish (rStar (rBegins (gRec (hI g8 (m + 1)) (f + 1)) u.1 (t.2 1)) u.1 (allF (nI nt))) u.1 (allF (nI nt) &&& (t.2 1 ^^^ -1)))).b (rFinish_ag (rStar_ag (rBegins_ag s8.2.2.1.2.1 _ _) _ _) _ _)
  generalize hRc m g8 (f + 1) (rFinish (rStar (rBegins (gRec (hI g8 (m + 1)) (f + 1)) u.1 (t.2 1)) u.1 (allF (nI nt))) u.1 (allF (nI nt) &&& (t.2 1 ^^^ -1))) = g9 at s9 ⊢
  have hm9 := s9.1.sh hm
  refine g_aload_n C (gd DX10_readWhile_0 51 rfl) 0 rfl rfl ?_
  refine g_iload_n C (gd DX10_readWhile_0 52 rfl) 1 rfl rfl ?_
  refine g_iconst (v := 1) C (gd DX10_readWhile_0 53 rfl) (by decide) ?_
  refine g_iadd C (gd DX10_readWhile_0 54 rfl) ?_
  rw [show nI f + 1 = nI (f + 1) from nx_add (b := 1) rfl rfl]
  refine g_iload_n C (gd DX10_readWhile_0 55 rfl) 1 rfl rfl ?_
  refine g_cV0 (v := .null) (ci := 10) C [_, _] mX10_copies lm_TestJudgeModel_246 (by exact hm9.1) rfl rfl (e_m_copies hm9 (r := f + 1) (t := f) (by omega) (by omega) (by omega)) hfl (by first | decide | omega) (by decide) (by omega) (by omega) rfl rfl (Nat.le_of_ble_eq_true rfl) (gd DX10_readWhile_0 56 rfl) ?_
  have s10 := (s9.rc0 (gRec (hI g9 (m + 1)) (f + 1))).a s9.2.2.1.2.1
  generalize hg : sF g9 (m + 1) (pRec (hI g9 (m + 1)) f (gRec (hI g9 (m + 1)) (f + 1))) = g10
  have e10 : hRc m g9 f (gRec (hI g9 (m + 1)) (f + 1)) = g10 := hg
  rw [e10] at s10
  clear hg e10
  have hm10 := s10.1.sh hm
  refine g_aload_n C (gd DX10_readWhile_0 57 rfl) 0 rfl rfl ?_
  refine g_iload_n C (gd DX10_readWhile_0 58 rfl) 1 rfl rfl ?_
  refine g_iconst (v := 1) C (gd DX10_readWhile_0 59 rfl) (by decide) ?_
  refine g_iadd C (gd DX10_readWhile_1 0 rfl) ?_
  rw [show nI f + 1 = nI (f + 1) from nx_add (b := 1) rfl rfl]
  refine g_puti (ci := 10) (k := 25) C rfl (by decide) rfl lf_TestJudgeModel_234 hm10.1 (Or.inl rfl) rfl (gd DX10_readWhile_1 1 rfl) ?_
  refine g_iconst (v := 1) C (gd DX10_readWhile_1 2 rfl) (by decide) ?_
  exact g_zret C (by decide) (by omega) (by omega) (s10.fr (f + 1)).ok (gd DX10_readWhile_1 3 rfl)
theorem rd_base (si : gSI w) (hc : ∀ j, j < c → cdT tx n j ≠ 0 → j + 1 < c) (hc5 : c ≤ 501) {F : Nat} (hB : cRB w m tx n c nt na np W PR F) (hS : cRS w m tx n c nt na np W PR F) : cRB w m tx n c nt na np W PR (F + 1) := by
  intro h o f j acc r hm N T ho ho4 hf h22 hcap hj hF hz
  refine g_start (by decide) (Nat.le_of_ble_eq_true rfl) [(0, _)] rfl (fun z hfl C => ?_)
  have no95 : ∀ h', rdP m h tx n f o r (some (.int 0)) h' → GW z w 2 (gQ z w 0 0 (fun r' h'' => rdP m h tx n f o r r' h'')) 0 0 95 [(0, .ref m), (1, .int (nI f))] [] h' := by
    intro h' q
    refine g_iconst (v := 0) C (gd DX10_readBase_0 47 rfl) (by decide) ?_
    exact g_zret C (by decide) (by omega) (by omega) q (gd DX10_readBase_0 48 rfl)
  have no173 : ∀ h', rdP m h tx n f o r (some (.int 0)) h' → GW z w 2 (gQ z w 0 0 (fun r' h'' => rdP m h tx n f o r r' h'')) 0 0 173 [(0, .ref m), (1, .int (nI f))] [] h' := by
    intro h' q
    refine g_iconst (v := 0) C (gd DX10_readBase_1 31 rfl) (by decide) ?_
    exact g_zret C (by decide) (by omega) (by omega) q (gd DX10_readBase_1 32 rfl)
  -- a record is laid, and the next token comes
  have k42 : ∀ e j0, rdP m h tx n f o r = rdP m h tx n f o (.inr (j + 1, (0, rPlain e))) → j0 = j → GW z w 2 (gQ z w 0 0 (fun r' h'' => rdP m h tx n f o r r' h'')) 0 0 42 [(0, .ref m), (1, .int (nI f))] [.int e, .int (nI f), .ref m] h := by
    intro e j0 hr hj0
    refine g_cV0 (v := .null) (ci := 10) C [_, _] mX10_plain lm_TestJudgeModel_127 (by exact hm.1) rfl rfl (e_m_plain hm (t := f) (by omega) e) hfl (by first | decide | omega) (by decide) (by omega) (by omega) rfl rfl (Nat.le_of_ble_eq_true rfl) (gd DX10_readBase_0 21 rfl) ?_
    have T2 : mTk m (hRc m h f (rPlain e)) tx n j := T.rc
    have r2 : Ag (gRec (hI (hRc m h f (rPlain e)) (m + 1)) f) (rPlain e) := hRc_at
    have m2 : hI (hRc m h f (rPlain e)) m = hI h m := hRc_m
    have fr2 : rdF m f h (hRc m h f (rPlain e)) := rdF.rc (Nat.le_refl f)
    show GW z w 2 _ 0 0 _ _ _ (hRc m h f (rPlain e))
    generalize hRc m h f (rPlain e) = g2 at T2 r2 m2 fr2 ⊢
    have hm2 := fr2.sh hm
    refine g_aload_n C (gd DX10_readBase_0 22 rfl) 0 rfl rfl ?_
    refine g_dup C (gd DX10_readBase_0 23 rfl) rfl ?_
    refine g_geti (ci := 10) (k := 25) C rfl (by decide) rfl lf_TestJudgeModel_234 hm2.1 (gd DX10_readBase_0 24 rfl) ?_
    rw [m2, hf]
    refine g_iconst (v := 1) C (gd DX10_readBase_0 25 rfl) (by decide) ?_
    refine g_iadd C (gd DX10_readBase_0 26 rfl) ?_
    rw [show nI f + 1 = nI (f + 1) from nx_add (b := 1) rfl rfl]
    refine g_puti (ci := 10) (k := 25) C rfl (by decide) rfl lf_TestJudgeModel_234 hm2.1 (Or.inl rfl) rfl (gd DX10_readBase_0 27 rfl) ?_
    refine g_aload_n C (gd DX10_readBase_0 28 rfl) 0 rfl rfl ?_
    refine g_callV (ci := 10) C [] mX10_goes lm_TestJudgeModel_215 (by exact hm2.1) rfl rfl (e_t_goes (h := sI g2 m 25 (nI (f + 1))) si (by exact hm2) (T2.i (by omega))) hfl (by first | decide | omega) (by decide) (by omega) (by omega) rfl rfl (Nat.le_of_ble_eq_true rfl) (gd DX10_readBase_0 29 rfl) (fun r g3 hp => ?_)
    obtain ⟨rfl, a1, a2⟩ := hp
    refine g_zret C (by decide) (by omega) (by omega) ?_ (gd DX10_readBase_0 30 rfl)
    rw [hr]
    refine ⟨(fr2.tr (rdF.i (by omega) (by omega))).tr (rdF.nx a1), rfl, a2, ?_, ?_, ?_⟩
    · rw [a1.2.1 m 26 (by omega), hI_sI, if_neg (by omega), m2]; exact ho
    · rw [a1.2.1 m 25 (by omega), hI_sI, if_pos ⟨rfl, rfl⟩]
    · intro k hk
      show hI g3 (m + 1) (307 * f + k) = _
      rw [a1.2.1 (m + 1) _ (by omega), hI_sI_ne (by omega)]
      exact r2 k hk
  refine g_aload_n C (gd DX10_readBase_0 0 rfl) 0 rfl rfl ?_
  refine g_geti (ci := 10) (k := 25) C rfl (by decide) rfl lf_TestJudgeModel_234 hm.1 (gd DX10_readBase_0 1 rfl) ?_
  rw [hf]
  refine g_istore_n (lv' := [(0, _), (1, _)]) C (gd DX10_readBase_0 2 rfl) [1, 0] rfl (by decide) rfl ?_
  refine g_aload_n C (gd DX10_readBase_0 3 rfl) 0 rfl rfl ?_
  refine g_bipush (v := 48) C (gd DX10_readBase_0 4 rfl) (by decide) ?_
  refine g_cV1 (ci := 10) C [_] mX10_isSign lm_TestJudgeModel_240 (by exact hm.1) rfl rfl (e_t_sign hm T (k := 48) (by decide)) hfl (by first | decide | omega) (by decide) (by omega) (by omega) rfl rfl (Nat.le_of_ble_eq_true rfl) (gd DX10_readBase_0 5 rfl) ?_
  have h21 : cdT tx n j ∈ sgL → hI h m 21 = nI (cdT tx n j) := fun q => ((T.2.2.2.sg q).mpr rfl).2
  by_cases e48 : cdT tx n j = 48
  · rw [b1_t e48]
    rw [pz_48 e48] at hz
    cases some_inj_r hz
    refine g_if_ne C 23 (gd DX10_readBase_0 6 rfl) (by decide) (fun c11 => ?_) (fun c11 => ?_)
    · refine g_aload_n C (gd DX10_readBase_0 11 rfl) 0 rfl rfl ?_
      refine g_iload_n C (gd DX10_readBase_0 12 rfl) 1 rfl rfl ?_
      refine g_aload_n C (gd DX10_readBase_0 13 rfl) 0 rfl rfl ?_
      refine g_geti (ci := 10) (k := 21) C rfl (by decide) rfl lf_TestJudgeModel_171 hm.1 (gd DX10_readBase_0 14 rfl) ?_
      rw [h21 (by rw [e48]; decide), e48]
      refine g_bipush (v := 49) C (gd DX10_readBase_0 15 rfl) (by decide) ?_
      refine g_icmp_ne C 41 (gd DX10_readBase_0 16 rfl) (by decide) (fun c31 => ?_) (fun c31 => ?_)
      · refine g_iconst (v := 0) C (gd DX10_readBase_0 20 rfl) (by decide) ?_
        exact k42 0 j rfl rfl
      · exact absurd c31 (by decide)
    · exact absurd c11 (by decide)
  rw [b1_f e48]
  refine g_if_ne C 23 (gd DX10_readBase_0 6 rfl) (by decide) (fun c11 => ?_) (fun c11 => ?_)
  · exact absurd rfl c11
  refine g_aload_n C (gd DX10_readBase_0 7 rfl) 0 rfl rfl ?_
  refine g_bipush (v := 49) C (gd DX10_readBase_0 8 rfl) (by decide) ?_
  refine g_cV1 (ci := 10) C [_] mX10_isSign lm_TestJudgeModel_240 (by exact hm.1) rfl rfl (e_t_sign hm T (k := 49) (by decide)) hfl (by first | decide | omega) (by decide) (by omega) (by omega) rfl rfl (Nat.le_of_ble_eq_true rfl) (gd DX10_readBase_0 9 rfl) ?_
  by_cases e49 : cdT tx n j = 49
  · rw [b1_t e49]
    rw [pz_49 e49] at hz
    cases some_inj_r hz
    refine g_if_eq C 60 (gd DX10_readBase_0 10 rfl) (by decide) (fun c20 => ?_) (fun c20 => ?_)
    · exact absurd c20 (by decide)
    · refine g_aload_n C (gd DX10_readBase_0 11 rfl) 0 rfl rfl ?_
      refine g_iload_n C (gd DX10_readBase_0 12 rfl) 1 rfl rfl ?_
      refine g_aload_n C (gd DX10_readBase_0 13 rfl) 0 rfl rfl ?_
      refine g_geti (ci := 10) (k := 21) C rfl (by decide) rfl lf_TestJudgeModel_171 hm.1 (gd DX10_readBase_0 14 rfl) ?_
      rw [h21 (by rw [e49]; decide), e49]
      refine g_bipush (v := 49) C (gd DX10_readBase_0 15 rfl) (by decide) ?_
      refine g_icmp_ne C 41 (gd DX10_readBase_0 16 rfl) (by decide) (fun c31 => ?_) (fun c31 => ?_)
      · exact absurd rfl c31
      · refine g_aload_n C (gd DX10_readBase_0 17 rfl) 0 rfl rfl ?_
        refine g_cV1 (ci := 10) C [] mX10_all lm_TestJudgeModel_267 (by exact hm.1) rfl rfl (e_m_all hm) hfl (by first | decide | omega) (by decide) (by omega) (by omega) rfl rfl (Nat.le_of_ble_eq_true rfl) (gd DX10_readBase_0 18 rfl) ?_
        rw [N.2.1.1]
        refine g_goto (tgt := 42) C (gd DX10_readBase_0 19 rfl) (by decide) ?_
        exact k42 (allF (nI nt)) j rfl rfl
  rw [b1_f e49]
  refine g_if_eq C 60 (gd DX10_readBase_0 10 rfl) (by decide) (fun c20 => ?_) (fun c20 => ?_)
  rotate_left
  · exact absurd rfl c20
  refine g_aload_n C (gd DX10_readBase_0 31 rfl) 0 rfl rfl ?_
  refine g_cV1 (ci := 10) C [] mX10_isName lm_TestJudgeModel_249 (by exact hm.1) rfl rfl (e_t_name hm T) hfl (by first | decide | omega) (by decide) (by omega) (by omega) rfl rfl (Nat.le_of_ble_eq_true rfl) (gd DX10_readBase_0 32 rfl) ?_
  by_cases e2 : cdT tx n j = 2
  · rw [b1_t e2]
    rw [pz_nm e2] at hz
    have q := e_t_readName (w := w) si hm N T ho hf h22 (by omega) e2
    have fin : ∀ rr h2, rdP m h tx n f o r rr h2 → GW z w 2 (gQ z w 0 0 (fun r' h'' => rdP m h tx n f o r r' h'')) 0 0 71 [(0, .ref m), (1, .int (nI f))] rr.toList h2 := by
      intro rr h2 q1
      rcases r with x | ⟨j1, a⟩
      · obtain ⟨q2, rfl, q3⟩ := q1
        show GW z w 2 _ 0 0 _ _ [.int 0] _
        exact g_zret C (by decide) (by omega) (by omega) ⟨q2, rfl, q3⟩ (gd DX10_readBase_0 36 rfl)
      · obtain ⟨q2, rfl, q3⟩ := q1
        show GW z w 2 _ 0 0 _ _ [.int 1] _
        exact g_zret C (by decide) (by omega) (by omega) ⟨q2, rfl, q3⟩ (gd DX10_readBase_0 36 rfl)
    refine g_if_eq C 72 (gd DX10_readBase_0 33 rfl) (by decide) (fun c64 => ?_) (fun c64 => ?_)
    · exact absurd c64 (by decide)
    · cases e : nmOf nt na np W PR (wdT tx n j) with
      | none =>
        rw [e] at q
        rw [show (envT tx n nt na np W PR).2.2.1 ((envT tx n nt na np W PR).2.1 j) = none from e] at hz
        cases some_inj_r hz
        refine g_aload_n C (gd DX10_readBase_0 34 rfl) 0 rfl rfl ?_
        refine g_callV (ci := 10) C [] mX10_readName lm_TestJudgeModel_276 (by exact hm.1) rfl rfl q hfl (by first | decide | omega) (by decide) (by omega) (by omega) rfl rfl (Nat.le_of_ble_eq_true rfl) (gd DX10_readBase_0 35 rfl) (fun r h3 hp => ?_)
        rw [List.append_nil]
        exact fin _ _ hp
      | some a =>
        rw [e] at q
        rw [show (envT tx n nt na np W PR).2.2.1 ((envT tx n nt na np W PR).2.1 j) = some a from e] at hz
        cases some_inj_r hz
        refine g_aload_n C (gd DX10_readBase_0 34 rfl) 0 rfl rfl ?_
        refine g_callV (ci := 10) C [] mX10_readName lm_TestJudgeModel_276 (by exact hm.1) rfl rfl q hfl (by first | decide | omega) (by decide) (by omega) (by omega) rfl rfl (Nat.le_of_ble_eq_true rfl) (gd DX10_readBase_0 35 rfl) (fun r h3 hp => ?_)
        rw [List.append_nil]
        exact fin _ _ hp
  rw [b1_f e2]
  refine g_if_eq C 72 (gd DX10_readBase_0 33 rfl) (by decide) (fun c64 => ?_) (fun c64 => ?_)
  rotate_left
  · exact absurd rfl c64
  refine g_aload_n C (gd DX10_readBase_0 37 rfl) 0 rfl rfl ?_
  refine g_bipush (v := 33) C (gd DX10_readBase_0 38 rfl) (by decide) ?_
  refine g_cV1 (ci := 10) C [_] mX10_isSign lm_TestJudgeModel_240 (by exact hm.1) rfl rfl (e_t_sign hm T (k := 33) (by decide)) hfl (by first | decide | omega) (by decide) (by omega) (by omega) rfl rfl (Nat.le_of_ble_eq_true rfl) (gd DX10_readBase_0 39 rfl) ?_
  by_cases e33 : cdT tx n j = 33
  · rw [b1_t e33]
    have hj1 := hc j hj (by omega)
    refine g_if_eq C 137 (gd DX10_readBase_0 40 rfl) (by decide) (fun c78 => ?_) (fun c78 => ?_)
    · exact absurd c78 (by decide)
    refine g_aload_n C (gd DX10_readBase_0 41 rfl) 0 rfl rfl ?_
    refine g_callV (ci := 10) C [] mX10_opens lm_TestJudgeModel_279 (by exact hm.1) rfl rfl (e_t_opens si hm T ho ho4) hfl (by first | decide | omega) (by decide) (by omega) (by omega) rfl rfl (Nat.le_of_ble_eq_true rfl) (gd DX10_readBase_0 42 rfl) (fun r h2 hp => ?_)
    rcases hp with ⟨e4, rfl, rfl⟩ | ⟨e4, rfl, h1, a1, a2, rfl⟩
    · rw [pz_o4 (Or.inl e33) e4] at hz
      cases some_inj_r hz
      show GW z w 2 _ 0 0 _ _ [.int 0] _
      refine g_if_eq C 95 (gd DX10_readBase_0 43 rfl) (by decide) (fun c85 => ?_) (fun c85 => ?_)
      · exact no95 _ (rd_bad (rdF.rf m f h))
      · exact absurd rfl c85
    rw [pz_33 e33 e4] at hz
    have fr1 : rdF m f h (sI h1 m 26 (nI (o + 1))) := (rdF.nx a1).tr (rdF.i (by omega) (by omega))
    have o1 : hI (sI h1 m 26 (nI (o + 1))) m 26 = nI (o + 1) := by rw [hI_sI, if_pos ⟨rfl, rfl⟩]
    have f1 : hI (sI h1 m 26 (nI (o + 1))) m 25 = nI f := by rw [hI_sI, if_neg (by omega), a1.2.1 m 25 (by omega)]; exact hf
    have T1 : mTk m (sI h1 m 26 (nI (o + 1))) tx n (j + 1) := a2.i (by omega)
    generalize sI h1 m 26 (nI (o + 1)) = g1 at fr1 o1 f1 T1 ⊢
    have hm1 := fr1.sh hm
    have N1 := N.fr fr1 h22
    obtain ⟨r1, hr1, ok1⟩ := pz_tot (E := envT tx n nt na np W PR) hc N.nm F 0 (o + 1) (j + 1) acc (by omega) hj1 (show 8 * (c - (j + 1)) + 0 < F by omega) (fun q => by omega)
    rw [hr1] at hz
    show GW z w 2 _ 0 0 _ _ [.int 1] _
    refine g_if_eq C 95 (gd DX10_readBase_0 43 rfl) (by decide) (fun c85 => ?_) (fun c85 => ?_)
    · exact absurd c85 (by decide)
    refine g_aload_n C (gd DX10_readBase_0 44 rfl) 0 rfl rfl ?_
    refine g_callV (ci := 10) C [] mX10_readBase lm_TestJudgeModel_264 (by exact hm1.1) rfl rfl (hB g1 (o + 1) f (j + 1) acc r1 hm1 N1 T1 o1 (by omega) f1 h22 (by omega) hj1 (by omega) hr1) hfl (by first | decide | omega) (by decide) (by omega) (by omega) rfl rfl (Nat.le_of_ble_eq_true rfl) (gd DX10_readBase_0 45 rfl) (fun r g2 hp => ?_)
    rcases r1 with x | ⟨j1, t⟩
    · obtain ⟨q1, rfl, q2, q3⟩ := hp
      cases some_inj_r (show some (Sum.inl x) = some r from hz)
      show GW z w 2 _ 0 0 _ _ [.int 0] _
      refine g_if_ne C 97 (gd DX10_readBase_0 46 rfl) (by decide) (fun c92 => ?_) (fun c92 => ?_)
      · exact absurd rfl c92
      · exact no95 _ ⟨fr1.g.tr q1, rfl, q2, q3⟩
    obtain ⟨q1, rfl, T2, o2, f2, g2a⟩ := hp
    obtain ⟨x1, x2, x3, x4, x5⟩ := ok1
    rw [if_neg (by omega)] at x5
    dsimp only at x1 x2 x4 x5 T2 g2a
    have fr2 := fr1.tr q1
    change (if t.1 = 0 then _ else _) = some r at hz
    have hm2 := fr2.sh hm
    show GW z w 2 _ 0 0 _ _ [.int 1] _
    refine g_if_ne C 97 (gd DX10_readBase_0 46 rfl) (by decide) (fun c92 => ?_) (fun c92 => ?_)
    rotate_left
    · exact absurd c92 (by decide)
    have s2 : rdS m h tx n f j1 t.2 (gRec (hI g2 (m + 1)) (f + 1)) (gRec (hI g2 (m + 1)) (f + 2)) (o + 1) (f + 1) g2 := ⟨fr2, T2, ⟨g2a, fun _ _ => rfl, fun _ _ => rfl⟩, o2, f2⟩
    refine g_aload_n C (gd DX10_readBase_0 49 rfl) 0 rfl rfl ?_
    refine g_dup C (gd DX10_readBase_0 50 rfl) rfl ?_
    refine g_geti (ci := 10) (k := 26) C rfl (by decide) rfl lf_TestJudgeModel_273 hm2.1 (gd DX10_readBase_0 51 rfl) ?_
    rw [o2]
    refine g_iconst (v := 1) C (gd DX10_readBase_0 52 rfl) (by decide) ?_
    refine g_isub C (gd DX10_readBase_0 53 rfl) ?_
    rw [show nI (o + 1) - 1 = nI o from nx_sub (a := o + 1) (b := 1) rfl rfl (by omega)]
    refine g_puti (ci := 10) (k := 26) C rfl (by decide) rfl lf_TestJudgeModel_273 hm2.1 (Or.inl rfl) rfl (gd DX10_readBase_0 54 rfl) ?_
    have s3 := s2.o o
    generalize sI g2 m 26 (nI o) = g3 at s3 ⊢
    have hm3 := s3.1.sh hm
    have N3 := N.fr s3.1 h22
    refine g_aload_n C (gd DX10_readBase_0 55 rfl) 0 rfl rfl ?_
    refine g_iload_n C (gd DX10_readBase_0 56 rfl) 1 rfl rfl ?_
    refine g_cV1 (ci := 10) C [_] mX10_isPlain lm_TestJudgeModel_282 (by exact hm3.1) rfl rfl (e_t_plain hm3 s3.2.1 (t := f) (a := t.1) (by omega) (by rw [s3.2.2.1.1 0 (by omega)]; exact x4.1) (by omega)) hfl (by first | decide | omega) (by decide) (by omega) (by omega) rfl rfl (Nat.le_of_ble_eq_true rfl) (gd DX10_readBase_0 57 rfl) ?_
    by_cases et : t.1 = 0
    rotate_left
    · rw [b1_f et, if_neg et]
      rw [if_neg et] at hz
      cases some_inj_r hz
      refine g_if_ne C 117 (gd DX10_readBase_0 58 rfl) (by decide) (fun c112 => ?_) (fun c112 => ?_)
      · exact absurd rfl c112
      · refine g_iconst (v := 0) C (gd DX10_readBase_0 59 rfl) (by decide) ?_
        exact g_zret C (by decide) (by omega) (by omega) (rd_bad (k := 5) s3.1) (gd DX10_readBase_1 0 rfl)
    rw [b1_t et, if_pos et]
    rw [if_pos et] at hz
    cases some_inj_r hz
    refine g_if_ne C 117 (gd DX10_readBase_0 58 rfl) (by decide) (fun c112 => ?_) (fun c112 => ?_)
    rotate_left
    · exact absurd c112 (by decide)
    refine g_aload_n C (gd DX10_readBase_1 1 rfl) 0 rfl rfl ?_
    refine g_iload_n C (gd DX10_readBase_1 2 rfl) 1 rfl rfl ?_
    refine g_aload_n C (gd DX10_readBase_1 3 rfl) 0 rfl rfl ?_
    refine g_cV1 (ci := 10) C [] mX10_all lm_TestJudgeModel_267 (by exact hm3.1) rfl rfl (e_m_all hm3) hfl (by first | decide | omega) (by decide) (by omega) (by omega) rfl rfl (Nat.le_of_ble_eq_true rfl) (gd DX10_readBase_1 4 rfl) ?_
    rw [N3.2.1.1]
    refine g_aload_n C (gd DX10_readBase_1 5 rfl) 0 rfl rfl ?_
    refine g_iload_n C (gd DX10_readBase_1 6 rfl) 1 rfl rfl ?_
    refine g_iconst (v := 1) C (gd DX10_readBase_1 7 rfl) (by decide) ?_
    refine g_cV1 (ci := 10) C [_, _] mX10_at lm_TestJudgeModel_131 (by exact hm3.1) rfl rfl (e_m_at hm3 (j := 307 * f + 1) (r_ix f 1) (by omega)) hfl (by first | decide | omega) (by decide) (by omega) (by omega) rfl rfl (Nat.le_of_ble_eq_true rfl) (gd DX10_readBase_1 8 rfl) ?_
    rw [show hI g3 (m + 1) (307 * f + 1) = t.2 1 from s3.2.2.1.1 1 (by omega)]
    refine g_iconst (v := -1) C (gd DX10_readBase_1 9 rfl) (by decide) ?_
    refine g_ixor C (gd DX10_readBase_1 10 rfl) ?_
    refine g_iand C (gd DX10_readBase_1 11 rfl) ?_
    refine g_cV0 (v := .null) (ci := 10) C [_, _] mX10_plain lm_TestJudgeModel_127 (by exact hm3.1) rfl rfl (e_m_plain hm3 (t := f) (by omega) _) hfl (by first | decide | omega) (by decide) (by omega) (by omega) rfl rfl (Nat.le_of_ble_eq_true rfl) (gd DX10_readBase_1 12 rfl) ?_
    refine g_iconst (v := 1) C (gd DX10_readBase_1 13 rfl) (by decide) ?_
    exact g_zret C (by decide) (by omega) (by omega) (s3.rc0 (rPlain (allF (nI nt) &&& (t.2 1 ^^^ -1)))).ok (gd DX10_readBase_1 14 rfl)
  rw [b1_f e33]
  refine g_if_eq C 137 (gd DX10_readBase_0 40 rfl) (by decide) (fun c78 => ?_) (fun c78 => ?_)
  rotate_left
  · exact absurd rfl c78
  refine g_aload_n C (gd DX10_readBase_1 15 rfl) 0 rfl rfl ?_
  refine g_bipush (v := 40) C (gd DX10_readBase_1 16 rfl) (by decide) ?_
  refine g_cV1 (ci := 10) C [_] mX10_isSign lm_TestJudgeModel_240 (by exact hm.1) rfl rfl (e_t_sign hm T (k := 40) (by decide)) hfl (by first | decide | omega) (by decide) (by omega) (by omega) rfl rfl (Nat.le_of_ble_eq_true rfl) (gd DX10_readBase_1 17 rfl) ?_
  by_cases e40 : cdT tx n j = 40
  · rw [b1_t e40]
    have hj1 := hc j hj (by omega)
    refine g_if_eq C 187 (gd DX10_readBase_1 18 rfl) (by decide) (fun c143 => ?_) (fun c143 => ?_)
    · exact absurd c143 (by decide)
    refine g_aload_n C (gd DX10_readBase_1 19 rfl) 0 rfl rfl ?_
    refine g_callV (ci := 10) C [] mX10_opens lm_TestJudgeModel_279 (by exact hm.1) rfl rfl (e_t_opens si hm T ho ho4) hfl (by first | decide | omega) (by decide) (by omega) (by omega) rfl rfl (Nat.le_of_ble_eq_true rfl) (gd DX10_readBase_1 20 rfl) (fun r h2 hp => ?_)
    rcases hp with ⟨e4, rfl, rfl⟩ | ⟨e4, rfl, h1, a1, a2, rfl⟩
    · rw [pz_o4 (Or.inr (Or.inl e40)) e4] at hz
      cases some_inj_r hz
      show GW z w 2 _ 0 0 _ _ [.int 0] _
      refine g_if_eq C 173 (gd DX10_readBase_1 21 rfl) (by decide) (fun c150 => ?_) (fun c150 => ?_)
      · exact no173 _ (rd_bad (rdF.rf m f h))
      · exact absurd rfl c150
    rw [pz_40 e40 e4] at hz
    have fr1 : rdF m f h (sI h1 m 26 (nI (o + 1))) := (rdF.nx a1).tr (rdF.i (by omega) (by omega))
    have o1 : hI (sI h1 m 26 (nI (o + 1))) m 26 = nI (o + 1) := by rw [hI_sI, if_pos ⟨rfl, rfl⟩]
    have f1 : hI (sI h1 m 26 (nI (o + 1))) m 25 = nI f := by rw [hI_sI, if_neg (by omega), a1.2.1 m 25 (by omega)]; exact hf
    have T1 : mTk m (sI h1 m 26 (nI (o + 1))) tx n (j + 1) := a2.i (by omega)
    generalize sI h1 m 26 (nI (o + 1)) = g1 at fr1 o1 f1 T1 ⊢
    have hm1 := fr1.sh hm
    have N1 := N.fr fr1 h22
    obtain ⟨r1, hr1, ok1⟩ := pz_tot (E := envT tx n nt na np W PR) hc N.nm F 4 (o + 1) (j + 1) acc (by omega) hj1 (show 8 * (c - (j + 1)) + 3 < F by omega) (fun q => by omega)
    rw [hr1] at hz
    show GW z w 2 _ 0 0 _ _ [.int 1] _
    refine g_if_eq C 173 (gd DX10_readBase_1 21 rfl) (by decide) (fun c150 => ?_) (fun c150 => ?_)
    · exact absurd c150 (by decide)
    refine g_aload_n C (gd DX10_readBase_1 22 rfl) 0 rfl rfl ?_
    refine g_callV (ci := 10) C [] mX10_readSum lm_TestJudgeModel_285 (by exact hm1.1) rfl rfl (hS g1 (o + 1) f (j + 1) acc r1 hm1 N1 T1 o1 (by omega) f1 h22 (by omega) hj1 (by omega) hr1) hfl (by first | decide | omega) (by decide) (by omega) (by omega) rfl rfl (Nat.le_of_ble_eq_true rfl) (gd DX10_readBase_1 23 rfl) (fun r g2 hp => ?_)
    rcases r1 with x | ⟨j1, t⟩
    · obtain ⟨q1, rfl, q2, q3⟩ := hp
      cases some_inj_r (show some (Sum.inl x) = some r from hz)
      show GW z w 2 _ 0 0 _ _ [.int 0] _
      refine g_if_eq C 173 (gd DX10_readBase_1 24 rfl) (by decide) (fun c157 => ?_) (fun c157 => ?_)
      · exact no173 _ ⟨fr1.g.tr q1, rfl, q2, q3⟩
      · exact absurd rfl c157
    obtain ⟨q1, rfl, T2, o2, f2, g2a⟩ := hp
    dsimp only at T2 g2a
    have fr2 := fr1.tr q1
    change (if cdT tx n j1 = 41 then _ else _) = some r at hz
    have hm2 := fr2.sh hm
    show GW z w 2 _ 0 0 _ _ [.int 1] _
    refine g_if_eq C 173 (gd DX10_readBase_1 24 rfl) (by decide) (fun c157 => ?_) (fun c157 => ?_)
    · exact absurd c157 (by decide)
    refine g_aload_n C (gd DX10_readBase_1 25 rfl) 0 rfl rfl ?_
    refine g_aload_n C (gd DX10_readBase_1 26 rfl) 0 rfl rfl ?_
    refine g_bipush (v := 41) C (gd DX10_readBase_1 27 rfl) (by decide) ?_
    refine g_cV1 (ci := 10) C [_] mX10_isSign lm_TestJudgeModel_240 (by exact hm2.1) rfl rfl (e_t_sign hm2 T2 (k := 41) (by decide)) hfl (by first | decide | omega) (by decide) (by omega) (by omega) rfl rfl (Nat.le_of_ble_eq_true rfl) (gd DX10_readBase_1 28 rfl) ?_
    refine g_callV (ci := 10) C [_] mX10_needs lm_TestJudgeModel_288 (by exact hm2.1) rfl rfl (e_t_needs si hm2 T2 (cdT tx n j1 = 41)) hfl (by first | decide | omega) (by decide) (by omega) (by omega) rfl rfl (Nat.le_of_ble_eq_true rfl) (gd DX10_readBase_1 29 rfl) (fun r g7 hp => ?_)
    rcases hp with ⟨ec3, rfl, b3, T7⟩ | ⟨ec3, rfl, rfl⟩
    rotate_left
    · rw [if_neg ec3] at hz
      cases some_inj_r hz
      show GW z w 2 _ 0 0 _ _ [.int 0] _
      refine g_if_ne C 175 (gd DX10_readBase_1 30 rfl) (by decide) (fun c170 => ?_) (fun c170 => ?_)
      · exact absurd rfl c170
      · exact no173 _ (rd_bad fr2)
    rw [if_pos ec3] at hz
    cases some_inj_r hz
    have er : hI g7 (m + 1) = hI g2 (m + 1) := funext fun k => b3.2.1 (m + 1) k (by omega)
    have s7 : rdS m h tx n f (j1 + 1) t.2 (gRec (hI g7 (m + 1)) (f + 1)) (gRec (hI g7 (m + 1)) (f + 2)) (o + 1) (f + 1) g7 := ⟨fr2.tr (rdF.nx b3), T7, ⟨by rw [er]; exact g2a, fun _ _ => rfl, fun _ _ => rfl⟩, by rw [b3.2.1 m 26 (by omega)]; exact o2, by rw [b3.2.1 m 25 (by omega)]; exact f2⟩
    have hm7 := s7.1.sh hm
    show GW z w 2 _ 0 0 _ _ [.int 1] _
    refine g_if_ne C 175 (gd DX10_readBase_1 30 rfl) (by decide) (fun c170 => ?_) (fun c170 => ?_)
    rotate_left
    · exact absurd c170 (by decide)
    refine g_aload_n C (gd DX10_readBase_1 33 rfl) 0 rfl rfl ?_
    refine g_dup C (gd DX10_readBase_1 34 rfl) rfl ?_
    refine g_geti (ci := 10) (k := 26) C rfl (by decide) rfl lf_TestJudgeModel_273 hm7.1 (gd DX10_readBase_1 35 rfl) ?_
    rw [s7.2.2.2.1]
    refine g_iconst (v := 1) C (gd DX10_readBase_1 36 rfl) (by decide) ?_
    refine g_isub C (gd DX10_readBase_1 37 rfl) ?_
    rw [show nI (o + 1) - 1 = nI o from nx_sub (a := o + 1) (b := 1) rfl rfl (by omega)]
    refine g_puti (ci := 10) (k := 26) C rfl (by decide) rfl lf_TestJudgeModel_273 hm7.1 (Or.inl rfl) rfl (gd DX10_readBase_1 38 rfl) ?_
    refine g_iconst (v := 1) C (gd DX10_readBase_1 39 rfl) (by decide) ?_
    exact g_zret C (by decide) (by omega) (by omega) (s7.o o).ok (gd DX10_readBase_1 40 rfl)
  rw [b1_f e40]
  refine g_if_eq C 187 (gd DX10_readBase_1 18 rfl) (by decide) (fun c143 => ?_) (fun c143 => ?_)
  rotate_left
  · exact absurd rfl c143
  refine g_aload_n C (gd DX10_readBase_1 41 rfl) 0 rfl rfl ?_
  refine g_iconst (v := 4) C (gd DX10_readBase_1 42 rfl) (by decide) ?_
  refine g_cV1 (ci := 10) C [_] mX10_isWord lm_TestJudgeModel_252 (by exact hm.1) rfl rfl (e_t_word hm T (i := 4) (c := 294) (by decide) rfl) hfl (by first | decide | omega) (by decide) (by omega) (by omega) rfl rfl (Nat.le_of_ble_eq_true rfl) (gd DX10_readBase_1 43 rfl) ?_
  by_cases eif : cdT tx n j = 294
  · rw [b1_t eif]
    refine g_if_eq C 200 (gd DX10_readBase_1 44 rfl) (by decide) (fun c192 => ?_) (fun c192 => ?_)
    · exact absurd c192 (by decide)
    · refine g_aload_n C (gd DX10_readBase_1 45 rfl) 0 rfl rfl ?_
      have fin : ∀ rr h2, rdP m h tx n f o r rr h2 → GW z w 2 (gQ z w 0 0 (fun r' h'' => rdP m h tx n f o r r' h'')) 0 0 199 [(0, .ref m), (1, .int (nI f))] rr.toList h2 := by
        intro rr h2 q1
        rcases r with x | ⟨j1, a⟩
        · obtain ⟨q2, rfl, q3⟩ := q1
          show GW z w 2 _ 0 0 _ _ [.int 0] _
          exact g_zret C (by decide) (by omega) (by omega) ⟨q2, rfl, q3⟩ (gd DX10_readBase_1 47 rfl)
        · obtain ⟨q2, rfl, q3⟩ := q1
          show GW z w 2 _ 0 0 _ _ [.int 1] _
          exact g_zret C (by decide) (by omega) (by omega) ⟨q2, rfl, q3⟩ (gd DX10_readBase_1 47 rfl)
      refine g_callV (ci := 10) C [] mX10_readIf lm_TestJudgeModel_292 (by exact hm.1) rfl rfl (rd_if si hc hc5 hS hm N T ho ho4 hf h22 (by omega) hj (by omega) eif hz) hfl (by first | decide | omega) (by decide) (by omega) (by omega) rfl rfl (Nat.le_of_ble_eq_true rfl) (gd DX10_readBase_1 46 rfl) (fun r h3 hp => ?_)
      rw [List.append_nil]
      exact fin _ _ hp
  rw [b1_f eif]
  refine g_if_eq C 200 (gd DX10_readBase_1 44 rfl) (by decide) (fun c192 => ?_) (fun c192 => ?_)
  rotate_left
  · exact absurd rfl c192
  refine g_aload_n C (gd DX10_readBase_1 48 rfl) 0 rfl rfl ?_
  refine g_bipush (v := 7) C (gd DX10_readBase_1 49 rfl) (by decide) ?_
  refine g_cV1 (ci := 10) C [_] mX10_isWord lm_TestJudgeModel_252 (by exact hm.1) rfl rfl (e_t_word hm T (i := 7) (c := 24388997) (by decide) rfl) hfl (by first | decide | omega) (by decide) (by omega) (by omega) rfl rfl (Nat.le_of_ble_eq_true rfl) (gd DX10_readBase_1 50 rfl) ?_
  by_cases ewh : cdT tx n j = 24388997
  · rw [b1_t ewh]
    refine g_if_eq C 216 (gd DX10_readBase_1 51 rfl) (by decide) (fun c206 => ?_) (fun c206 => ?_)
    · exact absurd c206 (by decide)
    · refine g_aload_n C (gd DX10_readBase_1 52 rfl) 0 rfl rfl ?_
      have fin : ∀ rr h2, rdP m h tx n f o r rr h2 → GW z w 2 (gQ z w 0 0 (fun r' h'' => rdP m h tx n f o r r' h'')) 0 0 213 [(0, .ref m), (1, .int (nI f))] rr.toList h2 := by
        intro rr h2 q1
        rcases r with x | ⟨j1, a⟩
        · obtain ⟨q2, rfl, q3⟩ := q1
          show GW z w 2 _ 0 0 _ _ [.int 0] _
          refine g_goto (tgt := 221) C (gd DX10_readBase_1 54 rfl) (by decide) ?_
          exact g_zret C (by decide) (by omega) (by omega) ⟨q2, rfl, q3⟩ (gd DX10_readBase_1 58 rfl)
        · obtain ⟨q2, rfl, q3⟩ := q1
          show GW z w 2 _ 0 0 _ _ [.int 1] _
          refine g_goto (tgt := 221) C (gd DX10_readBase_1 54 rfl) (by decide) ?_
          exact g_zret C (by decide) (by omega) (by omega) ⟨q2, rfl, q3⟩ (gd DX10_readBase_1 58 rfl)
      refine g_callV (ci := 10) C [] mX10_readWhile lm_TestJudgeModel_295 (by exact hm.1) rfl rfl (rd_while si hc hc5 hS hm N T ho ho4 hf h22 (by omega) hj (by omega) ewh hz) hfl (by first | decide | omega) (by decide) (by omega) (by omega) rfl rfl (Nat.le_of_ble_eq_true rfl) (gd DX10_readBase_1 53 rfl) (fun r h3 hp => ?_)
      rw [List.append_nil]
      exact fin _ _ hp
  rw [b1_f ewh]
  rw [pz_no (fun q => by rcases q with q | q | q | q | q | q | q <;> first | exact e48 q | exact e49 q | exact e2 q | exact e33 q | exact e40 q | exact eif q | exact ewh q)] at hz
  cases some_inj_r hz
  refine g_if_eq C 216 (gd DX10_readBase_1 51 rfl) (by decide) (fun c206 => ?_) (fun c206 => ?_)
  · refine g_aload_n C (gd DX10_readBase_1 55 rfl) 0 rfl rfl ?_
    refine g_iconst (v := 2) C (gd DX10_readBase_1 56 rfl) (by decide) ?_
    refine g_cV1 (ci := 10) C [_] mX10_bad lm_TestJudgeModel_219 (by exact hm.1) rfl rfl (e_t_bad hm T 2) hfl (by first | decide | omega) (by decide) (by omega) (by omega) rfl rfl (Nat.le_of_ble_eq_true rfl) (gd DX10_readBase_1 57 rfl) ?_
    exact g_zret C (by decide) (by omega) (by omega) (rd_bad (rdF.rf m f h)) (gd DX10_readBase_1 58 rfl)
  · exact absurd rfl c206
theorem rd_all (si : gSI w) (hc : ∀ j, j < c → cdT tx n j ≠ 0 → j + 1 < c) (hc5 : c ≤ 501) : ∀ F, ∀ F', F' ≤ F → cRB w m tx n c nt na np W PR F' ∧ cRO w m tx n c nt na np W PR F' ∧ cRR w m tx n c nt na np W PR F' ∧ cRS w m tx n c nt na np W PR F' := by
  intro F
  induction F with
  | zero =>
    intro F' hF
    have e : F' = 0 := by omega
    subst e
    have no : ∀ {md o j acc r}, ¬ pz (envT tx n nt na np W PR) 0 md o j acc = some r := fun q => by rw [pz] at q; cases q
    exact ⟨fun h o f j acc r _ _ _ _ _ _ _ _ _ _ q => absurd q no, fun h o f j acc r _ _ _ _ _ _ _ _ _ _ q => absurd q no, fun h o f j acc r _ _ _ _ _ _ _ _ _ _ q => absurd q no, fun h o f j acc r _ _ _ _ _ _ _ _ _ _ q => absurd q no⟩
  | succ F ih =>
    intro F' hF
    by_cases e : F' = F + 1
    · subst e
      have hb := rd_base si hc hc5 (ih F (Nat.le_refl F)).1 (ih F (Nat.le_refl F)).2.2.2
      exact ⟨hb, rd_one si hc hc5 (ih F (Nat.le_refl F)).1, rd_row si hc hc5 (fun G hG => (ih G hG).2.1), rd_sum si hc hc5 (fun G hG => (ih G hG).2.2.1)⟩
    · exact ih F' (by omega)
end M55
