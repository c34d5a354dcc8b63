/-! zero and every line in the reference -/
section M59
variable {w : gD} {m : Nat} {tx : Nat → Nat} {n c : Nat}
theorem rl_zero (si : gSI w) (hc : ∀ j, j < c → cdT tx n j ≠ 0 → j + 1 < c) (hc5 : c ≤ 501) {h : HS} {j : Nat} {S : pS} {r : pLz} (L : mLn m h tx n j S) (hj : j < c) (ho : hI h m 26 = nI 0) (hf : hI h m 25 = nI 22) (hcd : cdT tx n j = 857679) (hz : pLn tx n j S = some r) : Ev w 34 0 0 yX10_readZero cX10_readZero 3 (some .boolean) [.ref m] h (rdL m h tx n r) := by
  have hm := L.1
  have sk := L.2.2.2.2.2
  rw [pLn, if_neg (by omega), if_pos hcd] at hz
  have hj1 := hc j hj (by omega)
  refine g_start (by decide) (Nat.le_of_ble_eq_true rfl) [(0, _)] rfl (fun z hfl C => ?_)
  have no : ∀ h', rdL m h tx n r (some (.int 0)) h' → GW z w 3 (gQ z w 0 0 (fun r' h'' => rdL m h tx n r r' h'')) 0 0 28 [(0, .ref m)] [] h' := by
    intro h' q
    refine g_iconst (v := 0) C (gd DX10_readZero_0 14 rfl) (by decide) ?_
    exact g_zret C (by decide) (by omega) (by omega) q (gd DX10_readZero_0 15 rfl)
  refine g_aload_n C (gd DX10_readZero_0 0 rfl) 0 rfl rfl ?_
  refine g_geti (ci := 10) (k := 32) C rfl (by decide) rfl lf_TestJudgeModel_319 hm.1 (gd DX10_readZero_0 1 rfl) ?_
  rw [L.2.2.2.1]
  refine g_iconst (v := 2) C (gd DX10_readZero_0 2 rfl) (by decide) ?_
  refine g_icmp_ne C 14 (gd DX10_readZero_0 3 rfl) (by decide) (fun c5 => ?_) (fun c5 => ?_)
  rotate_left
  · have e8 := (nI_eq (b := 2) (by have := sk.1.2.2.2; omega) (by omega)).mp c5
    rw [if_pos e8] at hz
    cases Option.some.inj hz
    refine g_aload_n C (gd DX10_readZero_0 4 rfl) 0 rfl rfl ?_
    refine g_iconst (v := 4) C (gd DX10_readZero_0 5 rfl) (by decide) ?_
    refine g_cV1 (ci := 10) C [_] mX10_bad lm_TestJudgeModel_219 (by exact hm.1) rfl rfl (e_t_bad hm L.2.1 4) hfl (by first | decide | omega) (by decide) (by omega) (by omega) rfl rfl (Nat.le_of_ble_eq_true rfl) (gd DX10_readZero_0 6 rfl) ?_
    exact g_zret C (by decide) (by omega) (by omega) (rl_bad (rdT.rf m h)) (gd DX10_readZero_0 7 rfl)
  have n8 : ¬ S.1.2.2.2 = 2 := fun q => c5 (by rw [q]; rfl)
  have sk2 := sk.1.2.2.2
  rw [if_neg n8] at hz
  refine g_aload_n C (gd DX10_readZero_0 8 rfl) 0 rfl rfl ?_
  refine g_callV (ci := 10) C [] mX10_goes lm_TestJudgeModel_215 (by exact hm.1) rfl rfl (e_t_goes si hm L.2.1) hfl (by first | decide | omega) (by decide) (by omega) (by omega) rfl rfl (Nat.le_of_ble_eq_true rfl) (gd DX10_readZero_0 9 rfl) (fun r h3 hp => ?_)
  obtain ⟨rfl, a1, a2⟩ := hp
  have L3 := L.nx (rdF.nx a1) a2
  have hm3 := L3.1
  have o3 : hI h3 m 26 = nI 0 := by rw [a1.2.1 m 26 (by omega)]; exact ho
  have f3 : hI h3 m 25 = nI 22 := by rw [a1.2.1 m 25 (by omega)]; exact hf
  obtain ⟨r1, hr1, ok1⟩ := pz_tot (E := envT tx n S.1.1 S.1.2.1 S.1.2.2.1 S.2.1 S.2.2.1) hc L3.2.2.1.nm 5000 4 0 (j + 1) (0, rPlain 0) (by omega) hj1 (show 8 * (c - (j + 1)) + 3 < 5000 by omega) (fun q => by omega)
  rw [hr1] at hz
  show GW z w 3 _ 0 0 _ _ [.int 1] _
  refine g_if_eq C 28 (gd DX10_readZero_0 10 rfl) (by decide) (fun c18 => ?_) (fun c18 => ?_)
  · exact absurd c18 (by decide)
  refine g_aload_n C (gd DX10_readZero_0 11 rfl) 0 rfl rfl ?_
  refine g_callV (ci := 10) C [] mX10_readSum lm_TestJudgeModel_285 (by exact hm3.1) rfl rfl ((rd_all si hc hc5 5000 5000 (Nat.le_refl _)).2.2.2 h3 0 22 (j + 1) (0, rPlain 0) r1 hm3 L3.2.2.1 a2 o3 (by omega) f3 (by omega) (by omega) hj1 (by omega) hr1) hfl (by first | decide | omega) (by decide) (by omega) (by omega) rfl rfl (Nat.le_of_ble_eq_true rfl) (gd DX10_readZero_0 12 rfl) (fun r h4 hp => ?_)
  have fr3 : rdT m h h3 := a1.t
  rcases r1 with x | ⟨j1, a⟩
  · obtain ⟨q1, rfl, q2, q3⟩ := hp
    cases Option.some.inj (show some (Sum.inl x) = some r from hz)
    show GW z w 3 _ 0 0 _ _ [.int 0] _
    refine g_if_ne C 30 (gd DX10_readZero_0 13 rfl) (by decide) (fun c25 => ?_) (fun c25 => ?_)
    · exact absurd rfl c25
    · exact no _ ⟨fr3.u.tr (q1.u (by omega)), rfl, q2, q3⟩
  obtain ⟨q1, rfl, T4, o4, f4, g4⟩ := hp
  obtain ⟨x1, x2, x3, x4, x5⟩ := ok1
  rw [if_neg (by omega)] at x5
  dsimp only at x1 x2 x4 x5 T4 g4
  have L4 := L3.nx q1 T4
  have hm4 := L4.1
  have fr4 := fr3.tr (q1.t (by omega))
  change (if cdT tx n j1 ≠ 59 then _ else _) = some r at hz
  have fle : ∀ k, k ≤ S.1.2.2.2 → fsP S.2.2.2 k ≤ 2 := by
    intro k hk
    have : ∀ d, k + d = S.1.2.2.2 → fsP S.2.2.2 k ≤ fsP S.2.2.2 S.1.2.2.2 := by
      intro d hd
      rw [← hd]
      clear hd
      induction d with
      | zero => exact Nat.le_refl _
      | succ d ih => rw [show k + (d + 1) = (k + d) + 1 by omega, fsP]; omega
    have h1 := this (S.1.2.2.2 - k) (by omega)
    have h2 := sk.2.2.2.2
    omega
  have rest : GW z w 3 (gQ z w 0 0 (fun r' h'' => rdL m h tx n r r' h'')) 0 0 66 [(0, .ref m), (1, .int (nI (fsP S.2.2.2 S.1.2.2.2 + a.1))), (2, .int (nI S.1.2.2.2))] [] h4 := by
    have h2 := sk.2.2.2.2
    refine g_aload_n C (gd DX10_readZero_0 38 rfl) 0 rfl rfl ?_
    refine g_iload_n C (gd DX10_readZero_0 39 rfl) 1 rfl rfl ?_
    refine g_iconst (v := 2) C (gd DX10_readZero_0 40 rfl) (by decide) ?_
    refine g_isub C (gd DX10_readZero_0 41 rfl) ?_
    refine g_callV (ci := 10) C [_] mX10_readWeighed lm_TestJudgeModel_316 (by exact hm4.1) rfl rfl (e_t_weighed si hm4 T4 (nI (fsP S.2.2.2 S.1.2.2.2 + a.1) - 2) (2 < fsP S.2.2.2 S.1.2.2.2 + a.1) (sub_pos (b := 2) (by omega) (by omega))) hfl (by first | decide | omega) (by decide) (by omega) (by omega) rfl rfl (Nat.le_of_ble_eq_true rfl) (gd DX10_readZero_0 42 rfl) (fun r h5 hp => ?_)
    rcases hp with ⟨e59, rfl, rfl⟩ | ⟨e59, e5, rfl, rfl⟩ | ⟨e59, e5, rfl, b5, T5⟩
    · rw [if_pos e59] at hz
      cases Option.some.inj hz
      show GW z w 3 _ 0 0 _ _ [.int 0] _
      refine g_if_ne C 78 (gd DX10_readZero_0 43 rfl) (by decide) (fun c73 => ?_) (fun c73 => ?_)
      · exact absurd rfl c73
      · refine g_iconst (v := 0) C (gd DX10_readZero_0 44 rfl) (by decide) ?_
        exact g_zret C (by decide) (by omega) (by omega) (rl_bad fr4) (gd DX10_readZero_0 45 rfl)
    · rw [if_neg (fun q => q e59), if_pos e5] at hz
      cases Option.some.inj hz
      show GW z w 3 _ 0 0 _ _ [.int 0] _
      refine g_if_ne C 78 (gd DX10_readZero_0 43 rfl) (by decide) (fun c73 => ?_) (fun c73 => ?_)
      · exact absurd rfl c73
      · refine g_iconst (v := 0) C (gd DX10_readZero_0 44 rfl) (by decide) ?_
        exact g_zret C (by decide) (by omega) (by omega) (rl_bad (k := 5) fr4) (gd DX10_readZero_0 45 rfl)
    rw [if_neg (fun q => q e59), if_neg e5] at hz
    cases Option.some.inj hz
    have L5 := L4.nx (rdF.nx b5) T5
    have hm5 := L5.1
    have fr5 := fr4.tr b5.t
    have g5 : Ag (gRec (hI h5 (m + 1)) 22) a.2 := by rw [show hI h5 (m + 1) = hI h4 (m + 1) from funext fun k => b5.2.1 (m + 1) k (by omega)]; exact g4
    show GW z w 3 _ 0 0 _ _ [.int 1] _
    refine g_if_ne C 78 (gd DX10_readZero_0 43 rfl) (by decide) (fun c73 => ?_) (fun c73 => ?_)
    rotate_left
    · exact absurd c73 (by decide)
    refine g_aload_n C (gd DX10_readZero_0 46 rfl) 0 rfl rfl ?_
    refine g_bipush (v := 22) C (gd DX10_readZero_0 47 rfl) (by decide) ?_
    refine g_bipush (v := 19) C (gd DX10_readZero_0 48 rfl) (by decide) ?_
    refine g_aload_n C (gd DX10_readZero_0 49 rfl) 0 rfl rfl ?_
    refine g_geti (ci := 10) (k := 32) C rfl (by decide) rfl lf_TestJudgeModel_319 hm5.1 (gd DX10_readZero_0 50 rfl) ?_
    rw [L5.2.2.2.1, show (19 : Int32) = nI 19 from rfl]
    refine g_iadd C (gd DX10_readZero_0 51 rfl) ?_
    rw [show nI 19 + nI S.1.2.2.2 = nI (19 + S.1.2.2.2) from nx_add rfl rfl]
    refine g_cV0 (v := .null) (ci := 10) C [_, _] mX10_copies lm_TestJudgeModel_246 (by exact hm5.1) rfl rfl (e_m_copies hm5 (r := 22) (t := 19 + S.1.2.2.2) (by omega) (by omega) (by omega)) hfl (by first | decide | omega) (by decide) (by omega) (by omega) rfl rfl (Nat.le_of_ble_eq_true rfl) (gd DX10_readZero_0 52 rfl) ?_
    generalize hg : sF h5 (m + 1) (pRec (hI h5 (m + 1)) (19 + S.1.2.2.2) (gRec (hI h5 (m + 1)) 22)) = h6
    have e6 : h6 = hRc m h5 (19 + S.1.2.2.2) (gRec (hI h5 (m + 1)) 22) := hg.symm
    have hm6 : mSh m h6 := by rw [e6]; exact hm5
    have n6 : hI h6 m 32 = nI S.1.2.2.2 := by rw [e6, hRc_m]; exact L5.2.2.2.1
    clear hg
    refine g_aload_n C (gd DX10_readZero_0 53 rfl) 0 rfl rfl ?_
    refine g_dup C (gd DX10_readZero_0 54 rfl) rfl ?_
    refine g_geti (ci := 10) (k := 32) C rfl (by decide) rfl lf_TestJudgeModel_319 hm6.1 (gd DX10_readZero_0 55 rfl) ?_
    rw [n6]
    refine g_iconst (v := 1) C (gd DX10_readZero_0 56 rfl) (by decide) ?_
    refine g_iadd C (gd DX10_readZero_0 57 rfl) ?_
    rw [show nI S.1.2.2.2 + 1 = nI (S.1.2.2.2 + 1) from nx_add (b := 1) rfl rfl]
    refine g_puti (ci := 10) (k := 32) C rfl (by decide) rfl lf_TestJudgeModel_319 hm6.1 (Or.inl rfl) rfl (gd DX10_readZero_0 58 rfl) ?_
    refine g_iconst (v := 1) C (gd DX10_readZero_0 59 rfl) (by decide) ?_
    rw [e6]
    exact g_zret C (by decide) (by omega) (by omega) ⟨(fr5.tr (rdT.rc (by omega))).tr (rdT.i (by omega) (by omega)), rfl, L5.fact (by omega) g5 (by omega) x4⟩ (gd DX10_readZero_1 0 rfl)
  have loop : ∀ y i, i + y = S.1.2.2.2 → GW z w 3 (gQ z w 0 0 (fun r' h'' => rdL m h tx n r r' h'')) 0 0 40 [(0, .ref m), (1, .int (nI (fsP S.2.2.2 i + a.1))), (2, .int (nI i))] [] h4 := by
    intro y
    induction y with
    | zero =>
      intro i hi
      have ei : i = S.1.2.2.2 := hi
      subst ei
      refine g_iload_n C (gd DX10_readZero_0 23 rfl) 2 rfl rfl ?_
      refine g_aload_n C (gd DX10_readZero_0 24 rfl) 0 rfl rfl ?_
      refine g_geti (ci := 10) (k := 32) C rfl (by decide) rfl lf_TestJudgeModel_319 hm4.1 (gd DX10_readZero_0 25 rfl) ?_
      rw [L4.2.2.2.1]
      refine g_icmp_ge C 66 (gd DX10_readZero_0 26 rfl) (by decide) (fun c45 => ?_) (fun c45 => ?_)
      · exact rest
      · exact absurd (nI_le (Nat.le_refl _) (by omega)) c45
    | succ y ih =>
      intro i hi
      refine g_iload_n C (gd DX10_readZero_0 23 rfl) 2 rfl rfl ?_
      refine g_aload_n C (gd DX10_readZero_0 24 rfl) 0 rfl rfl ?_
      refine g_geti (ci := 10) (k := 32) C rfl (by decide) rfl lf_TestJudgeModel_319 hm4.1 (gd DX10_readZero_0 25 rfl) ?_
      rw [L4.2.2.2.1]
      refine g_icmp_ge C 66 (gd DX10_readZero_0 26 rfl) (by decide) (fun c45 => ?_) (fun c45 => ?_)
      · exact absurd c45 (nI_ge (by omega) (by omega))
      · refine g_iload_n C (gd DX10_readZero_0 27 rfl) 1 rfl rfl ?_
        refine g_aload_n C (gd DX10_readZero_0 28 rfl) 0 rfl rfl ?_
        refine g_bipush (v := 19) C (gd DX10_readZero_0 29 rfl) (by decide) ?_
        refine g_iload_n C (gd DX10_readZero_0 30 rfl) 2 rfl rfl ?_
        refine g_iadd C (gd DX10_readZero_0 31 rfl) ?_
        rw [show (19 : Int32) + nI i = nI (19 + i) from nx_add (a := 19) rfl rfl]
        refine g_iconst (v := 0) C (gd DX10_readZero_0 32 rfl) (by decide) ?_
        refine g_cV1 (ci := 10) C [_, _] mX10_at lm_TestJudgeModel_131 (by exact hm4.1) rfl rfl (e_m_at hm4 (j := 307 * (19 + i) + 0) (r_ix (19 + i) 0) (by omega)) hfl (by first | decide | omega) (by decide) (by omega) (by omega) rfl rfl (Nat.le_of_ble_eq_true rfl) (gd DX10_readZero_0 33 rfl) ?_
        rw [show hI h4 (m + 1) (307 * (19 + i) + 0) = nI (S.2.2.2 i).1 from (L4.2.2.2.2.1 i (by omega) 0 (by omega)).trans (sk.2.2.2.1 i (by omega)).1]
        refine g_iadd C (gd DX10_readZero_0 34 rfl) ?_
        rw [show nI (fsP S.2.2.2 i + a.1) + nI (S.2.2.2 i).1 = nI (fsP S.2.2.2 (i + 1) + a.1) from by rw [nI_add, fsP]; congr 1; omega]
        refine g_istore_n (lv' := [(0, _), (1, _), (2, _)]) C (gd DX10_readZero_0 35 rfl) [1, 0, 2] rfl (by decide) rfl ?_
        refine g_iinc (lv' := [(0, _), (1, _), (2, _)]) C (gd DX10_readZero_0 36 rfl) 2 [1, 2, 0] rfl rfl (by decide) rfl ?_
        refine g_goto (tgt := 40) C (gd DX10_readZero_0 37 rfl) (by decide) ?_
        exact GW.cast (by rw [inc1]) rfl rfl (ih (i + 1) (by omega))
  show GW z w 3 _ 0 0 _ _ [.int 1] _
  refine g_if_ne C 30 (gd DX10_readZero_0 13 rfl) (by decide) (fun c25 => ?_) (fun c25 => ?_)
  rotate_left
  · exact absurd c25 (by decide)
  refine g_aload_n C (gd DX10_readZero_0 16 rfl) 0 rfl rfl ?_
  refine g_bipush (v := 22) C (gd DX10_readZero_0 17 rfl) (by decide) ?_
  refine g_iconst (v := 0) C (gd DX10_readZero_0 18 rfl) (by decide) ?_
  refine g_cV1 (ci := 10) C [_, _] mX10_at lm_TestJudgeModel_131 (by exact hm4.1) rfl rfl (e_m_at hm4 (j := 307 * 22 + 0) (r_ix 22 0) (by omega)) hfl (by first | decide | omega) (by decide) (by omega) (by omega) rfl rfl (Nat.le_of_ble_eq_true rfl) (gd DX10_readZero_0 19 rfl) ?_
  rw [show hI h4 (m + 1) (307 * 22 + 0) = nI a.1 from (g4 0 (by omega)).trans x4.1]
  refine g_istore_n (lv' := [(0, _), (1, _)]) C (gd DX10_readZero_0 20 rfl) [1, 0] rfl (by decide) rfl ?_
  refine g_iconst (v := 0) C (gd DX10_readZero_0 21 rfl) (by decide) ?_
  refine g_istore_n (lv' := [(0, _), (1, _), (2, _)]) C (gd DX10_readZero_0 22 rfl) [1, 2, 0] rfl (by decide) rfl ?_
  refine GW.cast (by rw [show fsP S.2.2.2 0 + a.1 = a.1 from Nat.zero_add _] <;> rfl) rfl rfl (loop S.1.2.2.2 0 (Nat.zero_add _))
theorem rl_line (si : gSI w) (hc : ∀ j, j < c → cdT tx n j ≠ 0 → j + 1 < c) (hc5 : c ≤ 501) {h : HS} {j : Nat} {S : pS} {r : pLz} (L0 : mLn m h tx n j S) (hj : j < c) (hz : pLn tx n j S = some r) : Ev w 35 0 0 yX10_readLine cX10_readLine 2 (some .boolean) [.ref m] h (rdL m h tx n r) := by
  have hm := L0.1
  refine g_start (by decide) (Nat.le_of_ble_eq_true rfl) [(0, _)] rfl (fun z hfl C => ?_)
  refine g_aload_n C (gd DX10_readLine_0 0 rfl) 0 rfl rfl ?_
  refine g_bipush (v := 22) C (gd DX10_readLine_0 1 rfl) (by decide) ?_
  refine g_puti (ci := 10) (k := 25) C rfl (by decide) rfl lf_TestJudgeModel_234 hm.1 (Or.inl rfl) rfl (gd DX10_readLine_0 2 rfl) ?_
  refine g_aload_n C (gd DX10_readLine_0 3 rfl) 0 rfl rfl ?_
  refine g_iconst (v := 0) C (gd DX10_readLine_0 4 rfl) (by decide) ?_
  refine g_puti (ci := 10) (k := 26) C rfl (by decide) rfl lf_TestJudgeModel_273 hm.1 (Or.inl rfl) rfl (gd DX10_readLine_0 5 rfl) ?_
  refine g_aload_n C (gd DX10_readLine_0 6 rfl) 0 rfl rfl ?_
  refine g_iconst (v := 2) C (gd DX10_readLine_0 7 rfl) (by decide) ?_
  have fr0 : rdF m 22 h (sI (sI h m 25 22) m 26 0) := (rdF.i (by omega) (by omega)).tr (rdF.i (by omega) (by omega))
  have o1 : hI (sI (sI h m 25 22) m 26 0) m 26 = nI 0 := by rw [hI_sI, if_pos ⟨rfl, rfl⟩]; rfl
  have f1 : hI (sI (sI h m 25 22) m 26 0) m 25 = nI 22 := by rw [hI_sI, if_neg (by omega), hI_sI, if_pos ⟨rfl, rfl⟩]; rfl
  have L := L0.nx fr0 ((L0.2.1.i (by omega)).i (by omega))
  generalize sI (sI h m 25 22) m 26 0 = g at fr0 o1 f1 L ⊢
  have hmg := L.1
  have rdl : ∀ rr h2, rdL m g tx n r rr h2 → rdL m h tx n r rr h2 := fun rr h2 q => by
    rcases r with x | x
    · exact ⟨(fr0.t (by omega)).u.tr q.1, q.2⟩
    · exact ⟨(fr0.t (by omega)).tr q.1, q.2⟩
  refine g_cV1 (ci := 10) C [_] mX10_isWord lm_TestJudgeModel_252 (by exact hmg.1) rfl rfl (e_t_word hmg L.2.1 (i := 2) (c := 12468) (by decide) rfl) hfl (by first | decide | omega) (by decide) (by omega) (by omega) rfl rfl (Nat.le_of_ble_eq_true rfl) (gd DX10_readLine_0 8 rfl) ?_
  by_cases el : cdT tx n j = 12468
  · rw [b1_t el]
    have fin : ∀ rr h2, rdL m g tx n r rr h2 → GW z w 2 (gQ z w 0 0 (fun r' h'' => rdL m h tx n r r' h'')) 0 0 23 [(0, .ref m)] rr.toList h2 := by
      intro rr h2 q
      have q1 := rdl rr h2 q
      rcases r with x | x
      · obtain ⟨q2, rfl, q3⟩ := q1
        show GW z w 2 _ 0 0 _ _ [.int 0] _
        exact g_zret C (by decide) (by omega) (by omega) ⟨q2, rfl, q3⟩ (gd DX10_readLine_0 12 rfl)
      · obtain ⟨q2, rfl, q3⟩ := q1
        show GW z w 2 _ 0 0 _ _ [.int 1] _
        exact g_zret C (by decide) (by omega) (by omega) ⟨q2, rfl, q3⟩ (gd DX10_readLine_0 12 rfl)
    refine g_if_eq C 24 (gd DX10_readLine_0 9 rfl) (by decide) (fun c16 => ?_) (fun c16 => ?_)
    · exact absurd c16 (by decide)
    · refine g_aload_n C (gd DX10_readLine_0 10 rfl) 0 rfl rfl ?_
      refine g_callV (ci := 10) C [] mX10_readLet lm_TestJudgeModel_322 (by exact hmg.1) rfl rfl (rl_let si hc hc5 L hj o1 f1 el hz) hfl (by first | decide | omega) (by decide) (by omega) (by omega) rfl rfl (Nat.le_of_ble_eq_true rfl) (gd DX10_readLine_0 11 rfl) (fun r h3 hp => ?_)
      rw [List.append_nil]
      exact fin _ _ hp
  rw [b1_f el]
  refine g_if_eq C 24 (gd DX10_readLine_0 9 rfl) (by decide) (fun c16 => ?_) (fun c16 => ?_)
  rotate_left
  · exact absurd rfl c16
  refine g_aload_n C (gd DX10_readLine_0 13 rfl) 0 rfl rfl ?_
  refine g_iconst (v := 3) C (gd DX10_readLine_0 14 rfl) (by decide) ?_
  refine g_cV1 (ci := 10) C [_] mX10_isWord lm_TestJudgeModel_252 (by exact hmg.1) rfl rfl (e_t_word hmg L.2.1 (i := 3) (c := 857679) (by decide) rfl) hfl (by first | decide | omega) (by decide) (by omega) (by omega) rfl rfl (Nat.le_of_ble_eq_true rfl) (gd DX10_readLine_0 15 rfl) ?_
  by_cases ez : cdT tx n j = 857679
  · rw [b1_t ez]
    have fin : ∀ rr h2, rdL m g tx n r rr h2 → GW z w 2 (gQ z w 0 0 (fun r' h'' => rdL m h tx n r r' h'')) 0 0 36 [(0, .ref m)] rr.toList h2 := by
      intro rr h2 q
      have q1 := rdl rr h2 q
      rcases r with x | x
      · obtain ⟨q2, rfl, q3⟩ := q1
        show GW z w 2 _ 0 0 _ _ [.int 0] _
        exact g_zret C (by decide) (by omega) (by omega) ⟨q2, rfl, q3⟩ (gd DX10_readLine_0 19 rfl)
      · obtain ⟨q2, rfl, q3⟩ := q1
        show GW z w 2 _ 0 0 _ _ [.int 1] _
        exact g_zret C (by decide) (by omega) (by omega) ⟨q2, rfl, q3⟩ (gd DX10_readLine_0 19 rfl)
    refine g_if_eq C 37 (gd DX10_readLine_0 16 rfl) (by decide) (fun c29 => ?_) (fun c29 => ?_)
    · exact absurd c29 (by decide)
    · refine g_aload_n C (gd DX10_readLine_0 17 rfl) 0 rfl rfl ?_
      refine g_callV (ci := 10) C [] mX10_readZero lm_TestJudgeModel_325 (by exact hmg.1) rfl rfl (rl_zero si hc hc5 L hj o1 f1 ez hz) hfl (by first | decide | omega) (by decide) (by omega) (by omega) rfl rfl (Nat.le_of_ble_eq_true rfl) (gd DX10_readLine_0 18 rfl) (fun r h3 hp => ?_)
      rw [List.append_nil]
      exact fin _ _ hp
  rw [b1_f ez]
  refine g_if_eq C 37 (gd DX10_readLine_0 16 rfl) (by decide) (fun c29 => ?_) (fun c29 => ?_)
  rotate_left
  · exact absurd rfl c29
  have sk := L.2.2.2.2.2.1
  rw [pLn, if_neg el, if_neg ez] at hz
  have k89 : ¬ ((cdT tx n j = 21155475 ∨ cdT tx n j = 36499) ∧ S.1.2.2.1 = 0 ∧ S.1.2.2.2 = 0) → ∀ x, GW z w 2 (gQ z w 0 0 (fun r' h'' => rdL m h tx n r r' h'')) 0 0 89 [(0, .ref m), (1, .int x)] [] g := by
    intro q x
    rw [if_neg q] at hz
    cases Option.some.inj hz
    refine g_aload_n C (gd DX10_readLine_0 46 rfl) 0 rfl rfl ?_
    refine g_iconst (v := 2) C (gd DX10_readLine_0 47 rfl) (by decide) ?_
    refine g_cV1 (ci := 10) C [_] mX10_bad lm_TestJudgeModel_219 (by exact hmg.1) rfl rfl (e_t_bad hmg L.2.1 2) hfl (by first | decide | omega) (by decide) (by omega) (by omega) rfl rfl (Nat.le_of_ble_eq_true rfl) (gd DX10_readLine_0 48 rfl) ?_
    exact g_zret C (by decide) (by omega) (by omega) (rdl _ _ (rl_bad (rdT.rf m g))) (gd DX10_readLine_0 49 rfl)
  have k77 : (cdT tx n j = 21155475 ∨ cdT tx n j = 36499) ∧ S.1.2.2.1 = 0 ∧ S.1.2.2.2 = 0 → ∀ x, GW z w 2 (gQ z w 0 0 (fun r' h'' => rdL m h tx n r r' h'')) 0 0 77 [(0, .ref m), (1, .int x)] [] g := by
    intro q x
    rw [if_pos q] at hz
    have fin : ∀ rr h2, rdL m g tx n r rr h2 → GW z w 2 (gQ z w 0 0 (fun r' h'' => rdL m h tx n r r' h'')) 0 0 86 [(0, .ref m), (1, .int x)] rr.toList h2 := by
      intro rr h2 q
      have q1 := rdl rr h2 q
      rcases r with x | x
      · obtain ⟨q2, rfl, q3⟩ := q1
        show GW z w 2 _ 0 0 _ _ [.int 0] _
        refine g_goto (tgt := 94) C (gd DX10_readLine_0 45 rfl) (by decide) ?_
        exact g_zret C (by decide) (by omega) (by omega) ⟨q2, rfl, q3⟩ (gd DX10_readLine_0 49 rfl)
      · obtain ⟨q2, rfl, q3⟩ := q1
        show GW z w 2 _ 0 0 _ _ [.int 1] _
        refine g_goto (tgt := 94) C (gd DX10_readLine_0 45 rfl) (by decide) ?_
        exact g_zret C (by decide) (by omega) (by omega) ⟨q2, rfl, q3⟩ (gd DX10_readLine_0 49 rfl)
    refine g_aload_n C (gd DX10_readLine_0 40 rfl) 0 rfl rfl ?_
    refine g_aload_n C (gd DX10_readLine_0 41 rfl) 0 rfl rfl ?_
    refine g_iconst (v := 0) C (gd DX10_readLine_0 42 rfl) (by decide) ?_
    refine g_cV1 (ci := 10) C [_] mX10_isWord lm_TestJudgeModel_252 (by exact hmg.1) rfl rfl (e_t_word hmg L.2.1 (i := 0) (c := 21155475) (by decide) rfl) hfl (by first | decide | omega) (by decide) (by omega) (by omega) rfl rfl (Nat.le_of_ble_eq_true rfl) (gd DX10_readLine_0 43 rfl) ?_
    rw [show b1 (cdT tx n j = 21155475) = (if (decide (cdT tx n j = 21155475)) = true then (1 : Int32) else 0) from by
      by_cases e : cdT tx n j = 21155475
      · rw [b1_t e, if_pos (decide_eq_true e)]
      · rw [b1_f e, if_neg (fun x => e (of_decide_eq_true x))]]
    refine g_callV (ci := 10) C [_] mX10_readNames lm_TestJudgeModel_328 (by exact hmg.1) rfl rfl (rl_names si hc (decide (cdT tx n j = 21155475)) L q.2.1 q.2.2 hz) hfl (by first | decide | omega) (by decide) (by omega) (by omega) rfl rfl (Nat.le_of_ble_eq_true rfl) (gd DX10_readLine_0 44 rfl) (fun r h3 hp => ?_)
    rw [List.append_nil]
    exact fin _ _ hp
  have k56 : ∀ x, (x = 1 ∧ S.1.2.2.1 = 0 ∧ S.1.2.2.2 = 0) ∨ (x = 0 ∧ ¬ (S.1.2.2.1 = 0 ∧ S.1.2.2.2 = 0)) → GW z w 2 (gQ z w 0 0 (fun r' h'' => rdL m h tx n r r' h'')) 0 0 56 [(0, .ref m)] [.int x] g := by
    intro x hx
    refine g_istore_n (lv' := [(0, _), (1, _)]) C (gd DX10_readLine_0 29 rfl) [1, 0] rfl (by decide) rfl ?_
    refine g_iload_n C (gd DX10_readLine_0 30 rfl) 1 rfl rfl ?_
    refine g_if_eq C 89 (gd DX10_readLine_0 31 rfl) (by decide) (fun c58 => ?_) (fun c58 => ?_)
    · rcases hx with ⟨rfl, -⟩ | ⟨rfl, q⟩
      · exact absurd c58 (by decide)
      · exact k89 (fun p => q p.2) _
    · rcases hx with ⟨rfl, q⟩ | ⟨rfl, -⟩
      · refine g_aload_n C (gd DX10_readLine_0 32 rfl) 0 rfl rfl ?_
        refine g_iconst (v := 0) C (gd DX10_readLine_0 33 rfl) (by decide) ?_
        refine g_cV1 (ci := 10) C [_] mX10_isWord lm_TestJudgeModel_252 (by exact hmg.1) rfl rfl (e_t_word hmg L.2.1 (i := 0) (c := 21155475) (by decide) rfl) hfl (by first | decide | omega) (by decide) (by omega) (by omega) rfl rfl (Nat.le_of_ble_eq_true rfl) (gd DX10_readLine_0 34 rfl) ?_
        by_cases e1 : cdT tx n j = 21155475
        · rw [b1_t e1]
          refine g_if_ne C 77 (gd DX10_readLine_0 35 rfl) (by decide) (fun c66 => ?_) (fun c66 => ?_)
          · exact k77 ⟨Or.inl e1, q⟩ _
          · exact absurd c66 (by decide)
        · rw [b1_f e1]
          refine g_if_ne C 77 (gd DX10_readLine_0 35 rfl) (by decide) (fun c66 => ?_) (fun c66 => ?_)
          · exact absurd rfl c66
          · refine g_aload_n C (gd DX10_readLine_0 36 rfl) 0 rfl rfl ?_
            refine g_iconst (v := 1) C (gd DX10_readLine_0 37 rfl) (by decide) ?_
            refine g_cV1 (ci := 10) C [_] mX10_isWord lm_TestJudgeModel_252 (by exact hmg.1) rfl rfl (e_t_word hmg L.2.1 (i := 1) (c := 36499) (by decide) rfl) hfl (by first | decide | omega) (by decide) (by omega) (by omega) rfl rfl (Nat.le_of_ble_eq_true rfl) (gd DX10_readLine_0 38 rfl) ?_
            by_cases e2 : cdT tx n j = 36499
            · rw [b1_t e2]
              refine g_if_eq C 89 (gd DX10_readLine_0 39 rfl) (by decide) (fun c74 => ?_) (fun c74 => ?_)
              · exact absurd c74 (by decide)
              · exact k77 ⟨Or.inr e2, q⟩ _
            · rw [b1_f e2]
              refine g_if_eq C 89 (gd DX10_readLine_0 39 rfl) (by decide) (fun c74 => ?_) (fun c74 => ?_)
              · exact k89 (fun p => p.1.elim e1 e2) _
              · exact absurd rfl c74
      · exact absurd rfl c58
  refine g_aload_n C (gd DX10_readLine_0 20 rfl) 0 rfl rfl ?_
  refine g_geti (ci := 10) (k := 31) C rfl (by decide) rfl lf_TestJudgeModel_231 hmg.1 (gd DX10_readLine_0 21 rfl) ?_
  rw [L.2.2.1.2.1.2.2]
  refine g_if_ne C 55 (gd DX10_readLine_0 22 rfl) (by decide) (fun c41 => ?_) (fun c41 => ?_)
  · have n0 : ¬ S.1.2.2.1 = 0 := fun q => c41 (by rw [q]; rfl)
    refine g_iconst (v := 0) C (gd DX10_readLine_0 28 rfl) (by decide) ?_
    exact k56 0 (Or.inr ⟨rfl, fun q => n0 q.1⟩)
  · have e0 : S.1.2.2.1 = 0 := (nI_eq (b := 0) (by omega) (by omega)).mp c41
    refine g_aload_n C (gd DX10_readLine_0 23 rfl) 0 rfl rfl ?_
    refine g_geti (ci := 10) (k := 32) C rfl (by decide) rfl lf_TestJudgeModel_319 hmg.1 (gd DX10_readLine_0 24 rfl) ?_
    rw [L.2.2.2.1]
    refine g_if_ne C 55 (gd DX10_readLine_0 25 rfl) (by decide) (fun c48 => ?_) (fun c48 => ?_)
    · have n0 : ¬ S.1.2.2.2 = 0 := fun q => c48 (by rw [q]; rfl)
      refine g_iconst (v := 0) C (gd DX10_readLine_0 28 rfl) (by decide) ?_
      exact k56 0 (Or.inr ⟨rfl, fun q => n0 q.2⟩)
    · have e2 : S.1.2.2.2 = 0 := (nI_eq (b := 0) (by omega) (by omega)).mp c48
      refine g_iconst (v := 1) C (gd DX10_readLine_0 26 rfl) (by decide) ?_
      refine g_goto (tgt := 56) C (gd DX10_readLine_0 27 rfl) (by decide) ?_
      exact k56 1 (Or.inl ⟨rfl, e0, e2⟩)
end M59
