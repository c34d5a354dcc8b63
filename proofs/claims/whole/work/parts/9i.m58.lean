/-! let, zero and every line in the reference -/
theorem sub_pos {a b : Nat} (ha : a < 2 ^ 30) (hb : b < 2 ^ 30) : 0 < nI a - nI b ↔ b < a := by
  have h0 : (0 : Int32).toInt = 0 := rfl
  rw [Int32.lt_iff_toInt_lt, pk_sub_toInt ha hb, h0]
  omega
section M58
variable {w : gD} {m : Nat} {tx : Nat → Nat} {n c : Nat}
theorem mLn.prog {h : HS} {j : Nat} {S : pS} (L : mLn m h tx n j S) (h8 : S.1.2.2.1 < 8) {wv : Nat} (hw : wv < 2 ^ 30) {R : Nat → Int32} {a : pR} (hR : Ag R a.2) (ha5 : a.1 ≤ 5) (oka : okT (allF (nI S.1.1)) a) : mLn m (sI (sL (hRc m h (11 + S.1.2.2.1) R) (m + 4) (6 + S.1.2.2.1) (lN wv)) m 31 (nI (S.1.2.2.1 + 1))) tx n j ((S.1.1, S.1.2.1, S.1.2.2.1 + 1, S.1.2.2.2), updA S.2.1 (6 + S.1.2.2.1) wv, updA S.2.2.1 S.1.2.2.1 a, S.2.2.2) := by
  obtain ⟨hm1, T1, N1, n32, nF, ⟨s1, s2, s3, s4⟩, s5, s6, s7, s8⟩ := L
  obtain ⟨⟨r1, r2, r3⟩, ⟨r4, r5, r6⟩, r7, ⟨r8, r9, r10⟩, r11⟩ := N1
  have up : ∀ k, updA S.2.1 (6 + S.1.2.2.1) wv k < 2 ^ 30 := fun k => by
    unfold updA; split
    · exact hw
    · exact s5 k
  have pk : ∀ k, k < S.1.2.2.1 + 1 → (updA S.2.2.1 S.1.2.2.1 a k).1 ≤ 5 ∧ okT (allF (nI S.1.1)) (updA S.2.2.1 S.1.2.2.1 a k) := fun k hk => by
    unfold updA
    by_cases e : k = S.1.2.2.1
    · rw [if_pos e]; exact ⟨ha5, oka⟩
    · rw [if_neg e]; exact s6 k (by omega)
  have im : ∀ k, k ≠ 31 → hI (sI (sL (hRc m h (11 + S.1.2.2.1) R) (m + 4) (6 + S.1.2.2.1) (lN wv)) m 31 (nI (S.1.2.2.1 + 1))) m k = hI h m k := fun k hk => by
    rw [hI_sI, if_neg (by omega), hI_sL, hRc_m]
  have ir : ∀ q, gRec (hI (sI (sL (hRc m h (11 + S.1.2.2.1) R) (m + 4) (6 + S.1.2.2.1) (lN wv)) m 31 (nI (S.1.2.2.1 + 1))) (m + 1)) q = gRec (hI (hRc m h (11 + S.1.2.2.1) R) (m + 1)) q := fun q => by rw [sR_rec, hI_sL]
  refine ⟨hm1, T1.fr (fun k h1 h2 => im k (by omega)) (by rw [hI_sI_ne (by omega), hI_sL]; exact hI_sF_ne (by omega)) (by show hL (sL (hRc m h (11 + S.1.2.2.1) R) (m + 4) (6 + S.1.2.2.1) (lN wv)) m 27 = _; rw [hL_sL, if_neg (by omega)]; rfl), ⟨⟨r1, r2, by show S.1.2.2.1 + 1 ≤ 8; omega⟩, ⟨by rw [im 29 (by omega)]; exact r4, by rw [im 30 (by omega)]; exact r5, by rw [hI_sI, if_pos ⟨rfl, rfl⟩]⟩, up, ⟨fun k hk => ?_, fun k hk => ?_, fun k hk => ?_⟩, fun k hk => ⟨?_, pk k hk⟩⟩, by rw [im 32 (by omega)]; exact n32, fun k hk => ?_, ⟨s1, s2, by show S.1.2.2.1 + 1 ≤ 8; omega, s4⟩, up, pk, s7, s8⟩
  · show hL (sL (hRc m h (11 + S.1.2.2.1) R) (m + 4) (6 + S.1.2.2.1) (lN wv)) (m + 4) (0 + k) = lN (updA S.2.1 (6 + S.1.2.2.1) wv (0 + k))
    have hk' : k < S.1.1 := hk
    rw [hL_sL, updA, if_neg (by omega), if_neg (by omega)]; exact r8 k hk
  · show hL (sL (hRc m h (11 + S.1.2.2.1) R) (m + 4) (6 + S.1.2.2.1) (lN wv)) (m + 4) (3 + k) = lN (updA S.2.1 (6 + S.1.2.2.1) wv (3 + k))
    have hk' : k < S.1.2.1 := hk
    rw [hL_sL, updA, if_neg (by omega), if_neg (by omega)]; exact r9 k hk
  · have hk' : k < S.1.2.2.1 + 1 := hk
    show hL (sL (hRc m h (11 + S.1.2.2.1) R) (m + 4) (6 + S.1.2.2.1) (lN wv)) (m + 4) (6 + k) = lN (updA S.2.1 (6 + S.1.2.2.1) wv (6 + k))
    rw [hL_sL, updA]
    by_cases e : k = S.1.2.2.1
    · rw [if_pos (by omega), if_pos (by omega)]
    · rw [if_neg (by omega), if_neg (by omega)]; exact r10 k (by omega)
  · have hk' : k < S.1.2.2.1 + 1 := hk
    rw [ir]
    show Ag _ (updA S.2.2.1 S.1.2.2.1 a k).2
    unfold updA
    by_cases e : k = S.1.2.2.1
    · rw [if_pos e, e]; exact hRc_at.tr hR
    · rw [if_neg e]; exact (hRc_o (by omega)).tr (r11 k (by omega)).1
  · rw [ir]
    exact (hRc_o (by omega)).tr (nF k hk)
theorem mLn.fact {h : HS} {j : Nat} {S : pS} (L : mLn m h tx n j S) (h2 : S.1.2.2.2 < 2) {R : Nat → Int32} {a : pR} (hR : Ag R a.2) (hs : fsP S.2.2.2 S.1.2.2.2 + a.1 ≤ 2) (oka : okT (allF (nI S.1.1)) a) : mLn m (sI (hRc m h (19 + S.1.2.2.2) R) m 32 (nI (S.1.2.2.2 + 1))) tx n j ((S.1.1, S.1.2.1, S.1.2.2.1, S.1.2.2.2 + 1), S.2.1, S.2.2.1, updA S.2.2.2 S.1.2.2.2 a) := by
  obtain ⟨hm1, T1, N1, n32, nF, ⟨s1, s2, s3, s4⟩, s5, s6, s7, s8⟩ := L
  obtain ⟨⟨r1, r2, r3⟩, ⟨r4, r5, r6⟩, r7, ⟨r8, r9, r10⟩, r11⟩ := N1
  have im : ∀ k, k ≠ 32 → hI (sI (hRc m h (19 + S.1.2.2.2) R) m 32 (nI (S.1.2.2.2 + 1))) m k = hI h m k := fun k hk => by
    rw [hI_sI, if_neg (by omega), hRc_m]
  refine ⟨hm1, T1.fr (fun k h1 h2 => im k (by omega)) (by rw [hI_sI_ne (by omega)]; exact hI_sF_ne (by omega)) rfl, ⟨⟨r1, r2, r3⟩, ⟨by rw [im 29 (by omega)]; exact r4, by rw [im 30 (by omega)]; exact r5, by rw [im 31 (by omega)]; exact r6⟩, r7, ⟨r8, r9, r10⟩, fun k hk => ⟨?_, (r11 k hk).2⟩⟩, by rw [hI_sI, if_pos ⟨rfl, rfl⟩], fun k hk => ?_, ⟨s1, s2, s3, by show S.1.2.2.2 + 1 ≤ 2; omega⟩, s5, s6, fun k hk => ?_, ?_⟩
  · have hk' : k < S.1.2.2.1 := hk
    rw [sR_rec]
    exact (hRc_o (by omega)).tr (r11 k hk).1
  · have hk' : k < S.1.2.2.2 + 1 := hk
    rw [sR_rec]
    show Ag _ (updA S.2.2.2 S.1.2.2.2 a k).2
    unfold updA
    by_cases e : k = S.1.2.2.2
    · rw [if_pos e, e]; exact hRc_at.tr hR
    · rw [if_neg e]; exact (hRc_o (by omega)).tr (nF k (by omega))
  · have hk' : k < S.1.2.2.2 + 1 := hk
    show okT (allF (nI S.1.1)) (updA S.2.2.2 S.1.2.2.2 a k)
    unfold updA
    by_cases e : k = S.1.2.2.2
    · rw [if_pos e]; exact oka
    · rw [if_neg e]; exact s7 k (by omega)
  · show fsP (updA S.2.2.2 S.1.2.2.2 a) (S.1.2.2.2 + 1) ≤ 2
    rw [fsP, fsP_cg (FR := updA S.2.2.2 S.1.2.2.2 a) (FR' := S.2.2.2) S.1.2.2.2 (fun i hi => if_neg (by omega)), updA, if_pos rfl]
    omega
theorem rl_let (si : gSI w) (hc : ∀ j, j < c → cdT tx n j ≠ 0 → j + 1 < c) (hc5 : c ≤ 501) {h : HS} {j : Nat} {S : pS} {r : pLz} (L : mLn m h tx n j S) (hj : j < c) (ho : hI h m 26 = nI 0) (hf : hI h m 25 = nI 22) (hcd : cdT tx n j = 12468) (hz : pLn tx n j S = some r) : Ev w 34 0 0 yX10_readLet cX10_readLet 3 (some .boolean) [.ref m] h (rdL m h tx n r) := by
  have hm := L.1
  have sk := L.2.2.2.2.2
  rw [pLn, if_pos hcd] at hz
  have hj1 := hc j hj (by omega)
  refine g_start (by decide) (Nat.le_of_ble_eq_true rfl) [(0, _)] rfl (fun z hfl C => ?_)
  have no : ∀ h' x, rdL m h tx n r (some (.int 0)) h' → GW z w 3 (gQ z w 0 0 (fun r' h'' => rdL m h tx n r r' h'')) 0 0 82 [(0, .ref m), (1, .long x)] [] h' := by
    intro h' x q
    refine g_iconst (v := 0) C (gd DX10_readLet_0 42 rfl) (by decide) ?_
    exact g_zret C (by decide) (by omega) (by omega) q (gd DX10_readLet_0 43 rfl)
  refine g_aload_n C (gd DX10_readLet_0 0 rfl) 0 rfl rfl ?_
  refine g_geti (ci := 10) (k := 31) C rfl (by decide) rfl lf_TestJudgeModel_231 hm.1 (gd DX10_readLet_0 1 rfl) ?_
  rw [L.2.2.1.2.1.2.2]
  refine g_bipush (v := 8) C (gd DX10_readLet_0 2 rfl) (by decide) ?_
  refine g_icmp_ne C 15 (gd DX10_readLet_0 3 rfl) (by decide) (fun c6 => ?_) (fun c6 => ?_)
  rotate_left
  · have e8 := (nI_eq (b := 8) (by have := sk.1.2.2.1; omega) (by omega)).mp c6
    rw [if_pos e8] at hz
    cases Option.some.inj hz
    refine g_aload_n C (gd DX10_readLet_0 4 rfl) 0 rfl rfl ?_
    refine g_iconst (v := 4) C (gd DX10_readLet_0 5 rfl) (by decide) ?_
    refine g_cV1 (ci := 10) C [_] mX10_bad lm_TestJudgeModel_219 (by exact hm.1) rfl rfl (e_t_bad hm L.2.1 4) hfl (by first | decide | omega) (by decide) (by omega) (by omega) rfl rfl (Nat.le_of_ble_eq_true rfl) (gd DX10_readLet_0 6 rfl) ?_
    exact g_zret C (by decide) (by omega) (by omega) (rl_bad (rdT.rf m h)) (gd DX10_readLet_0 7 rfl)
  have n8 : ¬ S.1.2.2.1 = 8 := fun q => c6 (by rw [q]; rfl)
  have sk8 := sk.1.2.2.1
  rw [if_neg n8] at hz
  refine g_aload_n C (gd DX10_readLet_0 8 rfl) 0 rfl rfl ?_
  refine g_callV (ci := 10) C [] mX10_goes lm_TestJudgeModel_215 (by exact hm.1) rfl rfl (e_t_goes si hm L.2.1) hfl (by first | decide | omega) (by decide) (by omega) (by omega) rfl rfl (Nat.le_of_ble_eq_true rfl) (gd DX10_readLet_0 9 rfl) (fun r h1 hp => ?_)
  obtain ⟨rfl, a1, a2⟩ := hp
  have L1 := L.nx (rdF.nx a1) a2
  have hm1 := L1.1
  have o1 : hI h1 m 26 = nI 0 := by rw [a1.2.1 m 26 (by omega)]; exact ho
  have f1 : hI h1 m 25 = nI 22 := by rw [a1.2.1 m 25 (by omega)]; exact hf
  show GW z w 3 _ 0 0 _ _ [.int 1] _
  refine g_if_ne C 24 (gd DX10_readLet_0 10 rfl) (by decide) (fun c19 => ?_) (fun c19 => ?_)
  rotate_left
  · exact absurd c19 (by decide)
  refine g_aload_n C (gd DX10_readLet_0 13 rfl) 0 rfl rfl ?_
  refine g_cV1 (ci := 10) C [] mX10_isName lm_TestJudgeModel_249 (by exact hm1.1) rfl rfl (e_t_name hm1 a2) hfl (by first | decide | omega) (by decide) (by omega) (by omega) rfl rfl (Nat.le_of_ble_eq_true rfl) (gd DX10_readLet_0 14 rfl) ?_
  by_cases e2 : cdT tx n (j + 1) = 2
  rotate_left
  · rw [b1_f e2]
    rw [if_pos e2] at hz
    cases Option.some.inj hz
    refine g_if_ne C 37 (gd DX10_readLet_0 15 rfl) (by decide) (fun c28 => ?_) (fun c28 => ?_)
    · exact absurd rfl c28
    · refine g_aload_n C (gd DX10_readLet_0 16 rfl) 0 rfl rfl ?_
      refine g_iconst (v := 2) C (gd DX10_readLet_0 17 rfl) (by decide) ?_
      refine g_cV1 (ci := 10) C [_] mX10_bad lm_TestJudgeModel_219 (by exact hm1.1) rfl rfl (e_t_bad hm1 a2 2) hfl (by first | decide | omega) (by decide) (by omega) (by omega) rfl rfl (Nat.le_of_ble_eq_true rfl) (gd DX10_readLet_0 18 rfl) ?_
      exact g_zret C (by decide) (by omega) (by omega) (rl_bad a1.t) (gd DX10_readLet_0 19 rfl)
  rw [b1_t e2]
  rw [if_neg (fun q => q e2)] at hz
  have hj2 := hc (j + 1) hj1 (by omega)
  obtain ⟨hw, hwv⟩ := a2.2.2.2.w2 e2
  refine g_if_ne C 37 (gd DX10_readLet_0 15 rfl) (by decide) (fun c28 => ?_) (fun c28 => ?_)
  rotate_left
  · exact absurd c28 (by decide)
  refine g_aload_n C (gd DX10_readLet_0 20 rfl) 0 rfl rfl ?_
  refine g_cV1 (ci := 10) C [] mX10_isTaken lm_TestJudgeModel_313 (by exact hm1.1) rfl rfl (e_t_isTaken hm1 L1.2.2.1 hw hwv) hfl (by first | decide | omega) (by decide) (by omega) (by omega) rfl rfl (Nat.le_of_ble_eq_true rfl) (gd DX10_readLet_0 21 rfl) ?_
  by_cases et : pTk S.1.1 S.1.2.1 S.1.2.2.1 S.2.1 (wdT tx n (j + 1))
  · rw [b1_t et]
    rw [if_pos et] at hz
    cases Option.some.inj hz
    refine g_if_eq C 50 (gd DX10_readLet_0 22 rfl) (by decide) (fun c41 => ?_) (fun c41 => ?_)
    · exact absurd c41 (by decide)
    · refine g_aload_n C (gd DX10_readLet_0 23 rfl) 0 rfl rfl ?_
      refine g_iconst (v := 3) C (gd DX10_readLet_0 24 rfl) (by decide) ?_
      refine g_cV1 (ci := 10) C [_] mX10_bad lm_TestJudgeModel_219 (by exact hm1.1) rfl rfl (e_t_bad hm1 a2 3) hfl (by first | decide | omega) (by decide) (by omega) (by omega) rfl rfl (Nat.le_of_ble_eq_true rfl) (gd DX10_readLet_0 25 rfl) ?_
      exact g_zret C (by decide) (by omega) (by omega) (rl_bad a1.t) (gd DX10_readLet_0 26 rfl)
  rw [b1_f et]
  rw [if_neg et] at hz
  refine g_if_eq C 50 (gd DX10_readLet_0 22 rfl) (by decide) (fun c41 => ?_) (fun c41 => ?_)
  rotate_left
  · exact absurd rfl c41
  refine g_aload_n C (gd DX10_readLet_0 27 rfl) 0 rfl rfl ?_
  refine g_getl (ci := 10) (k := 27) C rfl (by decide) rfl lf_TestJudgeModel_180 hm1.1 (gd DX10_readLet_0 28 rfl) ?_
  rw [hw]
  refine g_lstore_n (lv' := [(0, _), (1, _)]) C (gd DX10_readLet_0 29 rfl) [1, 0] rfl (by decide) rfl ?_
  refine g_aload_n C (gd DX10_readLet_0 30 rfl) 0 rfl rfl ?_
  refine g_callV (ci := 10) C [] mX10_goes lm_TestJudgeModel_215 (by exact hm1.1) rfl rfl (e_t_goes si hm1 a2) hfl (by first | decide | omega) (by decide) (by omega) (by omega) rfl rfl (Nat.le_of_ble_eq_true rfl) (gd DX10_readLet_0 31 rfl) (fun r h2 hp => ?_)
  obtain ⟨rfl, b1', b2⟩ := hp
  have L2 := L1.nx (rdF.nx b1') b2
  have hm2 := L2.1
  have o2 : hI h2 m 26 = nI 0 := by rw [b1'.2.1 m 26 (by omega)]; exact o1
  have f2 : hI h2 m 25 = nI 22 := by rw [b1'.2.1 m 25 (by omega)]; exact f1
  show GW z w 3 _ 0 0 _ _ [.int 1] _
  refine g_if_eq C 82 (gd DX10_readLet_0 32 rfl) (by decide) (fun c59 => ?_) (fun c59 => ?_)
  · exact absurd c59 (by decide)
  refine g_aload_n C (gd DX10_readLet_0 33 rfl) 0 rfl rfl ?_
  refine g_aload_n C (gd DX10_readLet_0 34 rfl) 0 rfl rfl ?_
  refine g_bipush (v := 61) C (gd DX10_readLet_0 35 rfl) (by decide) ?_
  refine g_cV1 (ci := 10) C [_] mX10_isSign lm_TestJudgeModel_240 (by exact hm2.1) rfl rfl (e_t_sign hm2 b2 (k := 61) (by decide)) hfl (by first | decide | omega) (by decide) (by omega) (by omega) rfl rfl (Nat.le_of_ble_eq_true rfl) (gd DX10_readLet_0 36 rfl) ?_
  refine g_callV (ci := 10) C [_] mX10_needs lm_TestJudgeModel_288 (by exact hm2.1) rfl rfl (e_t_needs si hm2 b2 (cdT tx n (j + 1 + 1) = 61)) hfl (by first | decide | omega) (by decide) (by omega) (by omega) rfl rfl (Nat.le_of_ble_eq_true rfl) (gd DX10_readLet_0 37 rfl) (fun r h3 hp => ?_)
  rcases hp with ⟨ec, rfl, b3, T3⟩ | ⟨ec, rfl, rfl⟩
  rotate_left
  · rw [if_pos ec] at hz
    cases Option.some.inj hz
    show GW z w 3 _ 0 0 _ _ [.int 0] _
    refine g_if_eq C 82 (gd DX10_readLet_0 38 rfl) (by decide) (fun c72 => ?_) (fun c72 => ?_)
    · exact no _ _ (rl_bad (a1.t.tr b1'.t))
    · exact absurd rfl c72
  rw [if_neg (fun q => q ec)] at hz
  have hj3 := hc (j + 2) hj2 (by show cdT tx n (j + 1 + 1) ≠ 0; omega)
  have L3 := L2.nx (rdF.nx b3) T3
  have hm3 := L3.1
  have o3 : hI h3 m 26 = nI 0 := by rw [b3.2.1 m 26 (by omega)]; exact o2
  have f3 : hI h3 m 25 = nI 22 := by rw [b3.2.1 m 25 (by omega)]; exact f2
  obtain ⟨r1, hr1, ok1⟩ := pz_tot (E := envT tx n S.1.1 S.1.2.1 S.1.2.2.1 S.2.1 S.2.2.1) hc L3.2.2.1.nm 5000 4 0 (j + 3) (0, rPlain 0) (by omega) hj3 (show 8 * (c - (j + 3)) + 3 < 5000 by omega) (fun q => by omega)
  rw [hr1] at hz
  show GW z w 3 _ 0 0 _ _ [.int 1] _
  refine g_if_eq C 82 (gd DX10_readLet_0 38 rfl) (by decide) (fun c72 => ?_) (fun c72 => ?_)
  · exact absurd c72 (by decide)
  refine g_aload_n C (gd DX10_readLet_0 39 rfl) 0 rfl rfl ?_
  refine g_callV (ci := 10) C [] mX10_readSum lm_TestJudgeModel_285 (by exact hm3.1) rfl rfl ((rd_all si hc hc5 5000 5000 (Nat.le_refl _)).2.2.2 h3 0 22 (j + 3) (0, rPlain 0) r1 hm3 L3.2.2.1 T3 o3 (by omega) f3 (by omega) (by omega) hj3 (by omega) hr1) hfl (by first | decide | omega) (by decide) (by omega) (by omega) rfl rfl (Nat.le_of_ble_eq_true rfl) (gd DX10_readLet_0 40 rfl) (fun r h4 hp => ?_)
  have fr3 : rdT m h h3 := (a1.t.tr b1'.t).tr b3.t
  rcases r1 with x | ⟨j1, a⟩
  · obtain ⟨q1, rfl, q2, q3⟩ := hp
    cases Option.some.inj (show some (Sum.inl x) = some r from hz)
    show GW z w 3 _ 0 0 _ _ [.int 0] _
    refine g_if_ne C 84 (gd DX10_readLet_0 41 rfl) (by decide) (fun c79 => ?_) (fun c79 => ?_)
    · exact absurd rfl c79
    · exact no _ _ ⟨fr3.u.tr (q1.u (by omega)), rfl, q2, q3⟩
  obtain ⟨q1, rfl, T4, o4, f4, g4⟩ := hp
  obtain ⟨x1, x2, x3, x4, x5⟩ := ok1
  rw [if_neg (by omega)] at x5
  dsimp only at x1 x2 x4 x5 T4 g4
  have L4 := L3.nx q1 T4
  have hm4 := L4.1
  have fr4 := fr3.tr (q1.t (by omega))
  change (if cdT tx n j1 ≠ 59 then _ else _) = some r at hz
  show GW z w 3 _ 0 0 _ _ [.int 1] _
  refine g_if_ne C 84 (gd DX10_readLet_0 41 rfl) (by decide) (fun c79 => ?_) (fun c79 => ?_)
  rotate_left
  · exact absurd c79 (by decide)
  refine g_aload_n C (gd DX10_readLet_0 44 rfl) 0 rfl rfl ?_
  refine g_aload_n C (gd DX10_readLet_0 45 rfl) 0 rfl rfl ?_
  refine g_bipush (v := 22) C (gd DX10_readLet_0 46 rfl) (by decide) ?_
  refine g_iconst (v := 0) C (gd DX10_readLet_0 47 rfl) (by decide) ?_
  refine g_cV1 (ci := 10) C [_, _] mX10_at lm_TestJudgeModel_131 (by exact hm4.1) rfl rfl (e_m_at hm4 (j := 307 * 22 + 0) (r_ix 22 0) (by omega)) hfl (by first | decide | omega) (by decide) (by omega) (by omega) rfl rfl (Nat.le_of_ble_eq_true rfl) (gd DX10_readLet_0 48 rfl) ?_
  rw [show hI h4 (m + 1) (307 * 22 + 0) = nI a.1 from (g4 0 (by omega)).trans x4.1]
  refine g_iconst (v := 5) C (gd DX10_readLet_0 49 rfl) (by decide) ?_
  refine g_isub C (gd DX10_readLet_0 50 rfl) ?_
  refine g_callV (ci := 10) C [_] mX10_readWeighed lm_TestJudgeModel_316 (by exact hm4.1) rfl rfl (e_t_weighed si hm4 T4 (nI a.1 - 5) (5 < a.1) (sub_pos (b := 5) (by omega) (by omega))) hfl (by first | decide | omega) (by decide) (by omega) (by omega) rfl rfl (Nat.le_of_ble_eq_true rfl) (gd DX10_readLet_0 51 rfl) (fun r h5 hp => ?_)
  rcases hp with ⟨e59, rfl, rfl⟩ | ⟨e59, e5, rfl, rfl⟩ | ⟨e59, e5, rfl, b5, T5⟩
  · rw [if_pos e59] at hz
    cases Option.some.inj hz
    show GW z w 3 _ 0 0 _ _ [.int 0] _
    refine g_if_ne C 102 (gd DX10_readLet_0 52 rfl) (by decide) (fun c97 => ?_) (fun c97 => ?_)
    · exact absurd rfl c97
    · refine g_iconst (v := 0) C (gd DX10_readLet_0 53 rfl) (by decide) ?_
      exact g_zret C (by decide) (by omega) (by omega) (rl_bad fr4) (gd DX10_readLet_0 54 rfl)
  · rw [if_neg (fun q => q e59), if_pos e5] at hz
    cases Option.some.inj hz
    show GW z w 3 _ 0 0 _ _ [.int 0] _
    refine g_if_ne C 102 (gd DX10_readLet_0 52 rfl) (by decide) (fun c97 => ?_) (fun c97 => ?_)
    · exact absurd rfl c97
    · refine g_iconst (v := 0) C (gd DX10_readLet_0 53 rfl) (by decide) ?_
      exact g_zret C (by decide) (by omega) (by omega) (rl_bad (k := 5) fr4) (gd DX10_readLet_0 54 rfl)
  rw [if_neg (fun q => q e59), if_neg e5] at hz
  cases Option.some.inj hz
  have L5 := L4.nx (rdF.nx b5) T5
  have hm5 := L5.1
  have fr5 := fr4.tr b5.t
  have g5 : Ag (gRec (hI h5 (m + 1)) 22) a.2 := by rw [show hI h5 (m + 1) = hI h4 (m + 1) from funext fun k => b5.2.1 (m + 1) k (by omega)]; exact g4
  show GW z w 3 _ 0 0 _ _ [.int 1] _
  refine g_if_ne C 102 (gd DX10_readLet_0 52 rfl) (by decide) (fun c97 => ?_) (fun c97 => ?_)
  rotate_left
  · exact absurd c97 (by decide)
  refine g_aload_n C (gd DX10_readLet_0 55 rfl) 0 rfl rfl ?_
  refine g_bipush (v := 22) C (gd DX10_readLet_0 56 rfl) (by decide) ?_
  refine g_bipush (v := 11) C (gd DX10_readLet_0 57 rfl) (by decide) ?_
  refine g_aload_n C (gd DX10_readLet_0 58 rfl) 0 rfl rfl ?_
  refine g_geti (ci := 10) (k := 31) C rfl (by decide) rfl lf_TestJudgeModel_231 hm5.1 (gd DX10_readLet_0 59 rfl) ?_
  rw [L5.2.2.1.2.1.2.2, show (11 : Int32) = nI 11 from rfl]
  refine g_iadd C (gd DX10_readLet_1 0 rfl) ?_
  rw [show nI 11 + nI S.1.2.2.1 = nI (11 + S.1.2.2.1) from nx_add rfl rfl]
  refine g_cV0 (v := .null) (ci := 10) C [_, _] mX10_copies lm_TestJudgeModel_246 (by exact hm5.1) rfl rfl (e_m_copies hm5 (r := 22) (t := 11 + S.1.2.2.1) (by omega) (by omega) (by omega)) hfl (by first | decide | omega) (by decide) (by omega) (by omega) rfl rfl (Nat.le_of_ble_eq_true rfl) (gd DX10_readLet_1 1 rfl) ?_
  generalize hg : sF h5 (m + 1) (pRec (hI h5 (m + 1)) (11 + S.1.2.2.1) (gRec (hI h5 (m + 1)) 22)) = h6
  have e6 : h6 = hRc m h5 (11 + S.1.2.2.1) (gRec (hI h5 (m + 1)) 22) := hg.symm
  have hm6 : mSh m h6 := by rw [e6]; exact hm5
  have n6 : hI h6 m 31 = nI S.1.2.2.1 := by rw [e6, hRc_m]; exact L5.2.2.1.2.1.2.2
  clear hg
  refine g_aload_n C (gd DX10_readLet_1 2 rfl) 0 rfl rfl ?_
  refine g_getr (ci := 10) (k := 28) C rfl (by decide) rfl lf_TestJudgeModel_29 hm6.1 (hm6.2 28 4 13 14 rfl).1 (gd DX10_readLet_1 3 rfl) ?_
  refine g_bipush (v := 6) C (gd DX10_readLet_1 4 rfl) (by decide) ?_
  refine g_aload_n C (gd DX10_readLet_1 5 rfl) 0 rfl rfl ?_
  refine g_geti (ci := 10) (k := 31) C rfl (by decide) rfl lf_TestJudgeModel_231 hm6.1 (gd DX10_readLet_1 6 rfl) ?_
  rw [n6]
  refine g_iadd C (gd DX10_readLet_1 7 rfl) ?_
  rw [show (6 : Int32) + nI S.1.2.2.1 = nI (6 + S.1.2.2.1) from nx_add (a := 6) rfl rfl]
  refine g_lload_n C (gd DX10_readLet_1 8 rfl) 1 rfl rfl ?_
  refine g_lsj (j := (6 + S.1.2.2.1)) C (hm6.2 28 4 13 14 rfl).2.1 (hm6.2 28 4 13 14 rfl).2.2 (by first | decide | omega) rfl (by omega) (gd DX10_readLet_1 9 rfl) ?_
  refine g_aload_n C (gd DX10_readLet_1 10 rfl) 0 rfl rfl ?_
  refine g_dup C (gd DX10_readLet_1 11 rfl) rfl ?_
  refine g_geti (ci := 10) (k := 31) C rfl (by decide) rfl lf_TestJudgeModel_231 hm6.1 (gd DX10_readLet_1 12 rfl) ?_
  rw [show hI (sL h6 (m + 4) (6 + S.1.2.2.1) (lN (wdT tx n (j + 1)))) m 31 = _ from n6]
  refine g_iconst (v := 1) C (gd DX10_readLet_1 13 rfl) (by decide) ?_
  refine g_iadd C (gd DX10_readLet_1 14 rfl) ?_
  rw [show nI S.1.2.2.1 + 1 = nI (S.1.2.2.1 + 1) from nx_add (b := 1) rfl rfl]
  refine g_puti (ci := 10) (k := 31) C rfl (by decide) rfl lf_TestJudgeModel_231 hm6.1 (Or.inl rfl) rfl (gd DX10_readLet_1 15 rfl) ?_
  refine g_iconst (v := 1) C (gd DX10_readLet_1 16 rfl) (by decide) ?_
  rw [e6]
  exact g_zret C (by decide) (by omega) (by omega) ⟨((fr5.tr (rdT.rc (by omega))).tr rdT.l).tr (rdT.i (by omega) (by omega)), rfl, L5.prog (by omega) hwv g5 (by omega) x4⟩ (gd DX10_readLet_1 17 rfl)
end M58
