/-! The reference's undo, feed and load in the words of the class's -/
section B3
variable {w : gD} {m : Nat} {h h' : HS} {V : aV} {M : aM}
theorem vOK_un {V : aV} (hV : vOK V) {b : Nat} (hb : b ≤ vA V) : vOK (V.1, V.2.1, b, vHi V) := by
  obtain ⟨⟨v1, v2, v3, v4⟩, v5, v6, v7⟩ := hV
  exact ⟨⟨v1, v2, v3, Nat.le_trans hb v4⟩, fun i hi => v5 i (Nat.le_trans hi hb), v6, v7⟩
theorem b_m_undo (v : MV m h V M) : Ev w 1 0 0 yX10_undo cX10_undo 2 (some .int) [.ref m] h (bQ m (qUnd V M)) := by
  obtain ⟨fw, ⟨v1, v2, v3⟩, v4, v5, ⟨v6, v7⟩, ⟨v8, v9, va⟩, ⟨vb, vc, vd⟩, ⟨ve, vf, vg⟩, ⟨vh, vi, vj⟩, vk⟩ := id v
  refine Ev.to (e_m_undo v1.1 v2.1.2.2.2 v6) (fun r' h' hp => ?_)
  rcases hp with ⟨a0, hr, rfl⟩ | ⟨b, hb, hr, rfl⟩
  · exact ⟨_, _, _, hr, v.q ((mKp.rf m h).q 5), Or.inl ⟨a0, rfl, rfl, rfl⟩⟩
  · refine ⟨_, _, _, hr, ?_, Or.inr ⟨b, hb, rfl, rfl, rfl⟩⟩
    generalize hg : sI (sI (sI (sI (sI (sF (sI h m 7 (nI b)) (m + 1) (unF (hI h (m + 1)) (hI h (m + 2)) b 2456)) m 4 (hI h (m + 2) (2458 * b + 2456))) m 6 (hI h (m + 2) (2458 * b + 2457))) m 14 (-1)) m 1 0) m 11 0 = g
    have ok := vOK_un v2 (b := b) (by omega)
    obtain ⟨k1, k2, k3⟩ := v7 b (by omega)
    have okb := v2.2.1 b (by omega)
    have nx : ∀ c j, c ≠ m → c ≠ m + 1 → hI g c j = hI h c j := fun c j c1 c2 => by
      rw [← hg, hI_sI, if_neg (by omega), hI_sI, if_neg (by omega), hI_sI, if_neg (by omega), hI_sI, if_neg (by omega), hI_sI, if_neg (by omega), hI_sF_ne c2, hI_sI, if_neg (by omega)]
    have nm : ∀ j, j ≠ 1 → j ≠ 4 → j ≠ 6 → j ≠ 7 → j ≠ 11 → j ≠ 14 → hI g m j = hI h m j := fun j j1 j2 j3 j4 j5 j6 => by
      rw [← hg, hI_sI, if_neg (by omega), hI_sI, if_neg (by omega), hI_sI, if_neg (by omega), hI_sI, if_neg (by omega), hI_sI, if_neg (by omega), hI_sF_ne (by omega), hI_sI, if_neg (by omega)]
    have g11 : hI g m 11 = 0 := by rw [← hg, hI_sI, if_pos ⟨rfl, rfl⟩]
    have g14 : hI g m 14 = -1 := by rw [← hg, hI_sI, if_neg (by omega), hI_sI, if_neg (by omega), hI_sI, if_pos ⟨rfl, rfl⟩]
    have g6 : hI g m 6 = hI h (m + 2) (2458 * b + 2457) := by rw [← hg, hI_sI, if_neg (by omega), hI_sI, if_neg (by omega), hI_sI, if_neg (by omega), hI_sI, if_pos ⟨rfl, rfl⟩]
    have g4 : hI g m 4 = hI h (m + 2) (2458 * b + 2456) := by rw [← hg, hI_sI, if_neg (by omega), hI_sI, if_neg (by omega), hI_sI, if_neg (by omega), hI_sI, if_neg (by omega), hI_sI, if_pos ⟨rfl, rfl⟩]
    have g7 : hI g m 7 = nI b := by rw [← hg, hI_sI, if_neg (by omega), hI_sI, if_neg (by omega), hI_sI, if_neg (by omega), hI_sI, if_neg (by omega), hI_sI, if_neg (by omega), hI_sF_ne (by omega), hI_sI, if_pos ⟨rfl, rfl⟩]
    have g1 : ∀ j, hI g (m + 1) j = unF (hI h (m + 1)) (hI h (m + 2)) b 2456 j := fun j => by
      rw [← hg, hI_sI, if_neg (by omega), hI_sI, if_neg (by omega), hI_sI, if_neg (by omega), hI_sI, if_neg (by omega), hI_sI, if_neg (by omega), hI_sF_eq]
    have fr : Fr3 h g := by rw [← hg]; exact ⟨rfl, rfl, rfl, rfl⟩
    clear hg
    obtain ⟨m1, ⟨m2, m3⟩, ⟨m4, m5⟩, ⟨m6, m7⟩, ⟨m8, m9, ma, mb⟩, mc⟩ := v1
    have pr : ∀ k, k < (vHi V b).1 → mPr m g k = (vHi V b).2.2 k := fun k hk => by
      have := okb.1
      rw [← k3 k hk]
      refine tr_ag (fun j hj => ?_)
      show hI g (m + 1) (307 * k + j) = hI h (m + 2) (2458 * b + 307 * k + j)
      rw [g1]
      unfold unF
      rw [if_pos (by omega), show 2458 * b + (307 * k + j) = 2458 * b + 307 * k + j by omega]
    have fc : ∀ f k, gRec (hI g (m + 1)) (8 + f) k = gRec (hI h (m + 1)) (8 + f) k := fun f k => by
      show hI g (m + 1) (307 * (8 + f) + k) = hI h (m + 1) (307 * (8 + f) + k)
      rw [g1]
      unfold unF
      rw [if_neg (by omega)]
    refine ⟨fw, ⟨⟨m1.fr fr, ⟨m2, (nm 2 (by omega) (by omega) (by omega) (by omega) (by omega) (by omega)).trans m3⟩, ⟨m4, (nm 3 (by omega) (by omega) (by omega) (by omega) (by omega) (by omega)).trans m5⟩, ⟨okb.1, g4.trans k1⟩, ⟨m8, (nm 5 (by omega) (by omega) (by omega) (by omega) (by omega) (by omega)).trans m9, fun f hf => (fc f 0).trans (ma f hf), mb⟩, fun p hp => ?_⟩, ok, g6.trans k2⟩, fun k hk => pr k hk, fun f hf => ?_, ⟨g7, fun i hi => ?_⟩, ⟨(nm 10 (by omega) (by omega) (by omega) (by omega) (by omega) (by omega)).trans v8, v9, fun k hk => by rw [nx _ _ (by omega) (by omega)]; exact va k hk⟩, ⟨g11, (nm 12 (by omega) (by omega) (by omega) (by omega) (by omega) (by omega)).trans vc, (nm 13 (by omega) (by omega) (by omega) (by omega) (by omega) (by omega)).trans vd⟩, ⟨g14, (nm 15 (by omega) (by omega) (by omega) (by omega) (by omega) (by omega)).trans vf, (nm 16 (by omega) (by omega) (by omega) (by omega) (by omega) (by omega)).trans vg⟩, ⟨(nm 57 (by omega) (by omega) (by omega) (by omega) (by omega) (by omega)).trans vh, vi, fun j hj => by rw [nx _ _ (by omega) (by omega)]; exact vj j hj⟩, Or.inl rfl⟩
    · have hp' : p < (vHi V b).1 := hp
      obtain ⟨p1, p2, -⟩ := okb.2.2 p hp'
      have e0 : gRec (hI g (m + 1)) p 0 = mPr m g p 0 := gRec_tr (by omega)
      rw [pr p hp'] at e0
      exact ⟨wt ((vHi V b).2.2 p), by omega, e0.trans p2⟩
    · show mFc m g f = vFR V f
      rw [← v5 f hf]
      exact tr_ag (fun k hk => fc f k)
    · have hi' : i < b := hi
      show hpS (hI g (m + 2)) i (vHi V i)
      exact hpS_cg (v2.2.1 i (by omega)).1 (fun t ht => nx _ _ (by omega) (by omega)) (v7 i (by omega))
/-- the tape alone, and what is thrown, change -/
theorem MV.tape (v : MV m h V M) {T : aT} (fr : Fr3 h h') (nm : ∀ j, j ≠ 1 → j ≠ 10 → hI h' m j = hI h m j) (nx : ∀ c, c ≠ m → c ≠ m + 3 → hI h' c = hI h c) (t : hI h' m 10 = nI T.1 ∧ T.1 ≤ 500 ∧ ∀ k, k < T.1 → T.2 k < 256 ∧ hI h' (m + 3) k = nI (T.2 k)) : MV m h' V (T, M.2) := by
  obtain ⟨fw, ⟨v1, v2, v3⟩, v4, v5, ⟨v6, v7⟩, -, ⟨vb, vc, vd⟩, ⟨ve, vf, vg⟩, ⟨vh, vi, vj⟩, vk⟩ := v
  obtain ⟨m1, ⟨m2, m3⟩, ⟨m4, m5⟩, ⟨m6, m7⟩, ⟨m8, m9, ma, mb⟩, mc⟩ := v1
  have e1 : hI h' (m + 1) = hI h (m + 1) := nx _ (by omega) (by omega)
  have n := fun j (h1 : j ≠ 1) (h2 : j ≠ 10) => nm j h1 h2
  refine ⟨fw, ⟨⟨m1.fr fr, ⟨m2, (n 2 (by omega) (by omega)).trans m3⟩, ⟨m4, (n 3 (by omega) (by omega)).trans m5⟩, ⟨m6, (n 4 (by omega) (by omega)).trans m7⟩, ⟨m8, (n 5 (by omega) (by omega)).trans m9, by rw [e1]; exact ma, mb⟩, by rw [e1]; exact mc⟩, v2, (n 6 (by omega) (by omega)).trans v3⟩, fun k hk => ?_, fun f hf => ?_, ⟨(n 7 (by omega) (by omega)).trans v6, fun i hi => ?_⟩, t, ⟨(n 11 (by omega) (by omega)).trans vb, (n 12 (by omega) (by omega)).trans vc, (n 13 (by omega) (by omega)).trans vd⟩, ⟨(n 14 (by omega) (by omega)).trans ve, (n 15 (by omega) (by omega)).trans vf, (n 16 (by omega) (by omega)).trans vg⟩, ⟨(n 57 (by omega) (by omega)).trans vh, vi, by rw [nx _ (by omega) (by omega)]; exact vj⟩, vk⟩
  · unfold mPr
    rw [e1]
    exact v4 k hk
  · unfold mFc mPr
    rw [e1]
    exact v5 f hf
  · unfold kpT
    rw [nx _ (by omega) (by omega)]
    exact v7 i hi
theorem MV.feB (v : MV m h V M) {b : Nat} {c : Int32} (hb : b < 256) (hc : c = nI b) (hn : M.1.1 < 500) : MV m (tB m h M.1.1 c) V (tpB M.1 b, M.2) := by
  obtain ⟨fw, -, -, -, -, ⟨v8, v9, va⟩, -⟩ := id v
  refine v.tape ⟨rfl, rfl, rfl, rfl⟩ (fun j j1 j2 => ?_) (fun c c1 c2 => ?_) ⟨tB_10, by show M.1.1 + 1 ≤ 500; omega, fun k hk => ?_⟩
  · unfold tB
    rw [hI_sI, if_neg (by omega), hI_sI, if_neg (by omega)]
  · unfold tB
    rw [hI_sI_ne c1, hI_sI_ne c2]
  · have hk' : k < M.1.1 + 1 := hk
    show (if k = M.1.1 then b else M.1.2 k) < 256 ∧ hI (tB m h M.1.1 c) (m + 3) k = nI (if k = M.1.1 then b else M.1.2 k)
    have e1 : hI (tB m h M.1.1 c) (m + 3) k = if k = M.1.1 then c else hI h (m + 3) k := by
      unfold tB
      rw [hI_sI, if_neg (by omega), hI_sI]
      by_cases e : k = M.1.1
      · rw [if_pos ⟨rfl, e⟩, if_pos e]
      · rw [if_neg (fun q => e q.2), if_neg e]
    rw [e1]
    by_cases e : k = M.1.1
    · rw [if_pos e, if_pos e]; exact ⟨hb, hc⟩
    · rw [if_neg e, if_neg e]; exact va k (by omega)
theorem MV.feW (v : MV m h V M) {y : Int32} (hn : M.1.1 + 4 ≤ 500) : MV m (tW m h M.1.1 y) V (tpW M.1 y, M.2) := by
  have a := v.feB (c := byO y 24) (byN_lt (v := y) (i := 0)).1 (byN_lt (v := y) (i := 0)).2 (by omega)
  have b := a.feB (c := byO y 16) (byN_lt (v := y) (i := 1)).1 (byN_lt (v := y) (i := 1)).2 (by show M.1.1 + 1 < 500; omega)
  have c := b.feB (c := byO y 8) (byN_lt (v := y) (i := 2)).1 (byN_lt (v := y) (i := 2)).2 (by show M.1.1 + 1 + 1 < 500; omega)
  exact c.feB (c := byO y 0) (byN_lt (v := y) (i := 3)).1 (byN_lt (v := y) (i := 3)).2 (by show M.1.1 + 1 + 1 + 1 < 500; omega)
theorem b_m_feed (v : MV m h V M) (a b c d e : Int32) : Ev w 1 0 0 yX10_feed cX10_feed 6 (some .int) [.ref m, .int a, .int b, .int c, .int d, .int e] h (bQ m (qFed V M a b c d e)) := by
  obtain ⟨fw, ⟨v1, v2, v3⟩, v4, v5, v6, ⟨v8, v9, va⟩, ⟨s1, s2, s3⟩, -⟩ := id v
  refine Ev.to (e_m_feed v1.1 v9 v8 a b c d e) (fun r' h' hp => ?_)
  obtain ⟨rfl, rfl⟩ := hp
  have v1' : MV m (sI h m 1 0) V M := v.q (pQ_1 s1)
  by_cases l : M.1.1 + 20 ≤ 500
  · rw [if_pos l, if_pos l]
    have m1 := v1'.feW (y := a) (by omega)
    have m2 := m1.feW (y := b) (by show M.1.1 + 4 + 4 ≤ 500; omega)
    have m3 := m2.feW (y := c) (by show M.1.1 + 8 + 4 ≤ 500; omega)
    have m4 := m3.feW (y := d) (by show M.1.1 + 12 + 4 ≤ 500; omega)
    have m5 := m4.feW (y := e) (by show M.1.1 + 16 + 4 ≤ 500; omega)
    exact ⟨_, V, _, rfl, m5, rfl, Or.inl ⟨l, rfl, rfl⟩⟩
  · rw [if_neg l, if_neg l]
    exact ⟨_, V, _, rfl, v1', rfl, Or.inr ⟨l, rfl, rfl⟩⟩
theorem b_m_load (si : gSI w) (v : MV m h V M) (k : Int32) : Ev w 36 0 0 yX10_load cX10_load 4 (some .int) [.ref m, .int k] h (bQ m (qLod V M k)) := by
  obtain ⟨fw, ⟨v1, v2, v3⟩, v4, v5, ⟨v6, v7⟩, ⟨v8, v9, va⟩, ⟨vb, vc, vd⟩, ⟨ve, vf, vg⟩, ⟨vh, vi, vj⟩, vk⟩ := id v
  refine Ev.to (e_m_load si v1.1 v9 v8 (tx := M.1.2) (fun j hj => ⟨(va j hj).2, (va j hj).1⟩) k) (fun r' h' hp => ?_)
  rcases hp with ⟨n, hr, rfl⟩ | ⟨n, hn, rfl, r, hz, ⟨⟨l1, l2, l3, l4⟩, l10, l11⟩, hp⟩
  · exact ⟨_, _, _, hr, v.q ((mKp.rf m h).q 1), Or.inl ⟨n, rfl, rfl, rfl⟩⟩
  have fr : Fr3 h h' := ⟨congrArg (fun q => q.1) l1, congrArg (fun q => q.2.1) l1, congrArg (fun q => q.2.2.1) l1, congrArg (fun q => q.2.2.2) l1⟩
  obtain ⟨m1, ⟨m2, m3⟩, ⟨m4, m5⟩, ⟨m6, m7⟩, ⟨m8, m9, ma, mb⟩, mc⟩ := v1
  have z15 := l3 15 (by omega)
  have z16 := l3 16 (by omega)
  have z57 := l3 57 (by omega)
  rcases r with x | x
  · obtain ⟨hr, p11, p12, p13, pk, pr⟩ := hp
    have gr : ∀ k j, k < 11 → j < 307 → gRec (hI h' (m + 1)) k j = gRec (hI h (m + 1)) k j := fun k j hk hj => pr _ (by omega)
    refine ⟨_, V, ((0, M.1.2), (9, nI x.1, nI (plT M.1.2 n x.2)), M.2.2), hr, ⟨fw, ⟨⟨m1.fr fr, ⟨m2, (pk 2 (by omega) (by omega)).trans m3⟩, ⟨m4, (pk 3 (by omega) (by omega)).trans m5⟩, ⟨m6, (pk 4 (by omega) (by omega)).trans m7⟩, ⟨m8, (pk 5 (by omega) (by omega)).trans m9, fun f hf => (gr _ _ (by have : f < vNf V := hf; omega) (by omega)).trans (ma f hf), mb⟩, fun p hp => by obtain ⟨wr, w1, w2⟩ := mc p hp; exact ⟨wr, w1, (gr _ _ (by have : p < vNp V := hp; omega) (by omega)).trans w2⟩⟩, v2, (pk 6 (by omega) (by omega)).trans v3⟩, fun k hk => ?_, fun f hf => ?_, ⟨(pk 7 (by omega) (by omega)).trans v6, fun i hi => ?_⟩, ⟨l10, Nat.zero_le _, fun k hk => absurd hk (Nat.not_lt_zero _)⟩, ⟨p11, p12, p13⟩, ⟨(pk 14 (by omega) (by omega)).trans ve, z15.trans vf, z16.trans vg⟩, ⟨z57.trans vh, vi, by rw [l2 _ (by omega) (by omega)]; exact vj⟩, vk⟩, Or.inr ⟨n, hn, rfl, _, hz, rfl, rfl, rfl⟩⟩
    · rw [← v4 k hk]
      exact tr_ag (fun j hj => gr k j (by have : k < vNp V := hk; omega) hj)
    · rw [← v5 f hf]
      exact tr_ag (fun j hj => gr (8 + f) j (by have : f < vNf V := hf; omega) hj)
    · unfold kpT
      rw [l2 _ (by omega) (by omega)]
      exact v7 i hi
  · obtain ⟨hr, p11, p12, p13, ⟨q2, q3, q4, q5, q6, q7, q14⟩, pr, pf⟩ := hp
    obtain ⟨c, c1, c2, c3, c4⟩ := tok_c M.1.2 n
    have pk : pSk x.2 := by
      obtain ⟨r2, hr2, hk⟩ := pTx_k (tx := M.1.2) (n := n) (c := c) (fun j hj hne => by
        apply Classical.byContradiction
        intro q
        have : j = c - 1 := by omega
        rw [this] at hne
        exact hne c3) (by omega) 502 0 pSz (by omega) (by omega) pSz_k
      cases Option.some.inj (hz.symm.trans hr2)
      exact hk.2.2
    have ok := vLd_ok pk
    have nf : x.2.1.2.2.2 ≤ 2 := pk.1.2.2.2
    have np : x.2.1.2.2.1 ≤ 8 := pk.1.2.2.1
    refine ⟨_, vLd x.2, ((0, M.1.2), (0, 0, -1), (-1, M.2.2.1.2), M.2.2.2), hr, ⟨fun f => if f < x.2.1.2.2.2 then (x.2.2.2.2 f).1 else 0, ⟨⟨m1.fr fr, ⟨pk.1.1, q2⟩, ⟨pk.1.2.1, q3⟩, ⟨np, q4⟩, ⟨nf, q5, fun f hf => ?_, ?_⟩, fun p hp => ?_⟩, ok, ?_⟩, fun k hk => ?_, fun f hf => ?_, ⟨q7, fun i hi => absurd hi (Nat.not_lt_zero _)⟩, ⟨l10, Nat.zero_le _, fun k hk => absurd hk (Nat.not_lt_zero _)⟩, ⟨p11, p12, p13⟩, ⟨q14, z15.trans vf, z16.trans vg⟩, ⟨z57.trans vh, vi, by rw [l2 _ (by omega) (by omega)]; exact vj⟩, Or.inl rfl⟩, Or.inr ⟨n, hn, rfl, _, hz, rfl, rfl, rfl⟩⟩
    · have hf' : f < x.2.1.2.2.2 := hf
      show gRec (hI h' (m + 1)) (8 + f) 0 = nI (if f < x.2.1.2.2.2 then (x.2.2.2.2 f).1 else 0)
      rw [if_pos hf', pf f hf' 0 (by omega)]
      exact (pk.2.2.2.1 f hf).1
    · have s8 := pk.2.2.2.2
      show (if 0 < x.2.1.2.2.2 then (x.2.2.2.2 0).1 else 0) + (if 1 < x.2.1.2.2.2 then (x.2.2.2.2 1).1 else 0) ≤ 2
      rcases (show x.2.1.2.2.2 = 0 ∨ x.2.1.2.2.2 = 1 ∨ x.2.1.2.2.2 = 2 by omega) with e | e | e
      · rw [if_neg (by omega), if_neg (by omega)]; omega
      · rw [e] at s8 ⊢
        have : fsP x.2.2.2.2 1 = 0 + (x.2.2.2.2 0).1 := rfl
        rw [if_pos (by omega), if_neg (by omega)]
        omega
      · rw [e] at s8 ⊢
        have : fsP x.2.2.2.2 2 = 0 + (x.2.2.2.2 0).1 + (x.2.2.2.2 1).1 := rfl
        rw [if_pos (by omega), if_pos (by omega)]
        omega
    · have hp' : p < x.2.1.2.2.1 := hp
      obtain ⟨a5, okp⟩ := pk.2.2.1 p hp'
      exact ⟨(x.2.2.2.1 p).1, by omega, (pr p hp' 0 (by omega)).trans okp.1⟩
    · rw [q6]
      show (1 : Int32) <<< (nI x.2.1.2.2.2 &&& 31) - 1 = nI (2 ^ x.2.1.2.2.2 - 1)
      rcases (show x.2.1.2.2.2 = 0 ∨ x.2.1.2.2.2 = 1 ∨ x.2.1.2.2.2 = 2 by omega) with e | e | e <;> rw [e] <;> decide
    · exact tr_ag (pr k hk)
    · exact tr_ag (pf f hf)
end B3
