/-! lines in the reference -/
/-- between lines: names, programs, facts that are told so far, and token j in hand -/
def mLn (m : Nat) (h : HS) (tx : Nat → Nat) (n j : Nat) (S : pS) : Prop := mSh m h ∧ mTk m h tx n j ∧ rdN m h S.1.1 S.1.2.1 S.1.2.2.1 S.2.1 S.2.2.1 ∧ hI h m 32 = nI S.1.2.2.2 ∧ (∀ k, k < S.1.2.2.2 → Ag (gRec (hI h (m + 1)) (19 + k)) (S.2.2.2 k).2) ∧ pSk S
/-- what reading lines may change -/
def rdT (m : Nat) (h h' : HS) : Prop := h'.2.2 = h.2.2 ∧ (∀ b j, ¬ (b = m ∧ 18 ≤ j ∧ j ≤ 32 ∧ j ≠ 23 ∧ j ≠ 24) → ¬ (b = m + 1 ∧ 3377 ≤ j) → hI h' b j = hI h b j) ∧ ∀ b j, ¬ (b = m ∧ j = 27) → b ≠ m + 4 → hL h' b j = hL h b j
/-- the same, fault and place too -/
def rdU (m : Nat) (h h' : HS) : Prop := h'.2.2 = h.2.2 ∧ (∀ b j, ¬ (b = m ∧ 18 ≤ j ∧ j ≤ 32) → ¬ (b = m + 1 ∧ 3377 ≤ j) → hI h' b j = hI h b j) ∧ ∀ b j, ¬ (b = m ∧ j = 27) → b ≠ m + 4 → hL h' b j = hL h b j
theorem rdT.rf (m : Nat) (h : HS) : rdT m h h := ⟨rfl, fun _ _ _ _ => rfl, fun _ _ _ _ => rfl⟩
theorem rdT.tr {m : Nat} {h h1 h2 : HS} (a : rdT m h h1) (b : rdT m h1 h2) : rdT m h h2 := ⟨b.1.trans a.1, fun x j p q => (b.2.1 x j p q).trans (a.2.1 x j p q), fun x j p q => (b.2.2 x j p q).trans (a.2.2 x j p q)⟩
theorem rdU.tr {m : Nat} {h h1 h2 : HS} (a : rdU m h h1) (b : rdU m h1 h2) : rdU m h h2 := ⟨b.1.trans a.1, fun x j p q => (b.2.1 x j p q).trans (a.2.1 x j p q), fun x j p q => (b.2.2 x j p q).trans (a.2.2 x j p q)⟩
theorem rdT.u {m : Nat} {h h1 : HS} (a : rdT m h h1) : rdU m h h1 := ⟨a.1, fun x j p q => a.2.1 x j (fun r => p ⟨r.1, by omega⟩) q, a.2.2⟩
theorem rdF.t {m f : Nat} {h h1 : HS} (a : rdF m f h h1) (hf : 11 ≤ f) : rdT m h h1 := ⟨a.1, fun x j p q => a.2.1 x j (fun r => p ⟨r.1, by omega⟩) (fun r => q ⟨r.1, by have := r.2; omega⟩), fun x j p _ => a.2.2 x j p⟩
theorem rdG.u {m f : Nat} {h h1 : HS} (a : rdG m f h h1) (hf : 11 ≤ f) : rdU m h h1 := ⟨a.1, fun x j p q => a.2.1 x j (fun r => p ⟨r.1, by omega⟩) (fun r => q ⟨r.1, by have := r.2; omega⟩), fun x j p _ => a.2.2 x j p⟩
theorem nxF.t {m : Nat} {h h1 : HS} (a : nxF m h h1) : rdT m h h1 := (rdF.nx (f := 22) a).t (by omega)
theorem rdT.i {m k : Nat} {h : HS} {v : Int32} (h1 : 25 ≤ k) (h2 : k ≤ 32) : rdT m h (sI h m k v) := ⟨rfl, fun x j p _ => by rw [hI_sI, if_neg (fun r => p ⟨r.1, by omega⟩)], fun _ _ _ _ => rfl⟩
theorem rdU.i {m k : Nat} {h : HS} {v : Int32} (h1 : 18 ≤ k) (h2 : k ≤ 32) : rdU m h (sI h m k v) := ⟨rfl, fun x j p _ => by rw [hI_sI, if_neg (fun r => p ⟨r.1, by omega⟩)], fun _ _ _ _ => rfl⟩
theorem rdT.rc {m t : Nat} {h : HS} {R : Nat → Int32} (ht : 11 ≤ t) : rdT m h (hRc m h t R) := (rdF.rc (f := 11) ht).t (by omega)
theorem rdT.l {m k : Nat} {h : HS} {v : Int64} : rdT m h (sL h (m + 4) k v) := ⟨rfl, fun _ _ _ _ => rfl, fun x j p q => by rw [hL_sL, if_neg (fun r => q r.1)]⟩
/-- what a line gives -/
def rdL (m : Nat) (h : HS) (tx : Nat → Nat) (n : Nat) (r : pLz) (r' : Option Value) (h' : HS) : Prop := match r with
  | .inl x => rdU m h h' ∧ r' = some (.int 0) ∧ hI h' m 23 = nI x.1 ∧ hI h' m 24 = nI (plT tx n x.2)
  | .inr x => rdT m h h' ∧ r' = some (.int 1) ∧ mLn m h' tx n x.1 x.2
theorem mLn.nx {m : Nat} {h h1 : HS} {tx : Nat → Nat} {n j j1 : Nat} {S : pS} (L : mLn m h tx n j S) (a : rdF m 22 h h1) (T : mTk m h1 tx n j1) : mLn m h1 tx n j1 S := ⟨a.sh L.1, T, L.2.2.1.fr a (Nat.le_refl _), by rw [a.2.1 m 32 (by omega) (by omega)]; exact L.2.2.2.1, fun k hk => (a.rec (q := 19 + k) (by have := L.2.2.2.2.2.1.2.2.2; omega)).tr (L.2.2.2.2.1 k hk), L.2.2.2.2.2⟩
section M57
variable {w : gD} {m : Nat} {tx : Nat → Nat} {n c : Nat}
theorem rl_bad {h h1 : HS} {k j : Nat} (fr : rdT m h h1) : rdL m h tx n (.inl (k, j)) (some (.int 0)) (sI (sI h1 m 23 (nI k)) m 24 (nI (plT tx n j))) := by
  refine ⟨(fr.u.tr (rdU.i (by omega) (by omega))).tr (rdU.i (by omega) (by omega)), rfl, ?_, ?_⟩
  · rw [hI_sI, if_neg (by omega), hI_sI, if_pos ⟨rfl, rfl⟩]
  · rw [hI_sI, if_pos ⟨rfl, rfl⟩]
theorem e_t_weighed (si : gSI w) {h : HS} {j : Nat} (hm : mSh m h) (T : mTk m h tx n j) (x : Int32) (p : Prop) (hx : 0 < x ↔ p) : Ev w 7 0 0 yX10_readWeighed cX10_readWeighed 2 (some .boolean) [.ref m, .int x] h (fun r' h' => (¬ cdT tx n j = 59 ∧ r' = some (.int 0) ∧ h' = sI (sI h m 23 (nI (if cdT tx n j = 1 then 1 else 2))) m 24 (nI (plT tx n j))) ∨ (cdT tx n j = 59 ∧ p ∧ r' = some (.int 0) ∧ h' = sI (sI h m 23 (nI 5)) m 24 (nI (plT tx n j))) ∨ (cdT tx n j = 59 ∧ ¬ p ∧ r' = some (.int 1) ∧ nxF m h h' ∧ mTk m h' tx n (j + 1))) := by
  refine g_start (by decide) (Nat.le_of_ble_eq_true rfl) [(0, _), (1, _)] rfl (fun z hfl C => ?_)
  refine g_aload_n C (gd DX10_readWeighed_0 0 rfl) 0 rfl rfl ?_
  refine g_bipush (v := 59) C (gd DX10_readWeighed_0 1 rfl) (by decide) ?_
  refine g_cV1 (ci := 10) C [_] mX10_isSign lm_TestJudgeModel_240 (by exact hm.1) rfl rfl (e_t_sign hm T (k := 59) (by decide)) hfl (by first | decide | omega) (by decide) (by omega) (by omega) rfl rfl (Nat.le_of_ble_eq_true rfl) (gd DX10_readWeighed_0 2 rfl) ?_
  by_cases e : cdT tx n j = 59
  rotate_left
  · rw [b1_f e]
    refine g_if_ne C 15 (gd DX10_readWeighed_0 3 rfl) (by decide) (fun c6 => ?_) (fun c6 => ?_)
    · exact absurd rfl c6
    · refine g_aload_n C (gd DX10_readWeighed_0 4 rfl) 0 rfl rfl ?_
      refine g_iconst (v := 2) C (gd DX10_readWeighed_0 5 rfl) (by decide) ?_
      refine g_cV1 (ci := 10) C [_] mX10_bad lm_TestJudgeModel_219 (by exact hm.1) rfl rfl (e_t_bad hm T 2) hfl (by first | decide | omega) (by decide) (by omega) (by omega) rfl rfl (Nat.le_of_ble_eq_true rfl) (gd DX10_readWeighed_0 6 rfl) ?_
      exact g_zret C (by decide) (by omega) (by omega) (Or.inl ⟨e, rfl, rfl⟩) (gd DX10_readWeighed_0 7 rfl)
  rw [b1_t e]
  refine g_if_ne C 15 (gd DX10_readWeighed_0 3 rfl) (by decide) (fun c6 => ?_) (fun c6 => ?_)
  rotate_left
  · exact absurd c6 (by decide)
  refine g_iload_n C (gd DX10_readWeighed_0 8 rfl) 1 rfl rfl ?_
  refine g_if_le C 27 (gd DX10_readWeighed_0 9 rfl) (by decide) (fun c16 => ?_) (fun c16 => ?_)
  · refine g_aload_n C (gd DX10_readWeighed_0 14 rfl) 0 rfl rfl ?_
    refine g_callV (ci := 10) C [] mX10_goes lm_TestJudgeModel_215 (by exact hm.1) rfl rfl (e_t_goes si hm T) hfl (by first | decide | omega) (by decide) (by omega) (by omega) rfl rfl (Nat.le_of_ble_eq_true rfl) (gd DX10_readWeighed_0 15 rfl) (fun r h2 hp => ?_)
    obtain ⟨rfl, a1, a2⟩ := hp
    exact g_zret C (by decide) (by omega) (by omega) (Or.inr (Or.inr ⟨e, fun q => Int32.not_lt.mpr c16 (hx.mpr q), rfl, a1, a2⟩)) (gd DX10_readWeighed_0 16 rfl)
  · have hxp := hx.mp (Int32.not_le.mp c16)
    refine g_aload_n C (gd DX10_readWeighed_0 10 rfl) 0 rfl rfl ?_
    refine g_iconst (v := 5) C (gd DX10_readWeighed_0 11 rfl) (by decide) ?_
    refine g_cV1 (ci := 10) C [_] mX10_bad lm_TestJudgeModel_219 (by exact hm.1) rfl rfl (e_t_bad hm T 5) hfl (by first | decide | omega) (by decide) (by omega) (by omega) rfl rfl (Nat.le_of_ble_eq_true rfl) (gd DX10_readWeighed_0 12 rfl) ?_
    rw [show (if cdT tx n j = 1 then 1 else 5) = 5 from if_neg (by omega)]
    refine g_goto (tgt := 31) C (gd DX10_readWeighed_0 13 rfl) (by decide) ?_
    exact g_zret C (by decide) (by omega) (by omega) (Or.inr (Or.inl ⟨e, hxp, rfl, rfl⟩)) (gd DX10_readWeighed_0 16 rfl)
theorem mLn.test {h : HS} {j : Nat} {S : pS} (L : mLn m h tx n j S) (hnp : S.1.2.2.1 = 0) (hnf : S.1.2.2.2 = 0) (h3 : S.1.1 < 3) {wv : Nat} (hw : wv < 2 ^ 30) : mLn m (sI (sL h (m + 4) S.1.1 (lN wv)) m 29 (nI (S.1.1 + 1))) tx n j ((S.1.1 + 1, S.1.2), updA S.2.1 (0 + S.1.1) wv, S.2.2) := by
  obtain ⟨hm1, T1, N1, n32, nF, ⟨s1, s2, s3, s4⟩, s5, s6, s7, s8⟩ := L
  obtain ⟨⟨r1, r2, r3⟩, ⟨r4, r5, r6⟩, r7, ⟨r8, r9, r10⟩, r11⟩ := N1
  have up : ∀ k, updA S.2.1 (0 + S.1.1) wv k < 2 ^ 30 := fun k => by
    unfold updA; split
    · exact hw
    · exact s5 k
  refine ⟨hm1, T1.fr (fun k h1 h2 => by rw [hI_sI, if_neg (by omega), hI_sL]) (by rw [hI_sI_ne (by omega), hI_sL]) (by show hL (sL h (m + 4) S.1.1 (lN wv)) m 27 = _; rw [hL_sL, if_neg (by omega)]), ⟨⟨by show S.1.1 + 1 ≤ 3; omega, r2, r3⟩, ⟨by rw [hI_sI, if_pos ⟨rfl, rfl⟩], by rw [hI_sI, if_neg (by omega)]; exact r5, by rw [hI_sI, if_neg (by omega)]; exact r6⟩, up, ⟨fun k hk => ?_, fun k hk => ?_, fun k hk => absurd (show k < S.1.2.2.1 from hk) (by omega)⟩, fun k hk => absurd (show k < S.1.2.2.1 from hk) (by omega)⟩, by rw [hI_sI, if_neg (by omega)]; exact n32, fun k hk => absurd (show k < S.1.2.2.2 from hk) (by omega), ⟨by show S.1.1 + 1 ≤ 3; omega, s2, s3, s4⟩, up, fun k hk => absurd (show k < S.1.2.2.1 from hk) (by omega), fun k hk => absurd (show k < S.1.2.2.2 from hk) (by omega), s8⟩
  · have hk' : k < S.1.1 + 1 := hk
    show hL (sL h (m + 4) S.1.1 (lN wv)) (m + 4) (0 + k) = lN (updA S.2.1 (0 + S.1.1) wv (0 + k))
    rw [hL_sL, updA]
    by_cases e : k = S.1.1
    · rw [if_pos (by omega), if_pos (by omega)]
    · rw [if_neg (by omega), if_neg (by omega)]; exact r8 k (by omega)
  · show hL (sL h (m + 4) S.1.1 (lN wv)) (m + 4) (3 + k) = lN (updA S.2.1 (0 + S.1.1) wv (3 + k))
    rw [hL_sL, updA, if_neg (by omega), if_neg (by omega)]; exact r9 k hk
theorem mLn.act {h : HS} {j : Nat} {S : pS} (L : mLn m h tx n j S) (hnp : S.1.2.2.1 = 0) (hnf : S.1.2.2.2 = 0) (h3 : S.1.2.1 < 3) {wv : Nat} (hw : wv < 2 ^ 30) : mLn m (sI (sL h (m + 4) (3 + S.1.2.1) (lN wv)) m 30 (nI (S.1.2.1 + 1))) tx n j ((S.1.1, S.1.2.1 + 1, S.1.2.2), updA S.2.1 (3 + S.1.2.1) wv, S.2.2) := by
  obtain ⟨hm1, T1, N1, n32, nF, ⟨s1, s2, s3, s4⟩, s5, s6, s7, s8⟩ := L
  obtain ⟨⟨r1, r2, r3⟩, ⟨r4, r5, r6⟩, r7, ⟨r8, r9, r10⟩, r11⟩ := N1
  have up : ∀ k, updA S.2.1 (3 + S.1.2.1) wv k < 2 ^ 30 := fun k => by
    unfold updA; split
    · exact hw
    · exact s5 k
  refine ⟨hm1, T1.fr (fun k h1 h2 => by rw [hI_sI, if_neg (by omega), hI_sL]) (by rw [hI_sI_ne (by omega), hI_sL]) (by show hL (sL h (m + 4) (3 + S.1.2.1) (lN wv)) m 27 = _; rw [hL_sL, if_neg (by omega)]), ⟨⟨r1, by show S.1.2.1 + 1 ≤ 3; omega, r3⟩, ⟨by rw [hI_sI, if_neg (by omega)]; exact r4, by rw [hI_sI, if_pos ⟨rfl, rfl⟩], by rw [hI_sI, if_neg (by omega)]; exact r6⟩, up, ⟨fun k hk => ?_, fun k hk => ?_, fun k hk => absurd (show k < S.1.2.2.1 from hk) (by omega)⟩, fun k hk => absurd (show k < S.1.2.2.1 from hk) (by omega)⟩, by rw [hI_sI, if_neg (by omega)]; exact n32, fun k hk => absurd (show k < S.1.2.2.2 from hk) (by omega), ⟨s1, by show S.1.2.1 + 1 ≤ 3; omega, s3, s4⟩, up, fun k hk => absurd (show k < S.1.2.2.1 from hk) (by omega), fun k hk => absurd (show k < S.1.2.2.2 from hk) (by omega), s8⟩
  · have hk' : k < S.1.1 := hk
    show hL (sL h (m + 4) (3 + S.1.2.1) (lN wv)) (m + 4) (0 + k) = lN (updA S.2.1 (3 + S.1.2.1) wv (0 + k))
    rw [hL_sL, updA, if_neg (by omega), if_neg (by omega)]; exact r8 k hk
  · have hk' : k < S.1.2.1 + 1 := hk
    show hL (sL h (m + 4) (3 + S.1.2.1) (lN wv)) (m + 4) (3 + k) = lN (updA S.2.1 (3 + S.1.2.1) wv (3 + k))
    rw [hL_sL, updA]
    by_cases e : k = S.1.2.1
    · rw [if_pos (by omega), if_pos (by omega)]
    · rw [if_neg (by omega), if_neg (by omega)]; exact r9 k (by omega)
theorem rl_names (si : gSI w) (hc : ∀ j, j < c → cdT tx n j ≠ 0 → j + 1 < c) {h : HS} {j : Nat} {S : pS} {r : pLz} (b : Bool) (L : mLn m h tx n j S) (hnp : S.1.2.2.1 = 0) (hnf : S.1.2.2.2 = 0) (hz : (if cdT tx n (j + 1) ≠ 2 then some (pBl (cdT tx n) 2 (j + 1)) else pNm (cdT tx n) (wdT tx n) b 5000 (j + 1) S) = some r) : Ev w 8 0 0 yX10_readNames cX10_readNames 2 (some .boolean) [.ref m, .int (if b = true then 1 else 0)] h (rdL m h tx n r) := by
  have hm := L.1
  refine g_start (by decide) (Nat.le_of_ble_eq_true rfl) [(0, _), (1, _)] rfl (fun z hfl C => ?_)
  have loop : ∀ F h1 j1 S1, rdT m h h1 → mLn m h1 tx n j1 S1 → S1.1.2.2.1 = 0 → S1.1.2.2.2 = 0 → pNm (cdT tx n) (wdT tx n) b F j1 S1 = some r → GW z w 2 (gQ z w 0 0 (fun r' h'' => rdL m h tx n r r' h'')) 0 0 22 [(0, .ref m), (1, .int (if b = true then 1 else 0))] [] h1 := by
    intro F
    induction F with
    | zero => intro h1 j1 S1 _ _ _ _ e; rw [pNm] at e; cases e
    | succ F ih =>
      intro h1 j1 S1 fr L1 p1 p2 hz1
      obtain ⟨hm1, T1, N1, n32, nF, sk⟩ := id L1
      rw [pNm] at hz1
      refine g_aload_n C (gd DX10_readNames_0 12 rfl) 0 rfl rfl ?_
      refine g_cV1 (ci := 10) C [] mX10_isName lm_TestJudgeModel_249 (by exact hm1.1) rfl rfl (e_t_name hm1 T1) hfl (by first | decide | omega) (by decide) (by omega) (by omega) rfl rfl (Nat.le_of_ble_eq_true rfl) (gd DX10_readNames_0 13 rfl) ?_
      by_cases e2 : cdT tx n j1 = 2
      rotate_left
      · rw [b1_f e2]
        rw [if_neg e2] at hz1
        refine g_if_eq C 131 (gd DX10_readNames_0 14 rfl) (by decide) (fun c26 => ?_) (fun c26 => ?_)
        rotate_left
        · exact absurd rfl c26
        refine g_aload_n C (gd DX10_readNames_1 11 rfl) 0 rfl rfl ?_
        refine g_aload_n C (gd DX10_readNames_1 12 rfl) 0 rfl rfl ?_
        refine g_bipush (v := 59) C (gd DX10_readNames_1 13 rfl) (by decide) ?_
        refine g_cV1 (ci := 10) C [_] mX10_isSign lm_TestJudgeModel_240 (by exact hm1.1) rfl rfl (e_t_sign hm1 T1 (k := 59) (by decide)) hfl (by first | decide | omega) (by decide) (by omega) (by omega) rfl rfl (Nat.le_of_ble_eq_true rfl) (gd DX10_readNames_1 14 rfl) ?_
        refine g_callV (ci := 10) C [_] mX10_needs lm_TestJudgeModel_288 (by exact hm1.1) rfl rfl (e_t_needs si hm1 T1 (cdT tx n j1 = 59)) hfl (by first | decide | omega) (by decide) (by omega) (by omega) rfl rfl (Nat.le_of_ble_eq_true rfl) (gd DX10_readNames_1 15 rfl) (fun r h3 hp => ?_)
        rcases hp with ⟨ec, rfl, b1', T3⟩ | ⟨ec, rfl, rfl⟩
        · rw [if_pos ec] at hz1
          cases Option.some.inj hz1
          exact g_zret C (by decide) (by omega) (by omega) ⟨fr.tr b1'.t, rfl, L1.nx (rdF.nx b1') T3⟩ (gd DX10_readNames_1 16 rfl)
        · rw [if_neg ec] at hz1
          cases Option.some.inj hz1
          exact g_zret C (by decide) (by omega) (by omega) (rl_bad fr) (gd DX10_readNames_1 16 rfl)
      rw [b1_t e2]
      rw [if_pos e2] at hz1
      obtain ⟨hw, hwv⟩ := T1.2.2.2.w2 e2
      refine g_if_eq C 131 (gd DX10_readNames_0 14 rfl) (by decide) (fun c26 => ?_) (fun c26 => ?_)
      · exact absurd c26 (by decide)
      refine g_aload_n C (gd DX10_readNames_0 15 rfl) 0 rfl rfl ?_
      refine g_cV1 (ci := 10) C [] mX10_isTaken lm_TestJudgeModel_313 (by exact hm1.1) rfl rfl (e_t_isTaken hm1 N1 hw hwv) hfl (by first | decide | omega) (by decide) (by omega) (by omega) rfl rfl (Nat.le_of_ble_eq_true rfl) (gd DX10_readNames_0 16 rfl) ?_
      by_cases et : pTk S1.1.1 S1.1.2.1 S1.1.2.2.1 S1.2.1 (wdT tx n j1)
      · rw [b1_t et]
        rw [if_pos et] at hz1
        cases Option.some.inj hz1
        refine g_if_eq C 42 (gd DX10_readNames_0 17 rfl) (by decide) (fun c33 => ?_) (fun c33 => ?_)
        · exact absurd c33 (by decide)
        · refine g_aload_n C (gd DX10_readNames_0 18 rfl) 0 rfl rfl ?_
          refine g_iconst (v := 3) C (gd DX10_readNames_0 19 rfl) (by decide) ?_
          refine g_cV1 (ci := 10) C [_] mX10_bad lm_TestJudgeModel_219 (by exact hm1.1) rfl rfl (e_t_bad hm1 T1 3) hfl (by first | decide | omega) (by decide) (by omega) (by omega) rfl rfl (Nat.le_of_ble_eq_true rfl) (gd DX10_readNames_0 20 rfl) ?_
          exact g_zret C (by decide) (by omega) (by omega) (rl_bad fr) (gd DX10_readNames_0 21 rfl)
      rw [b1_f et]
      rw [if_neg et] at hz1
      refine g_if_eq C 42 (gd DX10_readNames_0 17 rfl) (by decide) (fun c33 => ?_) (fun c33 => ?_)
      rotate_left
      · exact absurd rfl c33
      -- how many there are
      have k57 : GW z w 2 (gQ z w 0 0 (fun r' h'' => rdL m h tx n r r' h'')) 0 0 57 [(0, .ref m), (1, .int (if b = true then 1 else 0))] [.int (nI (if b = true then S1.1.1 else S1.1.2.1))] h1 := by
        have hb3 : (if b = true then S1.1.1 else S1.1.2.1) ≤ 3 := by cases b with | true => exact N1.1.1 | false => exact N1.1.2.1
        by_cases e3 : (if b = true then S1.1.1 else S1.1.2.1) = 3
        · rw [e3]
          rw [if_pos e3] at hz1
          cases Option.some.inj hz1
          refine g_iconst (v := 3) C (gd DX10_readNames_0 29 rfl) (by decide) ?_
          refine g_icmp_ne C 67 (gd DX10_readNames_0 30 rfl) (by decide) (fun c58 => ?_) (fun c58 => ?_)
          · exact absurd rfl c58
          · refine g_aload_n C (gd DX10_readNames_0 31 rfl) 0 rfl rfl ?_
            refine g_iconst (v := 4) C (gd DX10_readNames_0 32 rfl) (by decide) ?_
            refine g_cV1 (ci := 10) C [_] mX10_bad lm_TestJudgeModel_219 (by exact hm1.1) rfl rfl (e_t_bad hm1 T1 4) hfl (by first | decide | omega) (by decide) (by omega) (by omega) rfl rfl (Nat.le_of_ble_eq_true rfl) (gd DX10_readNames_0 33 rfl) ?_
            exact g_zret C (by decide) (by omega) (by omega) (rl_bad fr) (gd DX10_readNames_0 34 rfl)
        · rw [if_neg e3] at hz1
          have tail : ∀ g S2, rdT m h1 g → mLn m g tx n j1 S2 → S2.1.2.2.1 = 0 → S2.1.2.2.2 = 0 → pNm (cdT tx n) (wdT tx n) b F (j1 + 1) S2 = some r → GW z w 2 (gQ z w 0 0 (fun r' h'' => rdL m h tx n r r' h'')) 0 0 122 [(0, .ref m), (1, .int (if b = true then 1 else 0))] [] g := by
            intro g S2 frg Lg q1 q2 hz2
            have hmg := Lg.1
            refine g_aload_n C (gd DX10_readNames_1 6 rfl) 0 rfl rfl ?_
            refine g_callV (ci := 10) C [] mX10_goes lm_TestJudgeModel_215 (by exact hmg.1) rfl rfl (e_t_goes si hmg Lg.2.1) hfl (by first | decide | omega) (by decide) (by omega) (by omega) rfl rfl (Nat.le_of_ble_eq_true rfl) (gd DX10_readNames_1 7 rfl) (fun r h3 hp => ?_)
            obtain ⟨rfl, a1, a2⟩ := hp
            show GW z w 2 _ 0 0 _ _ [.int 1] _
            refine g_if_ne C 22 (gd DX10_readNames_1 8 rfl) (by decide) (fun c126 => ?_) (fun c126 => ?_)
            · exact ih h3 (j1 + 1) S2 ((fr.tr frg).tr a1.t) (Lg.nx (rdF.nx a1) a2) q1 q2 hz2
            · exact absurd c126 (by decide)
          refine g_iconst (v := 3) C (gd DX10_readNames_0 29 rfl) (by decide) ?_
          refine g_icmp_ne C 67 (gd DX10_readNames_0 30 rfl) (by decide) (fun c58 => ?_) (fun c58 => ?_)
          rotate_left
          · exact absurd ((nI_eq (b := 3) (by omega) (by omega)).mp c58) e3
          obtain ⟨⟨r1, r2, r3⟩, ⟨r4, r5, r6⟩, r7, ⟨r8, r9, r10⟩, r11⟩ := N1
          cases b with
          | true =>
            rw [if_pos rfl] at hz1 hb3 e3
            show GW z w 2 _ 0 0 _ [(0, .ref m), (1, .int 1)] _ _
            refine g_iload_n C (gd DX10_readNames_0 35 rfl) 1 rfl rfl ?_
            refine g_if_eq C 97 (gd DX10_readNames_0 36 rfl) (by decide) (fun c68 => ?_) (fun c68 => ?_)
            · exact absurd c68 (by decide)
            · refine g_aload_n C (gd DX10_readNames_0 37 rfl) 0 rfl rfl ?_
              refine g_getr (ci := 10) (k := 28) C rfl (by decide) rfl lf_TestJudgeModel_29 hm1.1 (hm1.2 28 4 13 14 rfl).1 (gd DX10_readNames_0 38 rfl) ?_
              refine g_aload_n C (gd DX10_readNames_0 39 rfl) 0 rfl rfl ?_
              refine g_geti (ci := 10) (k := 29) C rfl (by decide) rfl lf_TestJudgeModel_222 hm1.1 (gd DX10_readNames_0 40 rfl) ?_
              rw [r4]
              refine g_aload_n C (gd DX10_readNames_0 41 rfl) 0 rfl rfl ?_
              refine g_getl (ci := 10) (k := 27) C rfl (by decide) rfl lf_TestJudgeModel_180 hm1.1 (gd DX10_readNames_0 42 rfl) ?_
              rw [hw]
              refine g_lsj (j := S1.1.1) C (hm1.2 28 4 13 14 rfl).2.1 (hm1.2 28 4 13 14 rfl).2.2 (by first | decide | omega) rfl (by omega) (gd DX10_readNames_0 43 rfl) ?_
              refine g_aload_n C (gd DX10_readNames_0 44 rfl) 0 rfl rfl ?_
              refine g_dup C (gd DX10_readNames_0 45 rfl) rfl ?_
              refine g_geti (ci := 10) (k := 29) C rfl (by decide) rfl lf_TestJudgeModel_222 hm1.1 (gd DX10_readNames_0 46 rfl) ?_
              rw [show hI (sL h1 (m + 4) S1.1.1 (lN (wdT tx n j1))) m 29 = _ from r4]
              refine g_iconst (v := 1) C (gd DX10_readNames_0 47 rfl) (by decide) ?_
              refine g_iadd C (gd DX10_readNames_0 48 rfl) ?_
              rw [show nI S1.1.1 + 1 = nI (S1.1.1 + 1) from nx_add (b := 1) rfl rfl]
              refine g_puti (ci := 10) (k := 29) C rfl (by decide) rfl lf_TestJudgeModel_222 hm1.1 (Or.inl rfl) rfl (gd DX10_readNames_0 49 rfl) ?_
              refine g_goto (tgt := 122) C (gd DX10_readNames_0 50 rfl) (by decide) ?_
              exact tail _ _ (rdT.l.tr (rdT.i (by omega) (by omega))) (L1.test p1 p2 (by omega) hwv) p1 p2 hz1
          | false =>
            rw [if_neg (by decide)] at hz1 hb3 e3
            show GW z w 2 _ 0 0 _ [(0, .ref m), (1, .int 0)] _ _
            refine g_iload_n C (gd DX10_readNames_0 35 rfl) 1 rfl rfl ?_
            refine g_if_eq C 97 (gd DX10_readNames_0 36 rfl) (by decide) (fun c68 => ?_) (fun c68 => ?_)
            · refine g_aload_n C (gd DX10_readNames_0 51 rfl) 0 rfl rfl ?_
              refine g_getr (ci := 10) (k := 28) C rfl (by decide) rfl lf_TestJudgeModel_29 hm1.1 (hm1.2 28 4 13 14 rfl).1 (gd DX10_readNames_0 52 rfl) ?_
              refine g_iconst (v := 3) C (gd DX10_readNames_0 53 rfl) (by decide) ?_
              refine g_aload_n C (gd DX10_readNames_0 54 rfl) 0 rfl rfl ?_
              refine g_geti (ci := 10) (k := 30) C rfl (by decide) rfl lf_TestJudgeModel_228 hm1.1 (gd DX10_readNames_0 55 rfl) ?_
              rw [r5]
              refine g_iadd C (gd DX10_readNames_0 56 rfl) ?_
              rw [show (3 : Int32) + nI S1.1.2.1 = nI (3 + S1.1.2.1) from nx_add (a := 3) rfl rfl]
              refine g_aload_n C (gd DX10_readNames_0 57 rfl) 0 rfl rfl ?_
              refine g_getl (ci := 10) (k := 27) C rfl (by decide) rfl lf_TestJudgeModel_180 hm1.1 (gd DX10_readNames_0 58 rfl) ?_
              rw [hw]
              refine g_lsj (j := (3 + S1.1.2.1)) C (hm1.2 28 4 13 14 rfl).2.1 (hm1.2 28 4 13 14 rfl).2.2 (by first | decide | omega) rfl (by omega) (gd DX10_readNames_0 59 rfl) ?_
              refine g_aload_n C (gd DX10_readNames_1 0 rfl) 0 rfl rfl ?_
              refine g_dup C (gd DX10_readNames_1 1 rfl) rfl ?_
              refine g_geti (ci := 10) (k := 30) C rfl (by decide) rfl lf_TestJudgeModel_228 hm1.1 (gd DX10_readNames_1 2 rfl) ?_
              rw [show hI (sL h1 (m + 4) (3 + S1.1.2.1) (lN (wdT tx n j1))) m 30 = _ from r5]
              refine g_iconst (v := 1) C (gd DX10_readNames_1 3 rfl) (by decide) ?_
              refine g_iadd C (gd DX10_readNames_1 4 rfl) ?_
              rw [show nI S1.1.2.1 + 1 = nI (S1.1.2.1 + 1) from nx_add (b := 1) rfl rfl]
              refine g_puti (ci := 10) (k := 30) C rfl (by decide) rfl lf_TestJudgeModel_228 hm1.1 (Or.inl rfl) rfl (gd DX10_readNames_1 5 rfl) ?_
              exact tail _ _ (rdT.l.tr (rdT.i (by omega) (by omega))) (L1.act p1 p2 (by omega) hwv) p1 p2 hz1
            · exact absurd rfl c68
      refine g_iload_n C (gd DX10_readNames_0 22 rfl) 1 rfl rfl ?_
      refine g_if_eq C 53 (gd DX10_readNames_0 23 rfl) (by decide) (fun c43 => ?_) (fun c43 => ?_)
      · cases b with
        | true => exact absurd c43 (by decide)
        | false =>
          refine g_aload_n C (gd DX10_readNames_0 27 rfl) 0 rfl rfl ?_
          refine g_geti (ci := 10) (k := 30) C rfl (by decide) rfl lf_TestJudgeModel_228 hm1.1 (gd DX10_readNames_0 28 rfl) ?_
          rw [N1.2.1.2.1]
          exact k57
      · cases b with
        | true =>
          refine g_aload_n C (gd DX10_readNames_0 24 rfl) 0 rfl rfl ?_
          refine g_geti (ci := 10) (k := 29) C rfl (by decide) rfl lf_TestJudgeModel_222 hm1.1 (gd DX10_readNames_0 25 rfl) ?_
          rw [N1.2.1.1]
          refine g_goto (tgt := 57) C (gd DX10_readNames_0 26 rfl) (by decide) ?_
          exact k57
        | false => exact absurd rfl c43
  refine g_aload_n C (gd DX10_readNames_0 0 rfl) 0 rfl rfl ?_
  refine g_callV (ci := 10) C [] mX10_goes lm_TestJudgeModel_215 (by exact hm.1) rfl rfl (e_t_goes si hm L.2.1) hfl (by first | decide | omega) (by decide) (by omega) (by omega) rfl rfl (Nat.le_of_ble_eq_true rfl) (gd DX10_readNames_0 1 rfl) (fun r h2 hp => ?_)
  obtain ⟨rfl, a1, a2⟩ := hp
  have L2 := L.nx (rdF.nx a1) a2
  have hm2 := L2.1
  show GW z w 2 _ 0 0 _ _ [.int 1] _
  refine g_if_ne C 9 (gd DX10_readNames_0 2 rfl) (by decide) (fun c4 => ?_) (fun c4 => ?_)
  rotate_left
  · exact absurd c4 (by decide)
  refine g_aload_n C (gd DX10_readNames_0 5 rfl) 0 rfl rfl ?_
  refine g_cV1 (ci := 10) C [] mX10_isName lm_TestJudgeModel_249 (by exact hm2.1) rfl rfl (e_t_name hm2 a2) hfl (by first | decide | omega) (by decide) (by omega) (by omega) rfl rfl (Nat.le_of_ble_eq_true rfl) (gd DX10_readNames_0 6 rfl) ?_
  by_cases e2 : cdT tx n (j + 1) = 2
  · rw [b1_t e2]
    rw [if_neg (fun q => q e2)] at hz
    refine g_if_ne C 22 (gd DX10_readNames_0 7 rfl) (by decide) (fun c13 => ?_) (fun c13 => ?_)
    · exact loop 5000 _ (j + 1) S a1.t L2 hnp hnf hz
    · exact absurd c13 (by decide)
  · rw [b1_f e2]
    rw [if_pos e2] at hz
    cases Option.some.inj hz
    refine g_if_ne C 22 (gd DX10_readNames_0 7 rfl) (by decide) (fun c13 => ?_) (fun c13 => ?_)
    · exact absurd rfl c13
    · refine g_aload_n C (gd DX10_readNames_0 8 rfl) 0 rfl rfl ?_
      refine g_iconst (v := 2) C (gd DX10_readNames_0 9 rfl) (by decide) ?_
      refine g_cV1 (ci := 10) C [_] mX10_bad lm_TestJudgeModel_219 (by exact hm2.1) rfl rfl (e_t_bad hm2 a2 2) hfl (by first | decide | omega) (by decide) (by omega) (by omega) rfl rfl (Nat.le_of_ble_eq_true rfl) (gd DX10_readNames_0 10 rfl) ?_
      exact g_zret C (by decide) (by omega) (by omega) (rl_bad a1.t) (gd DX10_readNames_0 11 rfl)
end M57
