/-! reading in the reference: bases, ones, rows, sums -/
section PZ
variable {E : pE} {F o j : Nat} {acc : pR}
theorem pz_48 (e : E.1 j = 48) : pz E (F + 1) 0 o j acc = some (.inr (j + 1, (0, rPlain 0))) := by
  rw [pz, if_pos rfl, if_pos e]
theorem pz_49 (e : E.1 j = 49) : pz E (F + 1) 0 o j acc = some (.inr (j + 1, (0, rPlain E.2.2.2))) := by
  rw [pz, if_pos rfl, if_neg (by omega), if_pos e]
theorem pz_nm (e : E.1 j = 2) : pz E (F + 1) 0 o j acc = (match E.2.2.1 (E.2.1 j) with | none => some (pBad E 3 j) | some a => some (.inr (j + 1, a))) := by
  rw [pz, if_pos rfl, if_neg (by omega), if_neg (by omega), if_pos e]
  cases E.2.2.1 (E.2.1 j) <;> rfl
theorem pz_no (e : ¬ pBeg (E.1 j)) : pz E (F + 1) 0 o j acc = some (pBad E 2 j) := by
  rw [pz, if_pos rfl, if_neg (fun q => e (Or.inl q)), if_neg (fun q => e (Or.inr (Or.inl q))), if_neg (fun q => e (Or.inr (Or.inr (Or.inl q)))), if_pos (fun q => e (Or.inr (Or.inr (Or.inr q))))]
theorem pz_o4 (e : pOpn (E.1 j)) (ho : o = 4) : pz E (F + 1) 0 o j acc = some (pBad E 4 j) := by
  rw [pz, if_pos rfl, if_neg (by rcases e with e | e | e | e <;> omega), if_neg (by rcases e with e | e | e | e <;> omega), if_neg (by rcases e with e | e | e | e <;> omega), if_neg (fun q => q e), if_pos ho]
theorem pz_33 (e : E.1 j = 33) (ho : ¬ o = 4) : pz E (F + 1) 0 o j acc = pThen (pz E F 0 (o + 1) (j + 1) acc) (fun j1 a => if a.1 = 0 then some (.inr (j1, (0, rPlain (E.2.2.2 &&& (a.2 1 ^^^ -1))))) else some (.inl (5, j1))) := by
  rw [pz, if_pos rfl, if_neg (by omega), if_neg (by omega), if_neg (by omega), if_neg (fun q => q (Or.inl e)), if_neg ho, if_pos e]
theorem pz_40 (e : E.1 j = 40) (ho : ¬ o = 4) : pz E (F + 1) 0 o j acc = pThen (pz E F 4 (o + 1) (j + 1) acc) (fun j1 a => if E.1 j1 = 41 then some (.inr (j1 + 1, a)) else some (pBad E 2 j1)) := by
  rw [pz, if_pos rfl, if_neg (by omega), if_neg (by omega), if_neg (by omega), if_neg (fun q => q (Or.inr (Or.inl e))), if_neg ho, if_neg (by omega), if_pos e]
theorem pz_if (e : E.1 j = 294) (ho : ¬ o = 4) : pz E (F + 1) 0 o j acc = pThen (pz E F 4 (o + 1) (j + 1) acc) (fun j1 t => if t.1 ≠ 0 then some (.inl (5, j1)) else if E.1 j1 ≠ 663726 then some (pBad E 2 j1) else
          pThen (pz E F 4 (o + 1) (j1 + 1) acc) (fun j2 y => if E.1 j2 ≠ 176741 then some (pBad E 2 j2) else
            pThen (pz E F 4 (o + 1) (j2 + 1) acc) (fun j3 n => if E.1 j3 ≠ 5572 then some (pBad E 2 j3) else
              some (.inr (j3 + 1, (y.1 + n.1, rSum (rBegins y.2 y.1 (t.2 1)) (rBegins n.2 n.1 (E.2.2.2 &&& (t.2 1 ^^^ -1))) y.1 n.1)))))) := by
  rw [pz, if_pos rfl, if_neg (by omega), if_neg (by omega), if_neg (by omega), if_neg (fun q => q (Or.inr (Or.inr (Or.inl e)))), if_neg ho, if_neg (by omega), if_neg (by omega), if_pos e]
theorem pz_wh (e : E.1 j = 24388997) (ho : ¬ o = 4) : pz E (F + 1) 0 o j acc = pThen (pz E F 4 (o + 1) (j + 1) acc) (fun j1 t => if t.1 ≠ 0 then some (.inl (5, j1)) else if E.1 j1 ≠ 143 then some (pBad E 2 j1) else
          pThen (pz E F 4 (o + 1) (j1 + 1) acc) (fun j2 y => if E.1 j2 ≠ 5572 then some (pBad E 2 j2) else
            some (.inr (j2 + 1, (y.1, rFinish (rStar (rBegins y.2 y.1 (t.2 1)) y.1 E.2.2.2) y.1 (E.2.2.2 &&& (t.2 1 ^^^ -1))))))) := by
  rw [pz, if_pos rfl, if_neg (by omega), if_neg (by omega), if_neg (by omega), if_neg (fun q => q (Or.inr (Or.inr (Or.inr e)))), if_neg ho, if_neg (by omega), if_neg (by omega), if_neg (by omega)]
theorem pz_1s (e : E.1 j = 42) : pz E (F + 1) 1 o j acc = pz E F 1 o (j + 1) (acc.1, rStar acc.2 acc.1 E.2.2.2) := by
  rw [pz, if_neg (by omega), if_pos rfl, if_pos e]
theorem pz_1n (e : ¬ E.1 j = 42) : pz E (F + 1) 1 o j acc = some (.inr (j, acc)) := by
  rw [pz, if_neg (by omega), if_pos rfl, if_neg e]
theorem pz_2 : pz E (F + 1) 2 o j acc = pThen (pz E F 0 o j acc) (fun j1 a => pz E F 1 o j1 a) := by
  rw [pz, if_neg (by omega), if_neg (by omega), if_pos rfl]
theorem pz_3b (e : pBeg (E.1 j)) : pz E (F + 1) 3 o j acc = pThen (pz E F 2 o j acc) (fun j1 a => pz E F 3 o j1 (acc.1 + a.1, rJoin acc.2 a.2 acc.1 a.1)) := by
  rw [pz, if_neg (by omega), if_neg (by omega), if_neg (by omega), if_pos rfl, if_pos e]
theorem pz_3n (e : ¬ pBeg (E.1 j)) : pz E (F + 1) 3 o j acc = some (.inr (j, acc)) := by
  rw [pz, if_neg (by omega), if_neg (by omega), if_neg (by omega), if_pos rfl, if_neg e]
theorem pz_4 : pz E (F + 1) 4 o j acc = pThen (pz E F 6 o j acc) (fun j1 a => pz E F 5 o j1 a) := by
  rw [pz, if_neg (by omega), if_neg (by omega), if_neg (by omega), if_neg (by omega), if_pos rfl]
theorem pz_5p (e : E.1 j = 43) : pz E (F + 1) 5 o j acc = pThen (pz E F 6 o (j + 1) acc) (fun j1 a => pz E F 5 o j1 (acc.1 + a.1, rSum acc.2 a.2 acc.1 a.1)) := by
  rw [pz, if_neg (by omega), if_neg (by omega), if_neg (by omega), if_neg (by omega), if_neg (by omega), if_pos rfl, if_pos e]
theorem pz_5n (e : ¬ E.1 j = 43) : pz E (F + 1) 5 o j acc = some (.inr (j, acc)) := by
  rw [pz, if_neg (by omega), if_neg (by omega), if_neg (by omega), if_neg (by omega), if_neg (by omega), if_pos rfl, if_neg e]
theorem pz_6 : pz E (F + 1) 6 o j acc = pThen (pz E F 2 o j acc) (fun j1 a => pz E F 3 o j1 a) := by
  rw [pz, if_neg (by omega), if_neg (by omega), if_neg (by omega), if_neg (by omega), if_neg (by omega), if_neg (by omega)]
end PZ
theorem hold_all : ∀ nt, nt ≤ 3 → ∀ k, k < 3 → holdF (nI k) (2 ^ nt) &&& allF (nI nt) = holdF (nI k) (2 ^ nt) := by decide +kernel
theorem sh1_2 : ∀ nt, nt ≤ 3 → (1 : Int32) <<< (nI nt &&& 31) = nI (2 ^ nt) := by decide +kernel
theorem nm_ok {nt na np : Nat} {W : Nat → Nat} {PR : Nat → pR} (hnt : nt ≤ 3) (hna : na ≤ 3) (hP : ∀ k, k < np → (PR k).1 ≤ 5 ∧ okT (allF (nI nt)) (PR k)) (wv : Nat) (a : pR) (h : nmOf nt na np W PR wv = some a) : a.1 ≤ 5 ∧ okT (allF (nI nt)) a := by
  unfold nmOf at h
  cases e0 : fndN W 0 wv nt with
  | some k =>
    rw [e0] at h
    cases h
    exact ⟨Nat.zero_le _, okT.plain (hold_all nt hnt k (by have := (fndN_lt _ _ e0).1; omega))⟩
  | none =>
    rw [e0] at h
    dsimp only at h
    cases e3 : fndN W 3 wv na with
    | some k =>
      rw [e3] at h
      cases h
      refine ⟨by show 1 ≤ 5; omega, rfl, rfl, fun _ => ⟨?_, fun p hp => ?_⟩⟩
      · exact and_z _
      · have hp' : p < 1 := hp
        rw [show p = 0 by omega]
        exact and_s _
    | none =>
      rw [e3] at h
      dsimp only at h
      cases e6 : fndN W 6 wv np with
      | some k =>
        rw [e6] at h
        cases h
        exact hP k (fndN_lt _ _ e6).1
      | none =>
        rw [e6] at h
        cases h
theorem rdN.nm {m nt na np : Nat} {h : HS} {W : Nat → Nat} {PR : Nat → pR} (N : rdN m h nt na np W PR) (wv : Nat) (a : pR) (e : nmOf nt na np W PR wv = some a) : a.1 ≤ 5 ∧ okT (allF (nI nt)) a := nm_ok N.1.1 N.1.2.1 (fun k hk => (N.2.2.2.2 k hk).2) wv a e
section M52
variable {w : gD} {m : Nat} {tx : Nat → Nat} {n c nt na np : Nat} {W : Nat → Nat} {PR : Nat → pR}
/-- the contract of reading (md 0 a base, 2 a one, 6 a row, 4 a sum), with fuel F -/
def cRd (w : gD) (m : Nat) (tx : Nat → Nat) (n c nt na np : Nat) (W : Nat → Nat) (PR : Nat → pR) (md e K D : Nat) (y : MethodName) (cc : ByteArray) (nl F : Nat) : Prop := ∀ (h : HS) (o f j : Nat) (acc : pR) (r : pRz), mSh m h → rdN m h nt na np W PR → mTk m h tx n j → hI h m 26 = nI o → o ≤ 4 → hI h m 25 = nI f → 22 ≤ f → f + K + 4 * (4 - o) < 102 → j < c → 8 * (c - j) + e < F → pz (envT tx n nt na np W PR) F md o j acc = some r → Ev w (D + 5 * (4 - o)) 0 0 y cc nl (some .boolean) [.ref m] h (rdP m h tx n f o r)
abbrev cRB (w : gD) (m : Nat) (tx : Nat → Nat) (n c nt na np : Nat) (W : Nat → Nat) (PR : Nat → pR) (F : Nat) : Prop := cRd w m tx n c nt na np W PR 0 0 5 10 yX10_readBase cX10_readBase 2 F
abbrev cRO (w : gD) (m : Nat) (tx : Nat → Nat) (n c nt na np : Nat) (W : Nat → Nat) (PR : Nat → pR) (F : Nat) : Prop := cRd w m tx n c nt na np W PR 2 1 5 11 yX10_readOne cX10_readOne 2 F
abbrev cRR (w : gD) (m : Nat) (tx : Nat → Nat) (n c nt na np : Nat) (W : Nat → Nat) (PR : Nat → pR) (F : Nat) : Prop := cRd w m tx n c nt na np W PR 6 2 6 12 yX10_readRow cX10_readRow 2 F
abbrev cRS (w : gD) (m : Nat) (tx : Nat → Nat) (n c nt na np : Nat) (W : Nat → Nat) (PR : Nat → pR) (F : Nat) : Prop := cRd w m tx n c nt na np W PR 4 3 7 13 yX10_readSum cX10_readSum 2 F
section Small
variable {h : HS} {j : Nat}
theorem e_t_plain (hm : mSh m h) (T : mTk m h tx n j) {t a : Nat} (ht : t < 102) (ha : gRec (hI h (m + 1)) t 0 = nI a) (ha2 : a < 2 ^ 31) : EvF w 1 0 0 yX10_isPlain cX10_isPlain 2 (some .boolean) [.ref m, .int (nI t)] h (some (.int (b1 (a = 0)))) (if a = 0 then h else sI (sI h m 23 5) m 24 (nI (plT tx n j))) := by
  refine g_start (by decide) (Nat.le_of_ble_eq_true rfl) [(0, _), (1, _)] rfl (fun z hfl C => ?_)
  refine g_aload_n C (gd DX10_isPlain_0 0 rfl) 0 rfl rfl ?_
  refine g_iload_n C (gd DX10_isPlain_0 1 rfl) 1 rfl rfl ?_
  refine g_iconst (v := 0) C (gd DX10_isPlain_0 2 rfl) (by decide) ?_
  refine g_cV1 (ci := 10) C [_, _] mX10_at lm_TestJudgeModel_131 (by exact hm.1) rfl rfl (e_m_at hm (j := 307 * t + 0) (r_ix t 0) (by omega)) hfl (by first | decide | omega) (by decide) (by omega) (by omega) rfl rfl (Nat.le_of_ble_eq_true rfl) (gd DX10_isPlain_0 3 rfl) ?_
  rw [show hI h (m + 1) (307 * t + 0) = nI a from ha]
  by_cases e : a = 0
  · subst e
    refine g_if_ne C 11 (gd DX10_isPlain_0 4 rfl) (by decide) (fun c6 => ?_) (fun c6 => ?_)
    · exact absurd rfl c6
    · refine g_iconst (v := 1) C (gd DX10_isPlain_0 5 rfl) (by decide) ?_
      exact g_zret C (by decide) (by omega) (by omega) ⟨rfl, rfl⟩ (gd DX10_isPlain_0 6 rfl)
  · refine g_if_ne C 11 (gd DX10_isPlain_0 4 rfl) (by decide) (fun c6 => ?_) (fun c6 => ?_)
    · refine g_aload_n C (gd DX10_isPlain_0 7 rfl) 0 rfl rfl ?_
      refine g_iconst (v := 5) C (gd DX10_isPlain_0 8 rfl) (by decide) ?_
      refine g_puti (ci := 10) (k := 23) C rfl (by decide) rfl lf_TestJudgeModel_209 hm.1 (Or.inl rfl) rfl (gd DX10_isPlain_0 9 rfl) ?_
      refine g_aload_n C (gd DX10_isPlain_0 10 rfl) 0 rfl rfl ?_
      refine g_aload_n C (gd DX10_isPlain_0 11 rfl) 0 rfl rfl ?_
      refine g_geti (ci := 10) (k := 18) C rfl (by decide) rfl lf_TestJudgeModel_165 hm.1 (gd DX10_isPlain_0 12 rfl) ?_
      rw [hI_sI, if_neg (show ¬ (m = m ∧ 18 = 23) by omega), T.2.1]
      refine g_puti (ci := 10) (k := 24) C rfl (by decide) rfl lf_TestJudgeModel_212 hm.1 (Or.inl rfl) rfl (gd DX10_isPlain_0 13 rfl) ?_
      refine g_iconst (v := 0) C (gd DX10_isPlain_0 14 rfl) (by decide) ?_
      exact g_zret C (by decide) (by omega) (by omega) ⟨by rw [b1_f e], by rw [if_neg e]⟩ (gd DX10_isPlain_0 15 rfl)
    · exact absurd c6 (nI_ne0 (by omega) (by omega))
theorem e_t_opens (si : gSI w) (hm : mSh m h) (T : mTk m h tx n j) {o : Nat} (ho : hI h m 26 = nI o) (ho4 : o ≤ 4) : Ev w 7 0 0 yX10_opens cX10_opens 1 (some .boolean) [.ref m] h (fun r' h' => (o = 4 ∧ r' = some (.int 0) ∧ h' = sI (sI h m 23 (nI (if cdT tx n j = 1 then 1 else 4))) m 24 (nI (plT tx n j))) ∨ (¬ o = 4 ∧ r' = some (.int 1) ∧ ∃ h1, nxF m h h1 ∧ mTk m h1 tx n (j + 1) ∧ h' = sI h1 m 26 (nI (o + 1)))) := by
  refine g_start (by decide) (Nat.le_of_ble_eq_true rfl) [(0, _)] rfl (fun z hfl C => ?_)
  refine g_aload_n C (gd DX10_opens_0 0 rfl) 0 rfl rfl ?_
  refine g_geti (ci := 10) (k := 26) C rfl (by decide) rfl lf_TestJudgeModel_273 hm.1 (gd DX10_opens_0 1 rfl) ?_
  rw [ho]
  refine g_iconst (v := 4) C (gd DX10_opens_0 2 rfl) (by decide) ?_
  refine g_icmp_ne C 14 (gd DX10_opens_0 3 rfl) (by decide) (fun c5 => ?_) (fun c5 => ?_)
  · have h4 : ¬ o = 4 := fun q => c5 (by rw [q]; rfl)
    refine g_aload_n C (gd DX10_opens_0 8 rfl) 0 rfl rfl ?_
    refine g_callV (ci := 10) C [] mX10_goes lm_TestJudgeModel_215 (by exact hm.1) rfl rfl (e_t_goes si hm T) hfl (by first | decide | omega) (by decide) (by omega) (by omega) rfl rfl (Nat.le_of_ble_eq_true rfl) (gd DX10_opens_0 9 rfl) (fun r h2 hp => ?_)
    obtain ⟨rfl, a1, a2⟩ := hp
    have hm2 := (rdF.nx (f := 0) a1).sh hm
    show GW z w 1 _ 0 0 _ _ [.int 1] _
    refine g_if_ne C 23 (gd DX10_opens_0 10 rfl) (by decide) (fun c18 => ?_) (fun c18 => ?_)
    · refine g_aload_n C (gd DX10_opens_0 13 rfl) 0 rfl rfl ?_
      refine g_dup C (gd DX10_opens_0 14 rfl) rfl ?_
      refine g_geti (ci := 10) (k := 26) C rfl (by decide) rfl lf_TestJudgeModel_273 hm2.1 (gd DX10_opens_0 15 rfl) ?_
      rw [a1.2.1 m 26 (by omega), ho]
      refine g_iconst (v := 1) C (gd DX10_opens_0 16 rfl) (by decide) ?_
      refine g_iadd C (gd DX10_opens_0 17 rfl) ?_
      rw [show nI o + 1 = nI (o + 1) from nx_add (b := 1) rfl rfl]
      refine g_puti (ci := 10) (k := 26) C rfl (by decide) rfl lf_TestJudgeModel_273 hm2.1 (Or.inl rfl) rfl (gd DX10_opens_0 18 rfl) ?_
      refine g_iconst (v := 1) C (gd DX10_opens_0 19 rfl) (by decide) ?_
      exact g_zret C (by decide) (by omega) (by omega) (Or.inr ⟨h4, rfl, _, a1, a2, rfl⟩) (gd DX10_opens_0 20 rfl)
    · exact absurd c18 (by decide)
  · have h4 : o = 4 := (nI_eq (b := 4) (by omega) (by omega)).mp c5
    refine g_aload_n C (gd DX10_opens_0 4 rfl) 0 rfl rfl ?_
    refine g_iconst (v := 4) C (gd DX10_opens_0 5 rfl) (by decide) ?_
    refine g_cV1 (ci := 10) C [_] mX10_bad lm_TestJudgeModel_219 (by exact hm.1) rfl rfl (e_t_bad hm T 4) hfl (by first | decide | omega) (by decide) (by omega) (by omega) rfl rfl (Nat.le_of_ble_eq_true rfl) (gd DX10_opens_0 6 rfl) ?_
    exact g_zret C (by decide) (by omega) (by omega) (Or.inl ⟨h4, rfl, rfl⟩) (gd DX10_opens_0 7 rfl)
theorem e_t_readName (si : gSI w) (hm : mSh m h) (N : rdN m h nt na np W PR) (T : mTk m h tx n j) {o f : Nat} (ho : hI h m 26 = nI o) (hf : hI h m 25 = nI f) (h22 : 22 ≤ f) (hf2 : f < 102) (e2 : cdT tx n j = 2) : Ev w 8 0 0 yX10_readName cX10_readName 5 (some .boolean) [.ref m] h (rdP m h tx n f o (match nmOf nt na np W PR (wdT tx n j) with | none => pBad (envT tx n nt na np W PR) 3 j | some a => .inr (j + 1, a))) := by
  refine g_start (by decide) (Nat.le_of_ble_eq_true rfl) [(0, _)] rfl (fun z hfl C => ?_)
  obtain ⟨hw, hwv⟩ := T.2.2.2.w2 e2
  obtain ⟨⟨r1, r2, r3⟩, ⟨r4, r5, r6⟩, r7, ⟨r8, r9, r10⟩, r11⟩ := N
  have v0 := vN_1 (x := fndN W 0 (wdT tx n j) nt) (k := nt) (fun i hi => (fndN_lt _ _ hi).1) (by omega)
  have v3 := vN_1 (x := fndN W 3 (wdT tx n j) na) (k := na) (fun i hi => (fndN_lt _ _ hi).1) (by omega)
  have v6 := vN_1 (x := fndN W 6 (wdT tx n j) np) (k := np) (fun i hi => (fndN_lt _ _ hi).1) (by omega)
  have tail : ∀ a : pR, nmOf nt na np W PR (wdT tx n j) = some a → ∀ R x2 x3 x4, Ag R a.2 → GW z w 5 (gQ z w 0 0 (fun r' h'' => rdP m h tx n f o (match nmOf nt na np W PR (wdT tx n j) with | none => pBad (envT tx n nt na np W PR) 3 j | some a => .inr (j + 1, a)) r' h'')) 0 0 110 [(0, .ref m), (1, .int (nI f)), (2, .int x2), (3, .int x3), (4, .int x4)] [] (hRc m h f R) := by
    intro a ha R x2 x3 x4 hR
    refine g_aload_n C (gd DX10_readName_1 3 rfl) 0 rfl rfl ?_
    refine g_dup C (gd DX10_readName_1 4 rfl) rfl ?_
    refine g_geti (ci := 10) (k := 25) C rfl (by decide) rfl lf_TestJudgeModel_234 hm.1 (gd DX10_readName_1 5 rfl) ?_
    rw [hRc_m, hf]
    refine g_iconst (v := 1) C (gd DX10_readName_1 6 rfl) (by decide) ?_
    refine g_iadd C (gd DX10_readName_1 7 rfl) ?_
    rw [show nI f + 1 = nI (f + 1) from nx_add (b := 1) rfl rfl]
    refine g_puti (ci := 10) (k := 25) C rfl (by decide) rfl lf_TestJudgeModel_234 hm.1 (Or.inl rfl) rfl (gd DX10_readName_1 8 rfl) ?_
    refine g_aload_n C (gd DX10_readName_1 9 rfl) 0 rfl rfl ?_
    have T2 : mTk m (sI (hRc m h f R) m 25 (nI (f + 1))) tx n j := T.rc.i (by omega)
    refine g_callV (ci := 10) C [] mX10_goes lm_TestJudgeModel_215 (by exact hm.1) rfl rfl (e_t_goes (h := sI (hRc m h f R) m 25 (nI (f + 1))) si hm T2) hfl (by first | decide | omega) (by decide) (by omega) (by omega) rfl rfl (Nat.le_of_ble_eq_true rfl) (gd DX10_readName_1 10 rfl) (fun r h2 hp => ?_)
    obtain ⟨rfl, a1, a2⟩ := hp
    refine g_zret C (by decide) (by omega) (by omega) ?_ (gd DX10_readName_1 11 rfl)
    rw [ha]
    refine ⟨((rdF.rc (Nat.le_refl f)).tr (rdF.i (by omega) (by omega))).tr (rdF.nx a1), rfl, a2, ?_, ?_, ?_⟩
    · rw [a1.2.1 m 26 (by omega), hI_sI, if_neg (by omega), hRc_m]; exact ho
    · rw [a1.2.1 m 25 (by omega), hI_sI, if_pos ⟨rfl, rfl⟩]
    · intro k hk
      show hI h2 (m + 1) (307 * f + k) = _
      rw [a1.2.1 (m + 1) _ (by omega), hI_sI_ne (by omega)]
      exact (hRc_at k hk).trans (hR k hk)
  have k59 : nmOf nt na np W PR (wdT tx n j) ≠ none → GW z w 5 (gQ z w 0 0 (fun r' h'' => rdP m h tx n f o (match nmOf nt na np W PR (wdT tx n j) with | none => pBad (envT tx n nt na np W PR) 3 j | some a => .inr (j + 1, a)) r' h'')) 0 0 59 [(0, .ref m), (1, .int (nI f)), (2, .int (vN (fndN W 0 (wdT tx n j) nt))), (3, .int (vN (fndN W 3 (wdT tx n j) na))), (4, .int (vN (fndN W 6 (wdT tx n j) np)))] [] h := by
    intro hne
    refine g_iload_n C (gd DX10_readName_0 34 rfl) 2 rfl rfl ?_
    refine g_iconst (v := -1) C (gd DX10_readName_0 35 rfl) (by decide) ?_
    refine g_icmp_eq C 82 (gd DX10_readName_0 36 rfl) (by decide) (fun c61 => ?_) (fun c61 => ?_)
    · have e0 := v0.mp c61
      refine g_iload_n C (gd DX10_readName_0 47 rfl) 3 rfl rfl ?_
      refine g_iconst (v := -1) C (gd DX10_readName_0 48 rfl) (by decide) ?_
      refine g_icmp_eq C 100 (gd DX10_readName_0 49 rfl) (by decide) (fun c84 => ?_) (fun c84 => ?_)
      · have e3 := v3.mp c84
        cases e6 : fndN W 6 (wdT tx n j) np with
        | none => exact absurd (by unfold nmOf; rw [e0, e3, e6]) hne
        | some k =>
          have hk := (fndN_lt _ _ e6).1
          rw [e0, e3]
          refine g_aload_n C (gd DX10_readName_0 57 rfl) 0 rfl rfl ?_
          refine g_bipush (v := 11) C (gd DX10_readName_0 58 rfl) (by decide) ?_
          refine g_iload C (gd DX10_readName_0 59 rfl) 4 rfl ?_
          show GW z w 5 _ 0 0 _ _ (.int (nI k) :: .int 11 :: _) _
          refine g_iadd C (gd DX10_readName_1 0 rfl) ?_
          rw [show (11 : Int32) + nI k = nI (11 + k) from nx_add (a := 11) rfl rfl]
          refine g_iload_n C (gd DX10_readName_1 1 rfl) 1 rfl rfl ?_
          refine g_cV0 (v := .null) (ci := 10) C [_, _] mX10_copies lm_TestJudgeModel_246 (by exact hm.1) rfl rfl (e_m_copies hm (r := 11 + k) (t := f) (by omega) hf2 (by omega)) hfl (by first | decide | omega) (by decide) (by omega) (by omega) rfl rfl (Nat.le_of_ble_eq_true rfl) (gd DX10_readName_1 2 rfl) ?_
          refine tail (PR k) (by unfold nmOf; rw [e0, e3, e6]) _ _ _ _ (r11 k hk).1
      · cases e3 : fndN W 3 (wdT tx n j) na with
        | none => exact absurd (v3.mpr e3) c84
        | some k =>
          have hk := (fndN_lt _ _ e3).1
          rw [e0]
          refine g_aload_n C (gd DX10_readName_0 50 rfl) 0 rfl rfl ?_
          refine g_iload_n C (gd DX10_readName_0 51 rfl) 1 rfl rfl ?_
          refine g_iload_n C (gd DX10_readName_0 52 rfl) 3 rfl rfl ?_
          refine g_aload_n C (gd DX10_readName_0 53 rfl) 0 rfl rfl ?_
          refine g_cV1 (ci := 10) C [] mX10_all lm_TestJudgeModel_267 (by exact hm.1) rfl rfl (e_m_all hm) hfl (by first | decide | omega) (by decide) (by omega) (by omega) rfl rfl (Nat.le_of_ble_eq_true rfl) (gd DX10_readName_0 54 rfl) ?_
          rw [r4]
          refine g_cV0 (v := .null) (ci := 10) C [_, _, _] mX10_ofAct lm_TestJudgeModel_301 (by exact hm.1) rfl rfl (e_m_ofAct hm hf2 _ _) hfl (by first | decide | omega) (by decide) (by omega) (by omega) rfl rfl (Nat.le_of_ble_eq_true rfl) (gd DX10_readName_0 55 rfl) ?_
          refine g_goto (tgt := 110) C (gd DX10_readName_0 56 rfl) (by decide) ?_
          refine tail (1, rAct (nI k) (allF (nI nt))) (by unfold nmOf; rw [e0, e3]) _ _ _ _ (fun _ _ => rfl)
    · cases e0 : fndN W 0 (wdT tx n j) nt with
      | none => exact absurd (v0.mpr e0) c61
      | some k =>
        have hk := (fndN_lt _ _ e0).1
        refine g_aload_n C (gd DX10_readName_0 37 rfl) 0 rfl rfl ?_
        refine g_iload_n C (gd DX10_readName_0 38 rfl) 1 rfl rfl ?_
        refine g_iload_n C (gd DX10_readName_0 39 rfl) 2 rfl rfl ?_
        refine g_iconst (v := 1) C (gd DX10_readName_0 40 rfl) (by decide) ?_
        refine g_aload_n C (gd DX10_readName_0 41 rfl) 0 rfl rfl ?_
        refine g_geti (ci := 10) (k := 29) C rfl (by decide) rfl lf_TestJudgeModel_222 hm.1 (gd DX10_readName_0 42 rfl) ?_
        rw [r4]
        refine g_ishl C (gd DX10_readName_0 43 rfl) ?_
        rw [sh1_2 nt r1]
        have p8 : 2 ^ nt ≤ 2 ^ 3 := Nat.pow_le_pow_right (by omega) r1
        refine g_cS1 C [_, _] mX10_holds lm_TestJudgeModel_298 (e_m_holds (nI k) (n0 := 2 ^ nt) p8) hfl (by first | decide | omega) (by decide) (by omega) (by omega) rfl rfl (Nat.le_of_ble_eq_true rfl) (gd DX10_readName_0 44 rfl) ?_
        refine g_cV0 (v := .null) (ci := 10) C [_, _] mX10_plain lm_TestJudgeModel_127 (by exact hm.1) rfl rfl (e_m_plain hm hf2 _) hfl (by first | decide | omega) (by decide) (by omega) (by omega) rfl rfl (Nat.le_of_ble_eq_true rfl) (gd DX10_readName_0 45 rfl) ?_
        refine g_goto (tgt := 110) C (gd DX10_readName_0 46 rfl) (by decide) ?_
        refine tail (0, rPlain (holdF (nI k) (2 ^ nt))) (by unfold nmOf; rw [e0]) _ _ _ _ (fun _ _ => rfl)
  refine g_aload_n C (gd DX10_readName_0 0 rfl) 0 rfl rfl ?_
  refine g_geti (ci := 10) (k := 25) C rfl (by decide) rfl lf_TestJudgeModel_234 hm.1 (gd DX10_readName_0 1 rfl) ?_
  rw [hf]
  refine g_istore_n (lv' := [(0, _), (1, _)]) C (gd DX10_readName_0 2 rfl) [1, 0] rfl (by decide) rfl ?_
  refine g_aload_n C (gd DX10_readName_0 3 rfl) 0 rfl rfl ?_
  refine g_iconst (v := 0) C (gd DX10_readName_0 4 rfl) (by decide) ?_
  refine g_aload_n C (gd DX10_readName_0 5 rfl) 0 rfl rfl ?_
  refine g_geti (ci := 10) (k := 29) C rfl (by decide) rfl lf_TestJudgeModel_222 hm.1 (gd DX10_readName_0 6 rfl) ?_
  rw [r4]
  refine g_cV1 (ci := 10) C [_, _] mX10_nameIn lm_TestJudgeModel_225 (by exact hm.1) rfl rfl (e_t_nameIn hm (o := 0) (k := nt) (by omega) hw hwv r7 r8) hfl (by first | decide | omega) (by decide) (by omega) (by omega) rfl rfl (Nat.le_of_ble_eq_true rfl) (gd DX10_readName_0 7 rfl) ?_
  refine g_istore_n (lv' := [(0, _), (1, _), (2, _)]) C (gd DX10_readName_0 8 rfl) [1, 2, 0] rfl (by decide) rfl ?_
  refine g_aload_n C (gd DX10_readName_0 9 rfl) 0 rfl rfl ?_
  refine g_iconst (v := 3) C (gd DX10_readName_0 10 rfl) (by decide) ?_
  refine g_aload_n C (gd DX10_readName_0 11 rfl) 0 rfl rfl ?_
  refine g_geti (ci := 10) (k := 30) C rfl (by decide) rfl lf_TestJudgeModel_228 hm.1 (gd DX10_readName_0 12 rfl) ?_
  rw [r5]
  refine g_cV1 (ci := 10) C [_, _] mX10_nameIn lm_TestJudgeModel_225 (by exact hm.1) rfl rfl (e_t_nameIn hm (o := 3) (k := na) (by omega) hw hwv r7 r9) hfl (by first | decide | omega) (by decide) (by omega) (by omega) rfl rfl (Nat.le_of_ble_eq_true rfl) (gd DX10_readName_0 13 rfl) ?_
  refine g_istore_n (lv' := [(0, _), (1, _), (2, _), (3, _)]) C (gd DX10_readName_0 14 rfl) [1, 2, 3, 0] rfl (by decide) rfl ?_
  refine g_aload_n C (gd DX10_readName_0 15 rfl) 0 rfl rfl ?_
  refine g_bipush (v := 6) C (gd DX10_readName_0 16 rfl) (by decide) ?_
  refine g_aload_n C (gd DX10_readName_0 17 rfl) 0 rfl rfl ?_
  refine g_geti (ci := 10) (k := 31) C rfl (by decide) rfl lf_TestJudgeModel_231 hm.1 (gd DX10_readName_0 18 rfl) ?_
  rw [r6]
  refine g_cV1 (ci := 10) C [_, _] mX10_nameIn lm_TestJudgeModel_225 (by exact hm.1) rfl rfl (e_t_nameIn hm (o := 6) (k := np) (by omega) hw hwv r7 r10) hfl (by first | decide | omega) (by decide) (by omega) (by omega) rfl rfl (Nat.le_of_ble_eq_true rfl) (gd DX10_readName_0 19 rfl) ?_
  refine g_istore (lv' := [(0, _), (1, _), (2, _), (3, _), (4, _)]) C (gd DX10_readName_0 20 rfl) [1, 2, 3, 4, 0] (by decide) rfl ?_
  refine g_iload_n C (gd DX10_readName_0 21 rfl) 2 rfl rfl ?_
  refine g_iconst (v := -1) C (gd DX10_readName_0 22 rfl) (by decide) ?_
  refine g_icmp_ne C 59 (gd DX10_readName_0 23 rfl) (by decide) (fun c39 => ?_) (fun c39 => ?_)
  · refine k59 (fun q => ?_)
    unfold nmOf at q
    cases e0 : fndN W 0 (wdT tx n j) nt with
    | none => exact c39 (v0.mpr e0)
    | some k => rw [e0] at q; cases q
  · refine g_iload_n C (gd DX10_readName_0 24 rfl) 3 rfl rfl ?_
    refine g_iconst (v := -1) C (gd DX10_readName_0 25 rfl) (by decide) ?_
    refine g_icmp_ne C 59 (gd DX10_readName_0 26 rfl) (by decide) (fun c44 => ?_) (fun c44 => ?_)
    · refine k59 (fun q => ?_)
      unfold nmOf at q
      rw [v0.mp c39] at q
      cases e3 : fndN W 3 (wdT tx n j) na with
      | none => exact c44 (v3.mpr e3)
      | some k => rw [e3] at q; cases q
    · refine g_iload C (gd DX10_readName_0 27 rfl) 4 rfl ?_
      refine g_iconst (v := -1) C (gd DX10_readName_0 28 rfl) (by decide) ?_
      refine g_icmp_ne C 59 (gd DX10_readName_0 29 rfl) (by decide) (fun c50 => ?_) (fun c50 => ?_)
      · refine k59 (fun q => ?_)
        unfold nmOf at q
        rw [v0.mp c39, v3.mp c44] at q
        cases e6 : fndN W 6 (wdT tx n j) np with
        | none => exact c50 (v6.mpr e6)
        | some k => rw [e6] at q; cases q
      · refine g_aload_n C (gd DX10_readName_0 30 rfl) 0 rfl rfl ?_
        refine g_iconst (v := 3) C (gd DX10_readName_0 31 rfl) (by decide) ?_
        refine g_cV1 (ci := 10) C [_] mX10_bad lm_TestJudgeModel_219 (by exact hm.1) rfl rfl (e_t_bad hm T 3) hfl (by first | decide | omega) (by decide) (by omega) (by omega) rfl rfl (Nat.le_of_ble_eq_true rfl) (gd DX10_readName_0 32 rfl) ?_
        refine g_zret C (by decide) (by omega) (by omega) ?_ (gd DX10_readName_0 33 rfl)
        rw [show nmOf nt na np W PR (wdT tx n j) = none from by unfold nmOf; rw [v0.mp c39, v3.mp c44, v6.mp c50]]
        refine ⟨(rdG.i (by omega) (by omega)).tr (rdG.i (by omega) (by omega)), rfl, ?_, ?_⟩
        · rw [hI_sI, if_neg (by omega), hI_sI, if_pos ⟨rfl, rfl⟩]; rfl
        · rw [hI_sI, if_pos ⟨rfl, rfl⟩]
end Small
end M52
