/-! the reference's tape, its numbers in print, its printed bytes, and the next rest -/
/-- a byte of a number, the high one at 24 -/
def byO (v k : Int32) : Int32 := (v.toUInt32 >>> (k.toUInt32 &&& Int32.toUInt32 31)).toInt32 &&& 255
/-- the picture after one byte came -/
def tB (m : Nat) (h : HS) (n : Nat) (b : Int32) : HS := sI (sI h (m + 3) n b) m 10 (nI (n + 1))
/-- the picture after a number came -/
def tW (m : Nat) (h : HS) (n : Nat) (v : Int32) : HS := tB m (tB m (tB m (tB m h n (byO v 24)) (n + 1) (byO v 16)) (n + 2) (byO v 8)) (n + 3) (byO v 0)
theorem tB_10 {m n : Nat} {h : HS} {b : Int32} : hI (tB m h n b) m 10 = nI (n + 1) := by
  unfold tB
  rw [hI_sI, if_pos ⟨rfl, rfl⟩]
theorem tW_10 {m n : Nat} {h : HS} {v : Int32} : hI (tW m h n v) m 10 = nI (n + 4) := tB_10
/-- the picture after a digit was printed -/
def pD (m : Nat) (h : HS) (n : Nat) (c : Int32) : HS := sI (sI h (m + 26) n c.toInt8.toInt32) m 57 (nI (n + 1))
theorem pD_57 {m n : Nat} {h : HS} {c : Int32} : hI (pD m h n c) m 57 = nI (n + 1) := by
  unfold pD
  rw [hI_sI, if_pos ⟨rfl, rfl⟩]
section M19
variable {w : gD} {m : Nat} {h : HS}
theorem e_m_come (hm : mSh m h) {n : Nat} (hn : n + 4 ≤ 500) (ht : hI h m 10 = nI n) (v : Int32) : EvF w 0 0 0 yX10_come cX10_come 3 none [.ref m, .int v] h none (tW m h n v) := by
  refine g_start (by decide) (Nat.le_of_ble_eq_true rfl) [(0, _), (1, _)] rfl (fun z hfl C => ?_)
  have step : ∀ (k : Int32) (h1 : HS) (n1 : Nat), mSh m h1 → ¬ k < 0 → n1 < 500 → hI h1 m 10 = nI n1 → GW z w 3 (gQ z w 0 0 (fun r' h'' => r' = none ∧ h'' = tW m h n v)) 0 0 3 [(0, .ref m), (1, .int v), (2, .int (k + -8))] [] (tB m h1 n1 (byO v k)) → GW z w 3 (gQ z w 0 0 (fun r' h'' => r' = none ∧ h'' = tW m h n v)) 0 0 3 [(0, .ref m), (1, .int v), (2, .int k)] [] h1 := by
    intro k h1 n1 hm hk hn ht hG
    refine g_iload_n C (gd DX10_come_0 2 rfl) 2 rfl rfl ?_
    refine g_if_lt C 39 (gd DX10_come_0 3 rfl) (by decide) (fun c4 => ?_) (fun c4 => ?_)
    · exact absurd c4 hk
    · refine g_aload_n C (gd DX10_come_0 4 rfl) 0 rfl rfl ?_
      refine g_getr (ci := 10) (k := 9) C rfl (by decide) rfl lf_TestJudgeModel_16 hm.1 (hm.2 9 3 12 500 rfl).1 (gd DX10_come_0 5 rfl) ?_
      refine g_aload_n C (gd DX10_come_0 6 rfl) 0 rfl rfl ?_
      refine g_geti (ci := 10) (k := 10) C rfl (by decide) rfl lf_TestJudgeModel_148 hm.1 (gd DX10_come_0 7 rfl) ?_
      rw [ht]
      refine g_iload_n C (gd DX10_come_0 8 rfl) 1 rfl rfl ?_
      refine g_iload_n C (gd DX10_come_0 9 rfl) 2 rfl rfl ?_
      refine g_iushr C (gd DX10_come_0 10 rfl) ?_
      refine g_sipush (v := 255) C (gd DX10_come_0 11 rfl) (by decide) ?_
      refine g_iand C (gd DX10_come_0 12 rfl) ?_
      refine g_isj (j := n1) C (hm.2 9 3 12 500 rfl).2.1 (hm.2 9 3 12 500 rfl).2.2 (by decide) rfl (by omega) (gd DX10_come_0 13 rfl) ?_
      refine g_aload_n C (gd DX10_come_0 14 rfl) 0 rfl rfl ?_
      refine g_dup C (gd DX10_come_0 15 rfl) rfl ?_
      refine g_geti (ci := 10) (k := 10) C rfl (by decide) rfl lf_TestJudgeModel_148 hm.1 (gd DX10_come_0 16 rfl) ?_
      rw [show ∀ u : Int32, hI (sI h1 (m + 3) n1 u) m 10 = nI n1 from fun u => by rw [hI_sI, if_neg (by omega)]; exact ht]
      refine g_iconst (v := 1) C (gd DX10_come_0 17 rfl) (by decide) ?_
      refine g_iadd C (gd DX10_come_0 18 rfl) ?_
      refine g_puti (ci := 10) (k := 10) C rfl (by decide) rfl lf_TestJudgeModel_148 hm.1 (Or.inl rfl) rfl (gd DX10_come_0 19 rfl) ?_
      rw [nI_1]
      refine g_iinc (lv' := [(0, _), (1, _), (2, _)]) C (gd DX10_come_0 20 rfl) 2 [1, 2, 0] rfl rfl (by decide) rfl ?_
      refine g_goto (tgt := 3) C (gd DX10_come_0 21 rfl) (by decide) ?_
      exact hG
  refine g_bipush (v := 24) C (gd DX10_come_0 0 rfl) (by decide) ?_
  refine g_istore_n (lv' := [(0, _), (1, _), (2, _)]) C (gd DX10_come_0 1 rfl) [1, 2, 0] rfl (by decide) rfl ?_
  refine step 24 h n hm (by decide) (by omega) ht ?_
  refine step 16 (tB m h n (byO v 24)) (n + 1) hm (by decide) (by omega) tB_10 ?_
  refine step 8 (tB m (tB m h n (byO v 24)) (n + 1) (byO v 16)) (n + 2) hm (by decide) (by omega) tB_10 ?_
  refine step 0 (tB m (tB m (tB m h n (byO v 24)) (n + 1) (byO v 16)) (n + 2) (byO v 8)) (n + 3) hm (by decide) (by omega) tB_10 ?_
  refine g_iload_n C (gd DX10_come_0 2 rfl) 2 rfl rfl ?_
  refine g_if_lt C 39 (gd DX10_come_0 3 rfl) (by decide) (fun c4 => ?_) (fun c4 => ?_)
  · exact g_vret C (by omega) (by omega) ⟨rfl, rfl⟩ (gd DX10_come_0 22 rfl)
  · exact absurd (by decide) c4
theorem e_m_out (hm : mSh m h) {n : Nat} (hn : n ≤ 12000) (ho : hI h m 57 = nI n) (k : Int32) : EvF w 0 0 0 yX10_out cX10_out 2 (some .int) [.ref m, .int k] h (some (.int (if 0 ≤ k ∧ k < nI n then hI h (m + 26) k.toNatClampNeg else 0))) (sI h m 1 (if 0 ≤ k ∧ k < nI n then 0 else 1)) := by
  refine g_start (by decide) (Nat.le_of_ble_eq_true rfl) [(0, _), (1, _)] rfl (fun z hfl C => ?_)
  have no : ¬ (0 ≤ k ∧ k < nI n) → GW z w 2 (gQ z w 0 0 (fun r' h'' => r' = some (.int (if 0 ≤ k ∧ k < nI n then hI h (m + 26) k.toNatClampNeg else 0)) ∧ h'' = sI h m 1 (if 0 ≤ k ∧ k < nI n then 0 else 1))) 0 0 13 [(0, .ref m), (1, .int k)] [.ref m] h := by
    intro hc
    rw [if_neg hc, if_neg hc]
    refine g_iconst (v := 1) C (gd DX10_out_0 7 rfl) (by decide) ?_
    refine g_goto (tgt := 18) C (gd DX10_out_0 8 rfl) (by decide) ?_
    refine g_puti (ci := 10) (k := 1) C rfl (by decide) rfl lf_TestJudgeModel_103 hm.1 (Or.inl rfl) rfl (gd DX10_out_0 10 rfl) ?_
    refine g_aload_n C (gd DX10_out_0 11 rfl) 0 rfl rfl ?_
    refine g_geti (ci := 10) (k := 1) C rfl (by decide) rfl lf_TestJudgeModel_103 hm.1 (gd DX10_out_0 12 rfl) ?_
    rw [show hI (sI h m 1 1) m 1 = 1 by rw [hI_sI, if_pos ⟨rfl, rfl⟩]]
    refine g_iconst (v := 1) C (gd DX10_out_0 13 rfl) (by decide) ?_
    refine g_icmp_ne C 33 (gd DX10_out_0 14 rfl) (by decide) (fun c26 => ?_) (fun c26 => ?_)
    · exact absurd rfl c26
    · refine g_iconst (v := 0) C (gd DX10_out_0 15 rfl) (by decide) ?_
      refine g_goto (tgt := 39) C (gd DX10_out_0 16 rfl) (by decide) ?_
      exact g_iret C (by omega) (by omega) ⟨rfl, rfl⟩ (gd DX10_out_0 21 rfl)
  refine g_aload_n C (gd DX10_out_0 0 rfl) 0 rfl rfl ?_
  refine g_iload_n C (gd DX10_out_0 1 rfl) 1 rfl rfl ?_
  refine g_if_lt C 13 (gd DX10_out_0 2 rfl) (by decide) (fun c2 => ?_) (fun c2 => ?_)
  · exact no (fun q => absurd q.1 (Int32.not_le.mpr c2))
  · refine g_iload_n C (gd DX10_out_0 3 rfl) 1 rfl rfl ?_
    refine g_aload_n C (gd DX10_out_0 4 rfl) 0 rfl rfl ?_
    refine g_geti (ci := 10) (k := 57) C rfl (by decide) rfl lf_TestJudgeModel_503 hm.1 (gd DX10_out_0 5 rfl) ?_
    rw [ho]
    refine g_icmp_lt C 17 (gd DX10_out_0 6 rfl) (by decide) (fun c10 => ?_) (fun c10 => ?_)
    · have hc : 0 ≤ k ∧ k < nI n := ⟨Int32.not_lt.mp c2, c10⟩
      rw [if_pos hc, if_pos hc]
      refine g_iconst (v := 0) C (gd DX10_out_0 9 rfl) (by decide) ?_
      refine g_puti (ci := 10) (k := 1) C rfl (by decide) rfl lf_TestJudgeModel_103 hm.1 (Or.inl rfl) rfl (gd DX10_out_0 10 rfl) ?_
      refine g_aload_n C (gd DX10_out_0 11 rfl) 0 rfl rfl ?_
      refine g_geti (ci := 10) (k := 1) C rfl (by decide) rfl lf_TestJudgeModel_103 hm.1 (gd DX10_out_0 12 rfl) ?_
      rw [show hI (sI h m 1 0) m 1 = 0 by rw [hI_sI, if_pos ⟨rfl, rfl⟩]]
      refine g_iconst (v := 1) C (gd DX10_out_0 13 rfl) (by decide) ?_
      refine g_icmp_ne C 33 (gd DX10_out_0 14 rfl) (by decide) (fun c26 => ?_) (fun c26 => ?_)
      · obtain ⟨j, hj, rfl⟩ : ∃ j, j < n ∧ k = nI j := by
          obtain ⟨j, hj, rfl⟩ := nI_of c2
          exact ⟨j, (nI_ltI hj (by omega)).mp c10, rfl⟩
        rw [nI_clamp (by omega)]
        refine g_aload_n C (gd DX10_out_0 17 rfl) 0 rfl rfl ?_
        refine g_getr (ci := 10) (k := 56) C rfl (by decide) rfl lf_TestJudgeModel_99 hm.1 (hm.2 56 26 14 12000 rfl).1 (gd DX10_out_0 18 rfl) ?_
        refine g_iload_n C (gd DX10_out_0 19 rfl) 1 rfl rfl ?_
        refine g_baj (j := j) C (hm.2 56 26 14 12000 rfl).2.1 (hm.2 56 26 14 12000 rfl).2.2 (by decide) rfl (by omega) (gd DX10_out_0 20 rfl) ?_
        exact g_iret C (by omega) (by omega) ⟨by rw [hI_sI, if_neg (by omega)], rfl⟩ (gd DX10_out_0 21 rfl)
      · exact absurd c26 (by decide)
    · exact no (fun q => c10 q.2)
theorem e_m_nextRest (hm : mSh m h) {N s i k : Nat} (g : GOk m h N) (hi : i < 16500) (hrs : hI h (m + 23) i = nI s) (hs : s < N) (hk : k < 24) (hcl : ∀ t, t < N → ¬ hI h (m + 13) t = 0 → ∃ c, c < 16500 ∧ hI h (m + 20) t = nI c) : EvF w 1 0 0 yX10_nextRest cX10_nextRest 4 (some .int) [.ref m, .int (nI i), .int (nI k)] h (some (.int (if uNx m h (24 * s + k) = -1 then -1 else hI h (m + 22) (hI h (m + 20) (uNx m h (24 * s + k)).toNatClampNeg).toNatClampNeg))) h := by
  refine g_start (by decide) (Nat.le_of_ble_eq_true rfl) [(0, _), (1, _), (2, _)] rfl (fun z hfl C => ?_)
  refine g_aload_n C (gd DX10_nextRest_0 0 rfl) 0 rfl rfl ?_
  refine g_aload_n C (gd DX10_nextRest_0 1 rfl) 0 rfl rfl ?_
  refine g_getr (ci := 10) (k := 52) C rfl (by decide) rfl lf_TestJudgeModel_90 hm.1 (hm.2 52 23 12 16500 rfl).1 (gd DX10_nextRest_0 2 rfl) ?_
  refine g_iload_n C (gd DX10_nextRest_0 3 rfl) 1 rfl rfl ?_
  refine g_iaj (j := i) C (hm.2 52 23 12 16500 rfl).2.1 (hm.2 52 23 12 16500 rfl).2.2 (by decide) rfl (by omega) (gd DX10_nextRest_0 4 rfl) ?_
  rw [hrs]
  refine g_iload_n C (gd DX10_nextRest_0 5 rfl) 2 rfl rfl ?_
  refine g_cV1 (ci := 10) C [_, _] mX10_usefulNext lm_TestJudgeModel_399 (by exact hm.1) rfl rfl (e_m_usefulNext hm g.1 hs hk g.2.2) hfl (by decide) (by decide) (by omega) (by omega) rfl rfl (Nat.le_of_ble_eq_true rfl) (gd DX10_nextRest_0 6 rfl) ?_
  refine g_istore_n (lv' := [(0, _), (1, _), (2, _), (3, _)]) C (gd DX10_nextRest_0 7 rfl) [1, 2, 3, 0] rfl (by decide) rfl ?_
  refine g_iload_n C (gd DX10_nextRest_0 8 rfl) 3 rfl rfl ?_
  refine g_iconst (v := -1) C (gd DX10_nextRest_0 9 rfl) (by decide) ?_
  refine g_icmp_ne C 21 (gd DX10_nextRest_0 10 rfl) (by decide) (fun c14 => ?_) (fun c14 => ?_)
  · have hg1 := g.1
    rcases uNx_cases g hs hk with q | ⟨j, hj, q, _, uj⟩
    · exact absurd q c14
    · rw [if_neg c14]
      obtain ⟨c, hc, hcc⟩ := hcl j hj uj
      rw [q, nI_clamp (by omega), hcc, nI_clamp (by omega)]
      refine g_aload_n C (gd DX10_nextRest_0 13 rfl) 0 rfl rfl ?_
      refine g_getr (ci := 10) (k := 51) C rfl (by decide) rfl lf_TestJudgeModel_87 hm.1 (hm.2 51 22 12 16500 rfl).1 (gd DX10_nextRest_0 14 rfl) ?_
      refine g_aload_n C (gd DX10_nextRest_0 15 rfl) 0 rfl rfl ?_
      refine g_getr (ci := 10) (k := 49) C rfl (by decide) rfl lf_TestJudgeModel_81 hm.1 (hm.2 49 20 12 16500 rfl).1 (gd DX10_nextRest_0 16 rfl) ?_
      refine g_iload_n C (gd DX10_nextRest_0 17 rfl) 3 rfl rfl ?_
      refine g_iaj (j := j) C (hm.2 49 20 12 16500 rfl).2.1 (hm.2 49 20 12 16500 rfl).2.2 (by decide) rfl (by omega) (gd DX10_nextRest_0 18 rfl) ?_
      rw [hcc]
      refine g_iaj (j := c) C (hm.2 51 22 12 16500 rfl).2.1 (hm.2 51 22 12 16500 rfl).2.2 (by decide) rfl (by omega) (gd DX10_nextRest_0 19 rfl) ?_
      exact g_iret C (by omega) (by omega) ⟨rfl, rfl⟩ (gd DX10_nextRest_0 20 rfl)
  · refine g_iconst (v := -1) C (gd DX10_nextRest_0 11 rfl) (by decide) ?_
    refine g_goto (tgt := 32) C (gd DX10_nextRest_0 12 rfl) (by decide) ?_
    exact g_iret C (by omega) (by omega) ⟨by rw [if_pos c14], rfl⟩ (gd DX10_nextRest_0 20 rfl)
theorem e_m_feed (hm : mSh m h) {n : Nat} (hn : n ≤ 500) (ht : hI h m 10 = nI n) (a b c d e : Int32) : EvF w 1 0 0 yX10_feed cX10_feed 6 (some .int) [.ref m, .int a, .int b, .int c, .int d, .int e] h (some (.int (if n + 20 ≤ 500 then nI (n + 20) else -1))) (if n + 20 ≤ 500 then tW m (tW m (tW m (tW m (tW m (sI h m 1 0) n a) (n + 4) b) (n + 8) c) (n + 12) d) (n + 16) e else sI h m 1 0) := by
  refine g_start (by decide) (Nat.le_of_ble_eq_true rfl) [(0, _), (1, _), (2, _), (3, _), (4, _), (5, _)] rfl (fun z hfl C => ?_)
  have ht1 : hI (sI h m 1 0) m 10 = nI n := by rw [hI_sI, if_neg (by omega)]; exact ht
  refine g_aload_n C (gd DX10_feed_0 0 rfl) 0 rfl rfl ?_
  refine g_iconst (v := 0) C (gd DX10_feed_0 1 rfl) (by decide) ?_
  refine g_puti (ci := 10) (k := 1) C rfl (by decide) rfl lf_TestJudgeModel_103 hm.1 (Or.inl rfl) rfl (gd DX10_feed_0 2 rfl) ?_
  refine g_aload_n C (gd DX10_feed_0 3 rfl) 0 rfl rfl ?_
  refine g_geti (ci := 10) (k := 10) C rfl (by decide) rfl lf_TestJudgeModel_148 hm.1 (gd DX10_feed_0 4 rfl) ?_
  rw [ht1]
  refine g_bipush (v := 20) C (gd DX10_feed_0 5 rfl) (by decide) ?_
  refine g_iadd C (gd DX10_feed_0 6 rfl) ?_
  refine g_sipush (v := 500) C (gd DX10_feed_0 7 rfl) (by decide) ?_
  rw [show nI n + 20 = nI (n + 20) from nI_add n 20]
  refine g_icmp_le C 20 (gd DX10_feed_0 8 rfl) (by decide) (fun c15 => ?_) (fun c15 => ?_)
  · have hc : n + 20 ≤ 500 := (nI_leI (by omega) (by decide)).mp c15
    rw [if_pos hc, if_pos hc]
    refine g_aload_n C (gd DX10_feed_0 11 rfl) 0 rfl rfl ?_
    refine g_iload_n C (gd DX10_feed_0 12 rfl) 1 rfl rfl ?_
    refine g_cV0 (v := .null) (ci := 10) C [_] mX10_come lm_TestJudgeModel_151 (by exact hm.1) rfl rfl (e_m_come (h := sI h m 1 0) hm (by omega) ht1 a) hfl (by decide) (by decide) (by omega) (by omega) rfl rfl (Nat.le_of_ble_eq_true rfl) (gd DX10_feed_0 13 rfl) ?_
    refine g_aload_n C (gd DX10_feed_0 14 rfl) 0 rfl rfl ?_
    refine g_iload_n C (gd DX10_feed_0 15 rfl) 2 rfl rfl ?_
    refine g_cV0 (v := .null) (ci := 10) C [_] mX10_come lm_TestJudgeModel_151 (by exact hm.1) rfl rfl (e_m_come (h := tW m (sI h m 1 0) n a) (n := n + 4) hm (by omega) tW_10 b) hfl (by decide) (by decide) (by omega) (by omega) rfl rfl (Nat.le_of_ble_eq_true rfl) (gd DX10_feed_0 16 rfl) ?_
    refine g_aload_n C (gd DX10_feed_0 17 rfl) 0 rfl rfl ?_
    refine g_iload_n C (gd DX10_feed_0 18 rfl) 3 rfl rfl ?_
    refine g_cV0 (v := .null) (ci := 10) C [_] mX10_come lm_TestJudgeModel_151 (by exact hm.1) rfl rfl (e_m_come (h := tW m (tW m (sI h m 1 0) n a) (n + 4) b) (n := n + 8) hm (by omega) tW_10 c) hfl (by decide) (by decide) (by omega) (by omega) rfl rfl (Nat.le_of_ble_eq_true rfl) (gd DX10_feed_0 19 rfl) ?_
    refine g_aload_n C (gd DX10_feed_0 20 rfl) 0 rfl rfl ?_
    refine g_iload C (gd DX10_feed_0 21 rfl) 4 rfl ?_
    refine g_cV0 (v := .null) (ci := 10) C [_] mX10_come lm_TestJudgeModel_151 (by exact hm.1) rfl rfl (e_m_come (h := tW m (tW m (tW m (sI h m 1 0) n a) (n + 4) b) (n + 8) c) (n := n + 12) hm (by omega) tW_10 d) hfl (by decide) (by decide) (by omega) (by omega) rfl rfl (Nat.le_of_ble_eq_true rfl) (gd DX10_feed_0 22 rfl) ?_
    refine g_aload_n C (gd DX10_feed_0 23 rfl) 0 rfl rfl ?_
    refine g_iload C (gd DX10_feed_0 24 rfl) 5 rfl ?_
    refine g_cV0 (v := .null) (ci := 10) C [_] mX10_come lm_TestJudgeModel_151 (by exact hm.1) rfl rfl (e_m_come (h := tW m (tW m (tW m (tW m (sI h m 1 0) n a) (n + 4) b) (n + 8) c) (n + 12) d) (n := n + 16) hm (by omega) tW_10 e) hfl (by decide) (by decide) (by omega) (by omega) rfl rfl (Nat.le_of_ble_eq_true rfl) (gd DX10_feed_0 25 rfl) ?_
    refine g_aload_n C (gd DX10_feed_0 26 rfl) 0 rfl rfl ?_
    refine g_geti (ci := 10) (k := 10) C rfl (by decide) rfl lf_TestJudgeModel_148 hm.1 (gd DX10_feed_0 27 rfl) ?_
    rw [tW_10]
    exact g_iret C (by omega) (by omega) ⟨rfl, rfl⟩ (gd DX10_feed_0 28 rfl)
  · have hc : ¬ n + 20 ≤ 500 := fun q => c15 ((nI_leI (by omega) (by decide)).mpr q)
    rw [if_neg hc, if_neg hc]
    refine g_iconst (v := -1) C (gd DX10_feed_0 9 rfl) (by decide) ?_
    exact g_iret C (by omega) (by omega) ⟨rfl, rfl⟩ (gd DX10_feed_0 10 rfl)
/-- a state whose class was not met yet takes the next rest -/
theorem e_m_meets (hm : mSh m h) {s c q : Nat} (hs : s < 16500) (hc : hI h (m + 20) s = nI c) (hc2 : c < 16500) (hq : hI h m 54 = nI q) (hq2 : q < 16500) (f : Int32) : EvF w 0 0 0 yX10_meets cX10_meets 3 none [.ref m, .int (nI s), .int f] h none (if hI h (m + 22) c = -1 then sI (sI (sI (sI h (m + 22) c (nI q)) (m + 23) q (nI s)) (m + 24) q f) m 54 (nI (q + 1)) else h) := by
  refine g_start (by decide) (Nat.le_of_ble_eq_true rfl) [(0, _), (1, _), (2, _)] rfl (fun z hfl C => ?_)
  refine g_aload_n C (gd DX10_meets_0 0 rfl) 0 rfl rfl ?_
  refine g_getr (ci := 10) (k := 51) C rfl (by decide) rfl lf_TestJudgeModel_87 hm.1 (hm.2 51 22 12 16500 rfl).1 (gd DX10_meets_0 1 rfl) ?_
  refine g_aload_n C (gd DX10_meets_0 2 rfl) 0 rfl rfl ?_
  refine g_getr (ci := 10) (k := 49) C rfl (by decide) rfl lf_TestJudgeModel_81 hm.1 (hm.2 49 20 12 16500 rfl).1 (gd DX10_meets_0 3 rfl) ?_
  refine g_iload_n C (gd DX10_meets_0 4 rfl) 1 rfl rfl ?_
  refine g_iaj (j := s) C (hm.2 49 20 12 16500 rfl).2.1 (hm.2 49 20 12 16500 rfl).2.2 (by decide) rfl (by omega) (gd DX10_meets_0 5 rfl) ?_
  rw [hc]
  refine g_iaj (j := c) C (hm.2 51 22 12 16500 rfl).2.1 (hm.2 51 22 12 16500 rfl).2.2 (by decide) rfl (by omega) (gd DX10_meets_0 6 rfl) ?_
  refine g_iconst (v := -1) C (gd DX10_meets_0 7 rfl) (by decide) ?_
  refine g_icmp_eq C 16 (gd DX10_meets_0 8 rfl) (by decide) (fun c12 => ?_) (fun c12 => ?_)
  · rw [if_pos c12]
    refine g_aload_n C (gd DX10_meets_0 10 rfl) 0 rfl rfl ?_
    refine g_getr (ci := 10) (k := 51) C rfl (by decide) rfl lf_TestJudgeModel_87 hm.1 (hm.2 51 22 12 16500 rfl).1 (gd DX10_meets_0 11 rfl) ?_
    refine g_aload_n C (gd DX10_meets_0 12 rfl) 0 rfl rfl ?_
    refine g_getr (ci := 10) (k := 49) C rfl (by decide) rfl lf_TestJudgeModel_81 hm.1 (hm.2 49 20 12 16500 rfl).1 (gd DX10_meets_0 13 rfl) ?_
    refine g_iload_n C (gd DX10_meets_0 14 rfl) 1 rfl rfl ?_
    refine g_iaj (j := s) C (hm.2 49 20 12 16500 rfl).2.1 (hm.2 49 20 12 16500 rfl).2.2 (by decide) rfl (by omega) (gd DX10_meets_0 15 rfl) ?_
    rw [hc]
    refine g_aload_n C (gd DX10_meets_0 16 rfl) 0 rfl rfl ?_
    refine g_geti (ci := 10) (k := 54) C rfl (by decide) rfl lf_TestJudgeModel_457 hm.1 (gd DX10_meets_0 17 rfl) ?_
    rw [hq]
    refine g_isj (j := c) C (hm.2 51 22 12 16500 rfl).2.1 (hm.2 51 22 12 16500 rfl).2.2 (by decide) rfl (by omega) (gd DX10_meets_0 18 rfl) ?_
    refine g_aload_n C (gd DX10_meets_0 19 rfl) 0 rfl rfl ?_
    refine g_getr (ci := 10) (k := 52) C rfl (by decide) rfl lf_TestJudgeModel_90 hm.1 (hm.2 52 23 12 16500 rfl).1 (gd DX10_meets_0 20 rfl) ?_
    refine g_aload_n C (gd DX10_meets_0 21 rfl) 0 rfl rfl ?_
    refine g_geti (ci := 10) (k := 54) C rfl (by decide) rfl lf_TestJudgeModel_457 hm.1 (gd DX10_meets_0 22 rfl) ?_
    rw [show ∀ u : Int32, hI (sI h (m + 22) c u) m 54 = nI q from fun u => by rw [hI_sI, if_neg (by omega)]; exact hq]
    refine g_iload_n C (gd DX10_meets_0 23 rfl) 1 rfl rfl ?_
    refine g_isj (j := q) C (hm.2 52 23 12 16500 rfl).2.1 (hm.2 52 23 12 16500 rfl).2.2 (by decide) rfl (by omega) (gd DX10_meets_0 24 rfl) ?_
    refine g_aload_n C (gd DX10_meets_0 25 rfl) 0 rfl rfl ?_
    refine g_getr (ci := 10) (k := 53) C rfl (by decide) rfl lf_TestJudgeModel_93 hm.1 (hm.2 53 24 12 16500 rfl).1 (gd DX10_meets_0 26 rfl) ?_
    refine g_aload_n C (gd DX10_meets_0 27 rfl) 0 rfl rfl ?_
    refine g_geti (ci := 10) (k := 54) C rfl (by decide) rfl lf_TestJudgeModel_457 hm.1 (gd DX10_meets_0 28 rfl) ?_
    rw [show ∀ u v : Int32, hI (sI (sI h (m + 22) c u) (m + 23) q v) m 54 = nI q from fun u v => by rw [hI_sI, if_neg (by omega), hI_sI, if_neg (by omega)]; exact hq]
    refine g_iload_n C (gd DX10_meets_0 29 rfl) 2 rfl rfl ?_
    refine g_isj (j := q) C (hm.2 53 24 12 16500 rfl).2.1 (hm.2 53 24 12 16500 rfl).2.2 (by decide) rfl (by omega) (gd DX10_meets_0 30 rfl) ?_
    refine g_aload_n C (gd DX10_meets_0 31 rfl) 0 rfl rfl ?_
    refine g_dup C (gd DX10_meets_0 32 rfl) rfl ?_
    refine g_geti (ci := 10) (k := 54) C rfl (by decide) rfl lf_TestJudgeModel_457 hm.1 (gd DX10_meets_0 33 rfl) ?_
    rw [show ∀ u v x : Int32, hI (sI (sI (sI h (m + 22) c u) (m + 23) q v) (m + 24) q x) m 54 = nI q from fun u v x => by rw [hI_sI, if_neg (by omega), hI_sI, if_neg (by omega), hI_sI, if_neg (by omega)]; exact hq]
    refine g_iconst (v := 1) C (gd DX10_meets_0 34 rfl) (by decide) ?_
    refine g_iadd C (gd DX10_meets_0 35 rfl) ?_
    rw [nI_1]
    refine g_puti (ci := 10) (k := 54) C rfl (by decide) rfl lf_TestJudgeModel_457 hm.1 (Or.inl rfl) rfl (gd DX10_meets_0 36 rfl) ?_
    exact g_vret C (by omega) (by omega) ⟨rfl, rfl⟩ (gd DX10_meets_0 37 rfl)
  · rw [if_neg c12]
    exact g_vret C (by omega) (by omega) ⟨rfl, rfl⟩ (gd DX10_meets_0 9 rfl)
end M19
