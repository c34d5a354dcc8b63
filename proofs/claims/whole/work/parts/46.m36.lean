/-! calls over the states of one program or two: atoms, least, first, telling, whose, strongest, within, count, both -/
theorem hasB_iff {v : Int32} {b : Nat} (hb : b < 32) : hasB v (nI b) ↔ v.toBitVec.getLsbD b = true := by
  have e1 : ((nI b &&& 31).toBitVec.smod 32).toNat = b := by
    have : ∀ b, b < 32 → ((nI b &&& 31).toBitVec.smod 32).toNat = b := by decide
    exact this b hb
  have e2 : (v >>> (nI b &&& 31)).toBitVec = v.toBitVec.sshiftRight b := by
    rw [Int32.toBitVec_shiftRight]
    show v.toBitVec.sshiftRight _ = _
    rw [e1]
  unfold hasB
  rw [← Int32.toBitVec_inj, Int32.toBitVec_and, e2]
  show v.toBitVec.sshiftRight b &&& 1#32 = 1#32 ↔ _
  constructor
  · intro q
    have h1 : (v.toBitVec.sshiftRight b &&& 1#32).getLsbD 0 = true := by rw [q]; rfl
    rw [BitVec.getLsbD_and, BitVec.getLsbD_sshiftRight] at h1
    simpa [hb] using h1
  · intro q
    refine BitVec.eq_of_getLsbD_eq (fun i hi => ?_)
    rw [BitVec.getLsbD_and]
    by_cases e : i = 0
    · subst e; simp [BitVec.getLsbD_sshiftRight, hb, q]
    · simp [BitVec.getLsbD_one, e]
theorem bit_ex {v : Int32} (hv : ¬ v = 0) : ∃ b, b < 32 ∧ hasB v (nI b) := by
  apply Classical.byContradiction
  intro q
  refine hv (Int32.toBitVec_inj.mp (BitVec.eq_of_getLsbD_eq (fun i hi => ?_)))
  have h2 : ¬ v.toBitVec.getLsbD i = true := fun e => q ⟨i, hi, (hasB_iff hi).mpr e⟩
  rw [Bool.not_eq_true] at h2
  rw [h2]
  simp
/-- the least of a set -/
def lsbP (v : Int32) (k : Nat) : Prop := k < 32 ∧ hasB v (nI k) ∧ ∀ t, t < k → ¬ hasB v (nI t)
theorem and_small {a b : Int32} {k : Nat} (hb : b = nI k) (hk : k < 2 ^ 32) : ∃ n, n ≤ k ∧ a &&& b = nI n := by
  refine ⟨(a.toBitVec &&& b.toBitVec).toNat, ?_, Int32.toBitVec_inj.mp ?_⟩
  · rw [BitVec.toNat_and, hb]
    show _ &&& (BitVec.ofNat 32 k).toNat ≤ k
    rw [BitVec.toNat_ofNat, Nat.mod_eq_of_lt hk]
    exact Nat.and_le_right
  · rw [Int32.toBitVec_and]
    show _ = BitVec.ofNat 32 _
    rw [BitVec.ofNat_toNat, BitVec.setWidth_eq]
theorem allF_n {t : Nat} (ht : t ≤ 3) : ∃ k, k < 256 ∧ allF (nI t) = nI k := by
  rcases (show t = 0 ∨ t = 1 ∨ t = 2 ∨ t = 3 by omega) with rfl | rfl | rfl | rfl
  · exact ⟨1, by decide, by decide⟩
  · exact ⟨3, by decide, by decide⟩
  · exact ⟨15, by decide, by decide⟩
  · exact ⟨255, by decide, by decide⟩
theorem kGd_n {P : kP} {t : Nat} (ht : t ≤ 3) (hP : P.1 = nI t) (key : Int64) : ∃ k, k < 256 ∧ kGd P key = nI k := by
  obtain ⟨k, hk, e⟩ := allF_n ht
  unfold kGd
  rw [hP, e, Int32.and_comm]
  obtain ⟨n, hn, e2⟩ := and_small (a := endF P.2.2.2.2.1 (kBa key) (P.2.2.2.2.1 1) P.2.2.2.2.2.2.2 ^^^ -1) (rfl : nI k = nI k) (by omega)
  exact ⟨n, by omega, e2⟩
theorem LD.e1n {P : kP} {m N t : Nat} {h : HS} (l : LD P m h N) (ht : t ≤ 3) (hP : P.1 = nI t) : ∀ s, s < N → ∃ x, x < 256 ∧ hI h (m + 8) s = nI x := by
  intro s hs
  have hlen : s < (bfs (kSc P) (24 * N)).length := by rw [l.2.2.2.1]; exact hs
  obtain ⟨q, hq⟩ : ∃ q, (bfs (kSc P) (24 * N))[s]? = some q := ⟨_, List.getElem?_eq_getElem hlen⟩
  rw [(l.2.2.2.2.2 s q hq).1]
  obtain ⟨k, hk, e⟩ := kGd_n ht hP q.1
  obtain ⟨n, hn, e2⟩ := and_small (a := endF P.2.2.1 (kMi q.1) (if kbg q.1 = 0 then 0 else P.2.2.1 1) P.2.2.2.2.2.1) e (by omega)
  exact ⟨n, by omega, e2⟩
theorem k_cases {k : Int32} (hk : -1 ≤ k) : k = -1 ∨ ∃ j, j < 2 ^ 31 ∧ k = nI j := by
  by_cases e : 0 ≤ k
  · obtain ⟨j, hj, rfl⟩ := nI_of (Int32.not_lt.mpr e)
    exact Or.inr ⟨j, hj, rfl⟩
  · left
    have h1 := Int32.le_iff_toInt_le.mp hk
    have h2 := Int32.lt_iff_toInt_lt.mp (Int32.not_le.mp e)
    rw [show (-1 : Int32).toInt = -1 from by decide] at h1
    rw [show (0 : Int32).toInt = 0 from by decide] at h2
    exact Int32.toInt_inj.mp (by rw [show (-1 : Int32).toInt = -1 from by decide]; omega)
section M36
variable {w : gD} {m : Nat} {h : HS}
theorem e_m_atoms_ {nt na np nf : Nat} {fw : Nat → Nat} (ok : mOK m h nt na np nf fw) (p : Int32) :
    Ev w 7 0 0 yX10_atoms_ cX10_atoms_ 2 (some .int) [.ref m, .int p] h (fun r' h' => (¬ (0 ≤ p ∧ p ≤ nI np - 1) ∧ r' = some (.int (-1)) ∧ pQ m h h' 2) ∨ ∃ r, r < np ∧ p = nI r ∧ ∃ h1 N, LDU (P1 m h nf r) m h1 N ∧ r' = some (.int (hI h1 (m + 8) 0)) ∧ pQ m h h' 0) := by
  obtain ⟨hm, hnt, hna, hnp, hF, hw⟩ := ok
  refine g_start (by decide) (Nat.le_of_ble_eq_true rfl) [(0, _), (1, _)] rfl (fun z hfl C => ?_)
  refine g_aload_n C (gd DX10_atoms__0 0 rfl) 0 rfl rfl ?_
  refine g_iload_n C (gd DX10_atoms__0 1 rfl) 1 rfl rfl ?_
  refine g_cV1 (ci := 10) C [_] mX10_isProgram lm_TestJudgeModel_116 (by exact hm.1) rfl rfl (e_m_isProgram hm _) hfl (by decide) (by decide) (by omega) (by omega) rfl rfl (Nat.le_of_ble_eq_true rfl) (gd DX10_atoms__0 2 rfl) ?_
  rw [hnp.2]
  by_cases hp : 0 ≤ p ∧ p ≤ nI np - 1
  rotate_left
  · rw [b1_f hp]
    refine g_if_ne C 14 (gd DX10_atoms__0 3 rfl) (by decide) (fun c5 => ?_) (fun c5 => ?_)
    · exact absurd rfl c5
    · refine g_aload_n C (gd DX10_atoms__0 4 rfl) 0 rfl rfl ?_
      refine g_iconst (v := 2) C (gd DX10_atoms__0 5 rfl) (by decide) ?_
      refine g_cV1 (ci := 10) C [_] mX10_refuse lm_TestJudgeModel_331 (by exact hm.1) rfl rfl (e_m_refuse hm _) hfl (by decide) (by decide) (by omega) (by omega) rfl rfl (Nat.le_of_ble_eq_true rfl) (gd DX10_atoms__0 6 rfl) ?_
      exact g_iret C (by omega) (by omega) (Or.inl ⟨hp, rfl, (mKp.rf m h).q 2⟩) (gd DX10_atoms__0 7 rfl)
  rw [b1_t hp]
  refine g_if_ne C 14 (gd DX10_atoms__0 3 rfl) (by decide) (fun c5 => ?_) (fun c5 => ?_)
  rotate_left
  · exact absurd c5 (by decide)
  obtain ⟨r, hr, rfl⟩ := below_of (by omega) hp
  obtain ⟨wr, lr, hwr⟩ := hw r hr
  refine g_aload_n C (gd DX10_atoms__0 8 rfl) 0 rfl rfl ?_
  refine g_iload_n C (gd DX10_atoms__0 9 rfl) 1 rfl rfl ?_
  refine g_callV (ci := 10) C [_] mX10_laysOne lm_TestJudgeModel_396 (by exact hm.1) rfl rfl (e_m_laysOne hm hF (by omega : r < 8) lr hwr) hfl (by decide) (by decide) (by omega) (by omega) rfl rfl (Nat.le_of_ble_eq_true rfl) (gd DX10_atoms__0 10 rfl) (fun r h2 hp => ?_)
  obtain ⟨rfl, hl⟩ := hp
  obtain ⟨N, hL, hk⟩ := lay_1 hF (by omega : r < 8) lr hwr hl
  have hm2 : mSh m h2 := hm.fr hk.1
  show GW z w 2 _ 0 0 _ _ [] _
  refine g_aload_n C (gd DX10_atoms__0 11 rfl) 0 rfl rfl ?_
  refine g_aload_n C (gd DX10_atoms__0 12 rfl) 0 rfl rfl ?_
  refine g_getr (ci := 10) (k := 36) C rfl (by decide) rfl lf_TestJudgeModel_44 hm2.1 (hm2.2 36 8 12 16500 rfl).1 (gd DX10_atoms__0 13 rfl) ?_
  refine g_iconst (v := 0) C (gd DX10_atoms__0 14 rfl) (by decide) ?_
  refine g_iaj (j := 0) C (hm2.2 36 8 12 16500 rfl).2.1 (hm2.2 36 8 12 16500 rfl).2.2 (by decide) rfl (by omega) (gd DX10_atoms__0 15 rfl) ?_
  refine g_cV1 (ci := 10) C [_] mX10_gives lm_TestJudgeModel_349 (by exact hm2.1) rfl rfl (e_m_gives hm2 _) hfl (by decide) (by decide) (by omega) (by omega) rfl rfl (Nat.le_of_ble_eq_true rfl) (gd DX10_atoms__0 16 rfl) ?_
  exact g_iret C (by omega) (by omega) (Or.inr ⟨r, hr, rfl, _, N, hL, rfl, hk.q 0⟩) (gd DX10_atoms__0 17 rfl)
theorem e_m_least {nt na np nf : Nat} {fw : Nat → Nat} (ok : mOK m h nt na np nf fw) (p : Int32) :
    Ev w 7 0 0 yX10_least cX10_least 3 (some .int) [.ref m, .int p] h (fun r' h' => (¬ (0 ≤ p ∧ p ≤ nI np - 1) ∧ r' = some (.int (-1)) ∧ pQ m h h' 2) ∨ ∃ r, r < np ∧ p = nI r ∧ ∃ h1 N, LDU (P1 m h nf r) m h1 N ∧ ((∃ s, s < N ∧ ¬ hI h1 (m + 8) s = 0 ∧ (∀ t, t < s → hI h1 (m + 8) t = 0) ∧ r' = some (.int (hI h1 (m + 12) s)) ∧ pQ m h h' 0) ∨ ((∀ t, t < N → hI h1 (m + 8) t = 0) ∧ r' = some (.int (-1)) ∧ pQ m h h' 5))) := by
  obtain ⟨hm, hnt, hna, hnp, hF, hw⟩ := ok
  refine g_start (by decide) (Nat.le_of_ble_eq_true rfl) [(0, _), (1, _)] rfl (fun z hfl C => ?_)
  refine g_aload_n C (gd DX10_least_0 0 rfl) 0 rfl rfl ?_
  refine g_iload_n C (gd DX10_least_0 1 rfl) 1 rfl rfl ?_
  refine g_cV1 (ci := 10) C [_] mX10_isProgram lm_TestJudgeModel_116 (by exact hm.1) rfl rfl (e_m_isProgram hm _) hfl (by decide) (by decide) (by omega) (by omega) rfl rfl (Nat.le_of_ble_eq_true rfl) (gd DX10_least_0 2 rfl) ?_
  rw [hnp.2]
  by_cases hp : 0 ≤ p ∧ p ≤ nI np - 1
  rotate_left
  · rw [b1_f hp]
    refine g_if_ne C 14 (gd DX10_least_0 3 rfl) (by decide) (fun c5 => ?_) (fun c5 => ?_)
    · exact absurd rfl c5
    · refine g_aload_n C (gd DX10_least_0 4 rfl) 0 rfl rfl ?_
      refine g_iconst (v := 2) C (gd DX10_least_0 5 rfl) (by decide) ?_
      refine g_cV1 (ci := 10) C [_] mX10_refuse lm_TestJudgeModel_331 (by exact hm.1) rfl rfl (e_m_refuse hm _) hfl (by decide) (by decide) (by omega) (by omega) rfl rfl (Nat.le_of_ble_eq_true rfl) (gd DX10_least_0 6 rfl) ?_
      exact g_iret C (by omega) (by omega) (Or.inl ⟨hp, rfl, (mKp.rf m h).q 2⟩) (gd DX10_least_0 7 rfl)
  rw [b1_t hp]
  refine g_if_ne C 14 (gd DX10_least_0 3 rfl) (by decide) (fun c5 => ?_) (fun c5 => ?_)
  rotate_left
  · exact absurd c5 (by decide)
  obtain ⟨r, hr, rfl⟩ := below_of (by omega) hp
  obtain ⟨wr, lr, hwr⟩ := hw r hr
  refine g_aload_n C (gd DX10_least_0 8 rfl) 0 rfl rfl ?_
  refine g_iload_n C (gd DX10_least_0 9 rfl) 1 rfl rfl ?_
  refine g_callV (ci := 10) C [_] mX10_laysOne lm_TestJudgeModel_396 (by exact hm.1) rfl rfl (e_m_laysOne hm hF (by omega : r < 8) lr hwr) hfl (by decide) (by decide) (by omega) (by omega) rfl rfl (Nat.le_of_ble_eq_true rfl) (gd DX10_least_0 10 rfl) (fun r h2 hp => ?_)
  obtain ⟨rfl, hl⟩ := hp
  obtain ⟨N, hL, hk⟩ := lay_1 hF (by omega : r < 8) lr hwr hl
  have g := hL.1.gok
  have hg1 := g.1
  have hm2 : mSh m h2 := hm.fr hk.1
  show GW z w 3 _ 0 0 _ _ [] _
  refine g_aload_n C (gd DX10_least_0 11 rfl) 0 rfl rfl ?_
  refine g_callV (ci := 10) C [] mX10_firstEnd lm_TestJudgeModel_413 (by exact hm2.1) rfl rfl (e_m_firstEnd hm2 g.1 g.2.1) hfl (by decide) (by decide) (by omega) (by omega) rfl rfl (Nat.le_of_ble_eq_true rfl) (gd DX10_least_0 12 rfl) (fun r h2 hp => ?_)
  obtain ⟨rfl, hp⟩ := hp
  rcases hp with ⟨s, hs, rfl, hs2, hs3⟩ | ⟨rfl, hs2⟩
  · show GW z w 3 _ 0 0 _ _ [.int (nI s)] _
    refine g_istore_n (lv' := [(0, _), (1, _), (2, _)]) C (gd DX10_least_0 13 rfl) [1, 2, 0] rfl (by decide) rfl ?_
    refine g_iload_n C (gd DX10_least_0 14 rfl) 2 rfl rfl ?_
    refine g_iconst (v := -1) C (gd DX10_least_0 15 rfl) (by decide) ?_
    refine g_icmp_ne C 37 (gd DX10_least_0 16 rfl) (by decide) (fun c26 => ?_) (fun c26 => ?_)
    · refine g_aload_n C (gd DX10_least_0 21 rfl) 0 rfl rfl ?_
      refine g_aload_n C (gd DX10_least_0 22 rfl) 0 rfl rfl ?_
      refine g_getr (ci := 10) (k := 40) C rfl (by decide) rfl lf_TestJudgeModel_56 hm2.1 (hm2.2 40 12 12 16500 rfl).1 (gd DX10_least_0 23 rfl) ?_
      refine g_iload_n C (gd DX10_least_0 24 rfl) 2 rfl rfl ?_
      refine g_iaj (j := s) C (hm2.2 40 12 12 16500 rfl).2.1 (hm2.2 40 12 12 16500 rfl).2.2 (by decide) rfl (by omega) (gd DX10_least_0 25 rfl) ?_
      refine g_cV1 (ci := 10) C [_] mX10_gives lm_TestJudgeModel_349 (by exact hm2.1) rfl rfl (e_m_gives hm2 _) hfl (by decide) (by decide) (by omega) (by omega) rfl rfl (Nat.le_of_ble_eq_true rfl) (gd DX10_least_0 26 rfl) ?_
      exact g_iret C (by omega) (by omega) (Or.inr ⟨r, hr, rfl, _, N, hL, Or.inl ⟨s, hs, hs2, hs3, rfl, hk.q 0⟩⟩) (gd DX10_least_0 27 rfl)
    · exact absurd c26 (nI_m1 (by omega))
  · show GW z w 3 _ 0 0 _ _ [.int (-1)] _
    refine g_istore_n (lv' := [(0, _), (1, _), (2, _)]) C (gd DX10_least_0 13 rfl) [1, 2, 0] rfl (by decide) rfl ?_
    refine g_iload_n C (gd DX10_least_0 14 rfl) 2 rfl rfl ?_
    refine g_iconst (v := -1) C (gd DX10_least_0 15 rfl) (by decide) ?_
    refine g_icmp_ne C 37 (gd DX10_least_0 16 rfl) (by decide) (fun c26 => ?_) (fun c26 => ?_)
    · exact absurd rfl c26
    · refine g_aload_n C (gd DX10_least_0 17 rfl) 0 rfl rfl ?_
      refine g_iconst (v := 5) C (gd DX10_least_0 18 rfl) (by decide) ?_
      refine g_cV1 (ci := 10) C [_] mX10_refuse lm_TestJudgeModel_331 (by exact hm2.1) rfl rfl (e_m_refuse hm2 _) hfl (by decide) (by decide) (by omega) (by omega) rfl rfl (Nat.le_of_ble_eq_true rfl) (gd DX10_least_0 19 rfl) ?_
      refine g_goto (tgt := 47) C (gd DX10_least_0 20 rfl) (by decide) ?_
      exact g_iret C (by omega) (by omega) (Or.inr ⟨r, hr, rfl, _, N, hL, Or.inr ⟨hs2, rfl, hk.q 5⟩⟩) (gd DX10_least_0 27 rfl)
theorem e_m_first {nt na np nf : Nat} {fw : Nat → Nat} (ok : mOK m h nt na np nf fw) (p k : Int32) :
    Ev w 7 0 0 yX10_first cX10_first 4 (some .int) [.ref m, .int p, .int k] h (fun r' h' => (¬ -1 ≤ k ∧ r' = some (.int (-1)) ∧ pQ m h h' 1) ∨ (-1 ≤ k ∧ ¬ (0 ≤ p ∧ p ≤ nI np - 1) ∧ r' = some (.int (-1)) ∧ pQ m h h' 2) ∨ (-1 ≤ k ∧ ∃ r, r < np ∧ p = nI r ∧ ∃ h1 N, LDU (P1 m h nf r) m h1 N ∧ ((∃ s n a, s < N ∧ ¬ hI h1 (m + 8) s = 0 ∧ (∀ t, t < s → hI h1 (m + 8) t = 0) ∧ wayP m h1 N s n ∧ lsbP (hI h1 (m + 8) s) a ∧ r' = some (.int (strA n s (hI h1 (m + 10)) (hI h1 (m + 11)) (nI a) k).1) ∧ pQ m h h' (strA n s (hI h1 (m + 10)) (hI h1 (m + 11)) (nI a) k).2) ∨ ((∀ t, t < N → hI h1 (m + 8) t = 0) ∧ r' = some (.int (-1)) ∧ pQ m h h' 5)))) := by
  obtain ⟨hm, hnt, hna, hnp, hF, hw⟩ := ok
  refine g_start (by decide) (Nat.le_of_ble_eq_true rfl) [(0, _), (1, _), (2, _)] rfl (fun z hfl C => ?_)
  refine g_iload_n C (gd DX10_first_0 0 rfl) 2 rfl rfl ?_
  refine g_iconst (v := -1) C (gd DX10_first_0 1 rfl) (by decide) ?_
  refine g_icmp_ge C 11 (gd DX10_first_0 2 rfl) (by decide) (fun c2 => ?_) (fun c2 => ?_)
  rotate_left
  · refine g_aload_n C (gd DX10_first_0 3 rfl) 0 rfl rfl ?_
    refine g_iconst (v := 1) C (gd DX10_first_0 4 rfl) (by decide) ?_
    refine g_cV1 (ci := 10) C [_] mX10_refuse lm_TestJudgeModel_331 (by exact hm.1) rfl rfl (e_m_refuse hm _) hfl (by decide) (by decide) (by omega) (by omega) rfl rfl (Nat.le_of_ble_eq_true rfl) (gd DX10_first_0 5 rfl) ?_
    exact g_iret C (by omega) (by omega) (Or.inl ⟨c2, rfl, (mKp.rf m h).q 1⟩) (gd DX10_first_0 6 rfl)
  have hk0 := k_cases c2
  refine g_aload_n C (gd DX10_first_0 7 rfl) 0 rfl rfl ?_
  refine g_iload_n C (gd DX10_first_0 8 rfl) 1 rfl rfl ?_
  refine g_cV1 (ci := 10) C [_] mX10_isProgram lm_TestJudgeModel_116 (by exact hm.1) rfl rfl (e_m_isProgram hm _) hfl (by decide) (by decide) (by omega) (by omega) rfl rfl (Nat.le_of_ble_eq_true rfl) (gd DX10_first_0 9 rfl) ?_
  rw [hnp.2]
  by_cases hp : 0 ≤ p ∧ p ≤ nI np - 1
  rotate_left
  · rw [b1_f hp]
    refine g_if_ne C 25 (gd DX10_first_0 10 rfl) (by decide) (fun c16 => ?_) (fun c16 => ?_)
    · exact absurd rfl c16
    · refine g_aload_n C (gd DX10_first_0 11 rfl) 0 rfl rfl ?_
      refine g_iconst (v := 2) C (gd DX10_first_0 12 rfl) (by decide) ?_
      refine g_cV1 (ci := 10) C [_] mX10_refuse lm_TestJudgeModel_331 (by exact hm.1) rfl rfl (e_m_refuse hm _) hfl (by decide) (by decide) (by omega) (by omega) rfl rfl (Nat.le_of_ble_eq_true rfl) (gd DX10_first_0 13 rfl) ?_
      exact g_iret C (by omega) (by omega) (Or.inr (Or.inl ⟨c2, hp, rfl, (mKp.rf m h).q 2⟩)) (gd DX10_first_0 14 rfl)
  rw [b1_t hp]
  refine g_if_ne C 25 (gd DX10_first_0 10 rfl) (by decide) (fun c16 => ?_) (fun c16 => ?_)
  rotate_left
  · exact absurd c16 (by decide)
  obtain ⟨r, hr, rfl⟩ := below_of (by omega) hp
  obtain ⟨wr, lr, hwr⟩ := hw r hr
  refine g_aload_n C (gd DX10_first_0 15 rfl) 0 rfl rfl ?_
  refine g_iload_n C (gd DX10_first_0 16 rfl) 1 rfl rfl ?_
  refine g_callV (ci := 10) C [_] mX10_laysOne lm_TestJudgeModel_396 (by exact hm.1) rfl rfl (e_m_laysOne hm hF (by omega : r < 8) lr hwr) hfl (by decide) (by decide) (by omega) (by omega) rfl rfl (Nat.le_of_ble_eq_true rfl) (gd DX10_first_0 17 rfl) (fun r h2 hp => ?_)
  obtain ⟨rfl, hl⟩ := hp
  obtain ⟨N, hL, hk⟩ := lay_1 hF (by omega : r < 8) lr hwr hl
  have g := hL.1.gok
  have hg1 := g.1
  have hm2 : mSh m h2 := hm.fr hk.1
  show GW z w 4 _ 0 0 _ _ [] _
  refine g_aload_n C (gd DX10_first_0 18 rfl) 0 rfl rfl ?_
  refine g_callV (ci := 10) C [] mX10_firstEnd lm_TestJudgeModel_413 (by exact hm2.1) rfl rfl (e_m_firstEnd hm2 g.1 g.2.1) hfl (by decide) (by decide) (by omega) (by omega) rfl rfl (Nat.le_of_ble_eq_true rfl) (gd DX10_first_0 19 rfl) (fun r h2 hp => ?_)
  obtain ⟨rfl, hp⟩ := hp
  rcases hp with ⟨s, hs, rfl, hs2, hs3⟩ | ⟨rfl, hs2⟩
  · show GW z w 4 _ 0 0 _ _ [.int (nI s)] _
    obtain ⟨b, hb, hb2⟩ := bit_ex hs2
    obtain ⟨n, hwy⟩ := hL.1.way hs
    refine g_istore_n (lv' := [(0, _), (1, _), (2, _), (3, _)]) C (gd DX10_first_0 20 rfl) [1, 2, 3, 0] rfl (by decide) rfl ?_
    refine g_iload_n C (gd DX10_first_0 21 rfl) 3 rfl rfl ?_
    refine g_iconst (v := -1) C (gd DX10_first_0 22 rfl) (by decide) ?_
    refine g_icmp_ne C 48 (gd DX10_first_0 23 rfl) (by decide) (fun c37 => ?_) (fun c37 => ?_)
    · refine g_aload_n C (gd DX10_first_0 28 rfl) 0 rfl rfl ?_
      refine g_iload_n C (gd DX10_first_0 29 rfl) 3 rfl rfl ?_
      refine g_aload_n C (gd DX10_first_0 30 rfl) 0 rfl rfl ?_
      refine g_getr (ci := 10) (k := 36) C rfl (by decide) rfl lf_TestJudgeModel_44 hm2.1 (hm2.2 36 8 12 16500 rfl).1 (gd DX10_first_0 31 rfl) ?_
      refine g_iload_n C (gd DX10_first_0 32 rfl) 3 rfl rfl ?_
      refine g_iaj (j := s) C (hm2.2 36 8 12 16500 rfl).2.1 (hm2.2 36 8 12 16500 rfl).2.2 (by decide) rfl (by omega) (gd DX10_first_0 33 rfl) ?_
      refine g_iconst (v := 0) C (gd DX10_first_0 34 rfl) (by decide) ?_
      refine g_callS C [_, _] mX10_least_ lm_TestJudgeModel_421 (e_m_least_ hb2 hb) hfl (by decide) (by decide) (by omega) (by omega) rfl rfl (Nat.le_of_ble_eq_true rfl) (gd DX10_first_0 35 rfl) (fun r h2 hp => ?_)
      obtain ⟨rfl, a, ha1, rfl, ha2, ha3⟩ := hp
      show GW z w 4 _ 0 0 _ _ [.int (nI a), .int (nI s), .ref m] _
      refine g_iload_n C (gd DX10_first_0 36 rfl) 2 rfl rfl ?_
      refine g_callV (ci := 10) C [_, _, _] mX10_stringAt lm_TestJudgeModel_424 (by exact hm2.1) rfl rfl (e_m_stringAt hm2 hg1 hs hwy (nI a) hk0) hfl (by decide) (by decide) (by omega) (by omega) rfl rfl (Nat.le_of_ble_eq_true rfl) (gd DX10_first_0 37 rfl) (fun r h2 hp => ?_)
      obtain ⟨WY, rfl, rfl⟩ := hp
      show GW z w 4 _ 0 0 _ _ [.int _] _
      exact g_iret C (by omega) (by omega) (Or.inr (Or.inr ⟨c2, r, hr, rfl, _, N, hL, Or.inl ⟨s, n, a, hs, hs2, hs3, hwy, ⟨by omega, ha2, ha3⟩, rfl, (hk.tr (mKp_sF WY (by omega) (by omega))).q _⟩⟩)) (gd DX10_first_0 38 rfl)
    · exact absurd c37 (nI_m1 (by omega))
  · show GW z w 4 _ 0 0 _ _ [.int (-1)] _
    refine g_istore_n (lv' := [(0, _), (1, _), (2, _), (3, _)]) C (gd DX10_first_0 20 rfl) [1, 2, 3, 0] rfl (by decide) rfl ?_
    refine g_iload_n C (gd DX10_first_0 21 rfl) 3 rfl rfl ?_
    refine g_iconst (v := -1) C (gd DX10_first_0 22 rfl) (by decide) ?_
    refine g_icmp_ne C 48 (gd DX10_first_0 23 rfl) (by decide) (fun c37 => ?_) (fun c37 => ?_)
    · exact absurd rfl c37
    · refine g_aload_n C (gd DX10_first_0 24 rfl) 0 rfl rfl ?_
      refine g_iconst (v := 5) C (gd DX10_first_0 25 rfl) (by decide) ?_
      refine g_cV1 (ci := 10) C [_] mX10_refuse lm_TestJudgeModel_331 (by exact hm2.1) rfl rfl (e_m_refuse hm2 _) hfl (by decide) (by decide) (by omega) (by omega) rfl rfl (Nat.le_of_ble_eq_true rfl) (gd DX10_first_0 26 rfl) ?_
      refine g_goto (tgt := 64) C (gd DX10_first_0 27 rfl) (by decide) ?_
      exact g_iret C (by omega) (by omega) (Or.inr (Or.inr ⟨c2, r, hr, rfl, _, N, hL, Or.inr ⟨hs2, rfl, hk.q 5⟩⟩)) (gd DX10_first_0 38 rfl)
theorem e_m_telling {nt na np nf : Nat} {fw : Nat → Nat} (ok : mOK m h nt na np nf fw) (p o k : Int32) :
    Ev w 7 0 0 yX10_telling cX10_telling 5 (some .int) [.ref m, .int p, .int o, .int k] h (fun r' h' => (¬ -1 ≤ k ∧ r' = some (.int (-1)) ∧ pQ m h h' 1) ∨ (-1 ≤ k ∧ ¬ ((0 ≤ p ∧ p ≤ nI np - 1) ∧ (0 ≤ o ∧ o ≤ nI np - 1)) ∧ r' = some (.int (-1)) ∧ pQ m h h' 2) ∨ (-1 ≤ k ∧ ∃ r q, r < np ∧ q < np ∧ p = nI r ∧ o = nI q ∧ ∃ h1 N, LDU (P2 m h nf r q) m h1 N ∧ ((∃ s n a, s < N ∧ ¬ hI h1 (m + 8) s = hI h1 (m + 9) s ∧ (∀ t, t < s → hI h1 (m + 8) t = hI h1 (m + 9) t) ∧ wayP m h1 N s n ∧ lsbP (hI h1 (m + 8) s ^^^ hI h1 (m + 9) s) a ∧ r' = some (.int (strA n s (hI h1 (m + 10)) (hI h1 (m + 11)) (nI a) k).1) ∧ pQ m h h' (strA n s (hI h1 (m + 10)) (hI h1 (m + 11)) (nI a) k).2) ∨ ((∀ t, t < N → hI h1 (m + 8) t = hI h1 (m + 9) t) ∧ r' = some (.int (-1)) ∧ pQ m h h' 5)))) := by
  obtain ⟨hm, hnt, hna, hnp, hF, hw⟩ := ok
  refine g_start (by decide) (Nat.le_of_ble_eq_true rfl) [(0, _), (1, _), (2, _), (3, _)] rfl (fun z hfl C => ?_)
  refine g_iload_n C (gd DX10_telling_0 0 rfl) 3 rfl rfl ?_
  refine g_iconst (v := -1) C (gd DX10_telling_0 1 rfl) (by decide) ?_
  refine g_icmp_ge C 11 (gd DX10_telling_0 2 rfl) (by decide) (fun c2 => ?_) (fun c2 => ?_)
  rotate_left
  · refine g_aload_n C (gd DX10_telling_0 3 rfl) 0 rfl rfl ?_
    refine g_iconst (v := 1) C (gd DX10_telling_0 4 rfl) (by decide) ?_
    refine g_cV1 (ci := 10) C [_] mX10_refuse lm_TestJudgeModel_331 (by exact hm.1) rfl rfl (e_m_refuse hm _) hfl (by decide) (by decide) (by omega) (by omega) rfl rfl (Nat.le_of_ble_eq_true rfl) (gd DX10_telling_0 5 rfl) ?_
    exact g_iret C (by omega) (by omega) (Or.inl ⟨c2, rfl, (mKp.rf m h).q 1⟩) (gd DX10_telling_0 6 rfl)
  have hk0 := k_cases c2
  refine g_aload_n C (gd DX10_telling_0 7 rfl) 0 rfl rfl ?_
  refine g_iload_n C (gd DX10_telling_0 8 rfl) 1 rfl rfl ?_
  refine g_iload_n C (gd DX10_telling_0 9 rfl) 2 rfl rfl ?_
  refine g_cV1 (ci := 10) C [_, _] mX10_areTwo lm_TestJudgeModel_434 (by exact hm.1) rfl rfl (e_m_areTwo hm _ _) hfl (by decide) (by decide) (by omega) (by omega) rfl rfl (Nat.le_of_ble_eq_true rfl) (gd DX10_telling_0 10 rfl) ?_
  rw [hnp.2]
  by_cases hp : (0 ≤ p ∧ p ≤ nI np - 1) ∧ (0 ≤ o ∧ o ≤ nI np - 1)
  rotate_left
  · rw [b1_f hp]
    refine g_if_ne C 26 (gd DX10_telling_0 11 rfl) (by decide) (fun c17 => ?_) (fun c17 => ?_)
    · exact absurd rfl c17
    · refine g_aload_n C (gd DX10_telling_0 12 rfl) 0 rfl rfl ?_
      refine g_iconst (v := 2) C (gd DX10_telling_0 13 rfl) (by decide) ?_
      refine g_cV1 (ci := 10) C [_] mX10_refuse lm_TestJudgeModel_331 (by exact hm.1) rfl rfl (e_m_refuse hm _) hfl (by decide) (by decide) (by omega) (by omega) rfl rfl (Nat.le_of_ble_eq_true rfl) (gd DX10_telling_0 14 rfl) ?_
      exact g_iret C (by omega) (by omega) (Or.inr (Or.inl ⟨c2, hp, rfl, (mKp.rf m h).q 2⟩)) (gd DX10_telling_0 15 rfl)
  rw [b1_t hp]
  refine g_if_ne C 26 (gd DX10_telling_0 11 rfl) (by decide) (fun c17 => ?_) (fun c17 => ?_)
  rotate_left
  · exact absurd c17 (by decide)
  obtain ⟨r, hr, rfl⟩ := below_of (by omega) hp.1
  obtain ⟨q, hq, rfl⟩ := below_of (by omega) hp.2
  obtain ⟨wr, lr, hwr⟩ := hw r hr
  obtain ⟨wo, lo, hwo⟩ := hw q hq
  refine g_aload_n C (gd DX10_telling_0 16 rfl) 0 rfl rfl ?_
  refine g_iload_n C (gd DX10_telling_0 17 rfl) 1 rfl rfl ?_
  refine g_iload_n C (gd DX10_telling_0 18 rfl) 2 rfl rfl ?_
  refine g_callV (ci := 10) C [_, _] mX10_laysTwo lm_TestJudgeModel_428 (by exact hm.1) rfl rfl (e_m_laysTwo hm hF (by omega : r < 8) (by omega : q < 8) lr lo hwr hwo) hfl (by decide) (by decide) (by omega) (by omega) rfl rfl (Nat.le_of_ble_eq_true rfl) (gd DX10_telling_0 19 rfl) (fun r h2 hp => ?_)
  obtain ⟨rfl, hl⟩ := hp
  obtain ⟨N, hL, hk⟩ := lay_2 hF (by omega : r < 8) (by omega : q < 8) lr lo hwr hwo hl
  have g := hL.1.gok
  have hg1 := g.1
  have hm2 : mSh m h2 := hm.fr hk.1
  show GW z w 5 _ 0 0 _ _ [] _
  refine g_aload_n C (gd DX10_telling_0 20 rfl) 0 rfl rfl ?_
  refine g_callV (ci := 10) C [] mX10_parted lm_TestJudgeModel_431 (by exact hm2.1) rfl rfl (e_m_parted hm2 g.1 g.2.1) hfl (by decide) (by decide) (by omega) (by omega) rfl rfl (Nat.le_of_ble_eq_true rfl) (gd DX10_telling_0 21 rfl) (fun r h2 hp => ?_)
  obtain ⟨rfl, hp⟩ := hp
  rcases hp with ⟨s, hs, rfl, hs2, hs3⟩ | ⟨rfl, hs2⟩
  · show GW z w 5 _ 0 0 _ _ [.int (nI s)] _
    obtain ⟨b, hb, hb2⟩ := bit_ex (v := hI h2 (m + 8) s ^^^ hI h2 (m + 9) s) (fun e => hs2 (Int32.xor_eq_zero_iff.mp e))
    obtain ⟨n, hwy⟩ := hL.1.way hs
    refine g_istore (lv' := [(0, _), (1, _), (2, _), (3, _), (4, _)]) C (gd DX10_telling_0 22 rfl) [1, 2, 3, 4, 0] (by decide) rfl ?_
    refine g_iload C (gd DX10_telling_0 23 rfl) 4 rfl ?_
    refine g_iconst (v := -1) C (gd DX10_telling_0 24 rfl) (by decide) ?_
    refine g_icmp_ne C 52 (gd DX10_telling_0 25 rfl) (by decide) (fun c41 => ?_) (fun c41 => ?_)
    · refine g_aload_n C (gd DX10_telling_0 30 rfl) 0 rfl rfl ?_
      refine g_iload C (gd DX10_telling_0 31 rfl) 4 rfl ?_
      refine g_aload_n C (gd DX10_telling_0 32 rfl) 0 rfl rfl ?_
      refine g_getr (ci := 10) (k := 36) C rfl (by decide) rfl lf_TestJudgeModel_44 hm2.1 (hm2.2 36 8 12 16500 rfl).1 (gd DX10_telling_0 33 rfl) ?_
      refine g_iload C (gd DX10_telling_0 34 rfl) 4 rfl ?_
      refine g_iaj (j := s) C (hm2.2 36 8 12 16500 rfl).2.1 (hm2.2 36 8 12 16500 rfl).2.2 (by decide) rfl (by omega) (gd DX10_telling_0 35 rfl) ?_
      refine g_aload_n C (gd DX10_telling_0 36 rfl) 0 rfl rfl ?_
      refine g_getr (ci := 10) (k := 37) C rfl (by decide) rfl lf_TestJudgeModel_47 hm2.1 (hm2.2 37 9 12 16500 rfl).1 (gd DX10_telling_0 37 rfl) ?_
      refine g_iload C (gd DX10_telling_0 38 rfl) 4 rfl ?_
      refine g_iaj (j := s) C (hm2.2 37 9 12 16500 rfl).2.1 (hm2.2 37 9 12 16500 rfl).2.2 (by decide) rfl (by omega) (gd DX10_telling_0 39 rfl) ?_
      refine g_ixor C (gd DX10_telling_0 40 rfl) ?_
      refine g_iconst (v := 0) C (gd DX10_telling_0 41 rfl) (by decide) ?_
      refine g_callS C [_, _] mX10_least_ lm_TestJudgeModel_421 (e_m_least_ hb2 hb) hfl (by decide) (by decide) (by omega) (by omega) rfl rfl (Nat.le_of_ble_eq_true rfl) (gd DX10_telling_0 42 rfl) (fun r h2 hp => ?_)
      obtain ⟨rfl, a, ha1, rfl, ha2, ha3⟩ := hp
      show GW z w 5 _ 0 0 _ _ [.int (nI a), .int (nI s), .ref m] _
      refine g_iload_n C (gd DX10_telling_0 43 rfl) 3 rfl rfl ?_
      refine g_callV (ci := 10) C [_, _, _] mX10_stringAt lm_TestJudgeModel_424 (by exact hm2.1) rfl rfl (e_m_stringAt hm2 hg1 hs hwy (nI a) hk0) hfl (by decide) (by decide) (by omega) (by omega) rfl rfl (Nat.le_of_ble_eq_true rfl) (gd DX10_telling_0 44 rfl) (fun r h2 hp => ?_)
      obtain ⟨WY, rfl, rfl⟩ := hp
      show GW z w 5 _ 0 0 _ _ [.int _] _
      exact g_iret C (by omega) (by omega) (Or.inr (Or.inr ⟨c2, r, q, hr, hq, rfl, rfl, _, N, hL, Or.inl ⟨s, n, a, hs, hs2, hs3, hwy, ⟨by omega, ha2, ha3⟩, rfl, (hk.tr (mKp_sF WY (by omega) (by omega))).q _⟩⟩)) (gd DX10_telling_0 45 rfl)
    · exact absurd c41 (nI_m1 (by omega))
  · show GW z w 5 _ 0 0 _ _ [.int (-1)] _
    refine g_istore (lv' := [(0, _), (1, _), (2, _), (3, _), (4, _)]) C (gd DX10_telling_0 22 rfl) [1, 2, 3, 4, 0] (by decide) rfl ?_
    refine g_iload C (gd DX10_telling_0 23 rfl) 4 rfl ?_
    refine g_iconst (v := -1) C (gd DX10_telling_0 24 rfl) (by decide) ?_
    refine g_icmp_ne C 52 (gd DX10_telling_0 25 rfl) (by decide) (fun c41 => ?_) (fun c41 => ?_)
    · exact absurd rfl c41
    · refine g_aload_n C (gd DX10_telling_0 26 rfl) 0 rfl rfl ?_
      refine g_iconst (v := 5) C (gd DX10_telling_0 27 rfl) (by decide) ?_
      refine g_cV1 (ci := 10) C [_] mX10_refuse lm_TestJudgeModel_331 (by exact hm2.1) rfl rfl (e_m_refuse hm2 _) hfl (by decide) (by decide) (by omega) (by omega) rfl rfl (Nat.le_of_ble_eq_true rfl) (gd DX10_telling_0 28 rfl) ?_
      refine g_goto (tgt := 78) C (gd DX10_telling_0 29 rfl) (by decide) ?_
      exact g_iret C (by omega) (by omega) (Or.inr (Or.inr ⟨c2, r, q, hr, hq, rfl, rfl, _, N, hL, Or.inr ⟨hs2, rfl, hk.q 5⟩⟩)) (gd DX10_telling_0 45 rfl)
end M36
