/-! the reference's small tests and writes -/
section M18
variable {w : gD} {m : Nat} {h : HS}
theorem e_m_isLetter (c : Int32) : EvF w 0 0 0 yX10_isLetter cX10_isLetter 1 (some .boolean) [.int c] h (some (.int (b1 (97 ≤ c ∧ c ≤ 122)))) h := by
  refine g_start (by decide) (Nat.le_of_ble_eq_true rfl) [(0, _)] rfl (fun z hfl C => ?_)
  refine g_iload_n C (gd DX10_isLetter_0 0 rfl) 0 rfl rfl ?_
  refine g_bipush (v := 97) C (gd DX10_isLetter_0 1 rfl) (by decide) ?_
  refine g_icmp_lt C 16 (gd DX10_isLetter_0 2 rfl) (by decide) (fun c3 => ?_) (fun c3 => ?_)
  · refine g_iconst (v := 0) C (gd DX10_isLetter_0 8 rfl) (by decide) ?_
    exact g_zret C (by decide) (by omega) (by omega) ⟨by rw [b1_f (fun q => absurd q.1 (Int32.not_le.mpr c3))], rfl⟩ (gd DX10_isLetter_0 9 rfl)
  · refine g_iload_n C (gd DX10_isLetter_0 3 rfl) 0 rfl rfl ?_
    refine g_bipush (v := 122) C (gd DX10_isLetter_0 4 rfl) (by decide) ?_
    refine g_icmp_gt C 16 (gd DX10_isLetter_0 5 rfl) (by decide) (fun c9 => ?_) (fun c9 => ?_)
    · refine g_iconst (v := 0) C (gd DX10_isLetter_0 8 rfl) (by decide) ?_
      exact g_zret C (by decide) (by omega) (by omega) ⟨by rw [b1_f (fun q => absurd q.2 (Int32.not_le.mpr c9))], rfl⟩ (gd DX10_isLetter_0 9 rfl)
    · refine g_iconst (v := 1) C (gd DX10_isLetter_0 6 rfl) (by decide) ?_
      refine g_goto (tgt := 17) C (gd DX10_isLetter_0 7 rfl) (by decide) ?_
      exact g_zret C (by decide) (by omega) (by omega) ⟨by rw [b1_t ⟨Int32.not_lt.mp c3, Int32.not_lt.mp c9⟩], rfl⟩ (gd DX10_isLetter_0 9 rfl)
/-- the byte at k; none behind the text -/
theorem e_m_byteAt (hm : mSh m h) {n k : Nat} (hn : n ≤ 500) (hsz : hI h m 17 = nI n) (hk : k < 100000) : EvF w 0 0 0 yX10_byteAt cX10_byteAt 2 (some .int) [.ref m, .int (nI k)] h (some (.int (if k < n then hI h (m + 3) k else -1))) h := by
  refine g_start (by decide) (Nat.le_of_ble_eq_true rfl) [(0, _), (1, _)] rfl (fun z hfl C => ?_)
  refine g_iload_n C (gd DX10_byteAt_0 0 rfl) 1 rfl rfl ?_
  refine g_aload_n C (gd DX10_byteAt_0 1 rfl) 0 rfl rfl ?_
  refine g_geti (ci := 10) (k := 17) C rfl (by decide) rfl lf_TestJudgeModel_155 hm.1 (gd DX10_byteAt_0 2 rfl) ?_
  rw [hsz]
  refine g_icmp_ge C 17 (gd DX10_byteAt_0 3 rfl) (by decide) (fun c5 => ?_) (fun c5 => ?_)
  · refine g_iconst (v := -1) C (gd DX10_byteAt_0 9 rfl) (by decide) ?_
    exact g_iret C (by omega) (by omega) ⟨by rw [if_neg (by have := ge_t c5 (by omega) (by omega); omega)], rfl⟩ (gd DX10_byteAt_0 10 rfl)
  · have hlt : k < n := ge_f c5 (by omega) (by omega)
    refine g_aload_n C (gd DX10_byteAt_0 4 rfl) 0 rfl rfl ?_
    refine g_getr (ci := 10) (k := 9) C rfl (by decide) rfl lf_TestJudgeModel_16 hm.1 (hm.2 9 3 12 500 rfl).1 (gd DX10_byteAt_0 5 rfl) ?_
    refine g_iload_n C (gd DX10_byteAt_0 6 rfl) 1 rfl rfl ?_
    refine g_iaj (j := k) C (hm.2 9 3 12 500 rfl).2.1 (hm.2 9 3 12 500 rfl).2.2 (by decide) rfl (by omega) (gd DX10_byteAt_0 7 rfl) ?_
    refine g_goto (tgt := 18) C (gd DX10_byteAt_0 8 rfl) (by decide) ?_
    exact g_iret C (by omega) (by omega) ⟨by rw [if_pos hlt], rfl⟩ (gd DX10_byteAt_0 10 rfl)
theorem e_m_isWord (hm : mSh m h) (k : Int32) : EvF w 0 0 0 yX10_isWord cX10_isWord 2 (some .boolean) [.ref m, .int k] h (some (.int (b1 (hI h m 20 = 2 ∧ hI h m 22 = k)))) h := by
  refine g_start (by decide) (Nat.le_of_ble_eq_true rfl) [(0, _), (1, _)] rfl (fun z hfl C => ?_)
  refine g_aload_n C (gd DX10_isWord_0 0 rfl) 0 rfl rfl ?_
  refine g_geti (ci := 10) (k := 20) C rfl (by decide) rfl lf_TestJudgeModel_174 hm.1 (gd DX10_isWord_0 1 rfl) ?_
  refine g_iconst (v := 2) C (gd DX10_isWord_0 2 rfl) (by decide) ?_
  refine g_icmp_ne C 20 (gd DX10_isWord_0 3 rfl) (by decide) (fun c5 => ?_) (fun c5 => ?_)
  · refine g_iconst (v := 0) C (gd DX10_isWord_0 10 rfl) (by decide) ?_
    exact g_zret C (by decide) (by omega) (by omega) ⟨by rw [b1_f (fun q => c5 q.1)], rfl⟩ (gd DX10_isWord_0 11 rfl)
  · refine g_aload_n C (gd DX10_isWord_0 4 rfl) 0 rfl rfl ?_
    refine g_geti (ci := 10) (k := 22) C rfl (by decide) rfl lf_TestJudgeModel_168 hm.1 (gd DX10_isWord_0 5 rfl) ?_
    refine g_iload_n C (gd DX10_isWord_0 6 rfl) 1 rfl rfl ?_
    refine g_icmp_ne C 20 (gd DX10_isWord_0 7 rfl) (by decide) (fun c13 => ?_) (fun c13 => ?_)
    · refine g_iconst (v := 0) C (gd DX10_isWord_0 10 rfl) (by decide) ?_
      exact g_zret C (by decide) (by omega) (by omega) ⟨by rw [b1_f (fun q => c13 q.2)], rfl⟩ (gd DX10_isWord_0 11 rfl)
    · refine g_iconst (v := 1) C (gd DX10_isWord_0 8 rfl) (by decide) ?_
      refine g_goto (tgt := 21) C (gd DX10_isWord_0 9 rfl) (by decide) ?_
      exact g_zret C (by decide) (by omega) (by omega) ⟨by rw [b1_t ⟨c5, c13⟩], rfl⟩ (gd DX10_isWord_0 11 rfl)
theorem e_m_isSign (hm : mSh m h) (k : Int32) : EvF w 0 0 0 yX10_isSign cX10_isSign 2 (some .boolean) [.ref m, .int k] h (some (.int (b1 (hI h m 20 = 3 ∧ hI h m 21 = k)))) h := by
  refine g_start (by decide) (Nat.le_of_ble_eq_true rfl) [(0, _), (1, _)] rfl (fun z hfl C => ?_)
  refine g_aload_n C (gd DX10_isSign_0 0 rfl) 0 rfl rfl ?_
  refine g_geti (ci := 10) (k := 20) C rfl (by decide) rfl lf_TestJudgeModel_174 hm.1 (gd DX10_isSign_0 1 rfl) ?_
  refine g_iconst (v := 3) C (gd DX10_isSign_0 2 rfl) (by decide) ?_
  refine g_icmp_ne C 20 (gd DX10_isSign_0 3 rfl) (by decide) (fun c5 => ?_) (fun c5 => ?_)
  · refine g_iconst (v := 0) C (gd DX10_isSign_0 10 rfl) (by decide) ?_
    exact g_zret C (by decide) (by omega) (by omega) ⟨by rw [b1_f (fun q => c5 q.1)], rfl⟩ (gd DX10_isSign_0 11 rfl)
  · refine g_aload_n C (gd DX10_isSign_0 4 rfl) 0 rfl rfl ?_
    refine g_geti (ci := 10) (k := 21) C rfl (by decide) rfl lf_TestJudgeModel_171 hm.1 (gd DX10_isSign_0 5 rfl) ?_
    refine g_iload_n C (gd DX10_isSign_0 6 rfl) 1 rfl rfl ?_
    refine g_icmp_ne C 20 (gd DX10_isSign_0 7 rfl) (by decide) (fun c13 => ?_) (fun c13 => ?_)
    · refine g_iconst (v := 0) C (gd DX10_isSign_0 10 rfl) (by decide) ?_
      exact g_zret C (by decide) (by omega) (by omega) ⟨by rw [b1_f (fun q => c13 q.2)], rfl⟩ (gd DX10_isSign_0 11 rfl)
    · refine g_iconst (v := 1) C (gd DX10_isSign_0 8 rfl) (by decide) ?_
      refine g_goto (tgt := 21) C (gd DX10_isSign_0 9 rfl) (by decide) ?_
      exact g_zret C (by decide) (by omega) (by omega) ⟨by rw [b1_t ⟨c5, c13⟩], rfl⟩ (gd DX10_isSign_0 11 rfl)
theorem e_m_isName (hm : mSh m h) : EvF w 0 0 0 yX10_isName cX10_isName 1 (some .boolean) [.ref m] h (some (.int (b1 (hI h m 20 = 2 ∧ hI h m 22 = -1)))) h := by
  refine g_start (by decide) (Nat.le_of_ble_eq_true rfl) [(0, _)] rfl (fun z hfl C => ?_)
  refine g_aload_n C (gd DX10_isName_0 0 rfl) 0 rfl rfl ?_
  refine g_geti (ci := 10) (k := 20) C rfl (by decide) rfl lf_TestJudgeModel_174 hm.1 (gd DX10_isName_0 1 rfl) ?_
  refine g_iconst (v := 2) C (gd DX10_isName_0 2 rfl) (by decide) ?_
  refine g_icmp_ne C 20 (gd DX10_isName_0 3 rfl) (by decide) (fun c5 => ?_) (fun c5 => ?_)
  · refine g_iconst (v := 0) C (gd DX10_isName_0 10 rfl) (by decide) ?_
    exact g_zret C (by decide) (by omega) (by omega) ⟨by rw [b1_f (fun q => c5 q.1)], rfl⟩ (gd DX10_isName_0 11 rfl)
  · refine g_aload_n C (gd DX10_isName_0 4 rfl) 0 rfl rfl ?_
    refine g_geti (ci := 10) (k := 22) C rfl (by decide) rfl lf_TestJudgeModel_168 hm.1 (gd DX10_isName_0 5 rfl) ?_
    refine g_iconst (v := -1) C (gd DX10_isName_0 6 rfl) (by decide) ?_
    refine g_icmp_ne C 20 (gd DX10_isName_0 7 rfl) (by decide) (fun c13 => ?_) (fun c13 => ?_)
    · refine g_iconst (v := 0) C (gd DX10_isName_0 10 rfl) (by decide) ?_
      exact g_zret C (by decide) (by omega) (by omega) ⟨by rw [b1_f (fun q => c13 q.2)], rfl⟩ (gd DX10_isName_0 11 rfl)
    · refine g_iconst (v := 1) C (gd DX10_isName_0 8 rfl) (by decide) ?_
      refine g_goto (tgt := 21) C (gd DX10_isName_0 9 rfl) (by decide) ?_
      exact g_zret C (by decide) (by omega) (by omega) ⟨by rw [b1_t ⟨c5, c13⟩], rfl⟩ (gd DX10_isName_0 11 rfl)
theorem e_m_bad (hm : mSh m h) (k : Int32) : EvF w 0 0 0 yX10_bad cX10_bad 2 (some .boolean) [.ref m, .int k] h (some (.int 0)) (sI (sI h m 23 (if hI h m 20 = 1 then 1 else k)) m 24 (hI h m 18)) := by
  refine g_start (by decide) (Nat.le_of_ble_eq_true rfl) [(0, _), (1, _)] rfl (fun z hfl C => ?_)
  have fin : ∀ v : Int32, v = (if hI h m 20 = 1 then 1 else k) → GW z w 2 (gQ z w 0 0 (fun r' h'' => r' = some (.int 0) ∧ h'' = sI (sI h m 23 (if hI h m 20 = 1 then 1 else k)) m 24 (hI h m 18))) 0 0 14 [(0, .ref m), (1, .int k)] [.int v, .ref m] h := by
    intro v hv
    subst hv
    refine g_puti (ci := 10) (k := 23) C rfl (by decide) rfl lf_TestJudgeModel_209 hm.1 (Or.inl rfl) rfl (gd DX10_bad_0 8 rfl) ?_
    refine g_aload_n C (gd DX10_bad_0 9 rfl) 0 rfl rfl ?_
    refine g_aload_n C (gd DX10_bad_0 10 rfl) 0 rfl rfl ?_
    refine g_geti (ci := 10) (k := 18) C rfl (by decide) rfl lf_TestJudgeModel_165 hm.1 (gd DX10_bad_0 11 rfl) ?_
    refine g_puti (ci := 10) (k := 24) C rfl (by decide) rfl lf_TestJudgeModel_212 hm.1 (Or.inl rfl) rfl (gd DX10_bad_0 12 rfl) ?_
    refine g_iconst (v := 0) C (gd DX10_bad_0 13 rfl) (by decide) ?_
    exact g_zret C (by decide) (by omega) (by omega) ⟨rfl, by rw [show ∀ v : Int32, hI (sI h m 23 v) m 18 = hI h m 18 from fun v => by rw [hI_sI, if_neg (by omega)]]⟩ (gd DX10_bad_0 14 rfl)
  refine g_aload_n C (gd DX10_bad_0 0 rfl) 0 rfl rfl ?_
  refine g_aload_n C (gd DX10_bad_0 1 rfl) 0 rfl rfl ?_
  refine g_geti (ci := 10) (k := 20) C rfl (by decide) rfl lf_TestJudgeModel_174 hm.1 (gd DX10_bad_0 2 rfl) ?_
  refine g_iconst (v := 1) C (gd DX10_bad_0 3 rfl) (by decide) ?_
  refine g_icmp_ne C 13 (gd DX10_bad_0 4 rfl) (by decide) (fun c6 => ?_) (fun c6 => ?_)
  · refine g_iload_n C (gd DX10_bad_0 7 rfl) 1 rfl rfl ?_
    exact fin _ (by rw [if_neg c6])
  · refine g_iconst (v := 1) C (gd DX10_bad_0 5 rfl) (by decide) ?_
    refine g_goto (tgt := 14) C (gd DX10_bad_0 6 rfl) (by decide) ?_
    exact fin _ (by rw [if_pos c6])
theorem e_m_fault (hm : mSh m h) (k : Int32) : EvF w 0 0 0 yX10_fault cX10_fault 2 (some .int) [.ref m, .int k] h (some (.int (if k = 0 then hI h m 12 else if k = 1 then hI h m 13 else -1))) (sI h m 1 0) := by
  refine g_start (by decide) (Nat.le_of_ble_eq_true rfl) [(0, _), (1, _)] rfl (fun z hfl C => ?_)
  refine g_aload_n C (gd DX10_fault_0 0 rfl) 0 rfl rfl ?_
  refine g_iconst (v := 0) C (gd DX10_fault_0 1 rfl) (by decide) ?_
  refine g_puti (ci := 10) (k := 1) C rfl (by decide) rfl lf_TestJudgeModel_103 hm.1 (Or.inl rfl) rfl (gd DX10_fault_0 2 rfl) ?_
  refine g_iload_n C (gd DX10_fault_0 3 rfl) 1 rfl rfl ?_
  refine g_if_ne C 16 (gd DX10_fault_0 4 rfl) (by decide) (fun c6 => ?_) (fun c6 => ?_)
  · refine g_iload_n C (gd DX10_fault_0 8 rfl) 1 rfl rfl ?_
    refine g_iconst (v := 1) C (gd DX10_fault_0 9 rfl) (by decide) ?_
    refine g_icmp_ne C 28 (gd DX10_fault_0 10 rfl) (by decide) (fun c18 => ?_) (fun c18 => ?_)
    · refine g_iconst (v := -1) C (gd DX10_fault_0 14 rfl) (by decide) ?_
      exact g_iret C (by omega) (by omega) ⟨by rw [if_neg c6, if_neg c18], rfl⟩ (gd DX10_fault_0 15 rfl)
    · refine g_aload_n C (gd DX10_fault_0 11 rfl) 0 rfl rfl ?_
      refine g_geti (ci := 10) (k := 13) C rfl (by decide) rfl lf_TestJudgeModel_23 hm.1 (gd DX10_fault_0 12 rfl) ?_
      refine g_goto (tgt := 29) C (gd DX10_fault_0 13 rfl) (by decide) ?_
      exact g_iret C (by omega) (by omega) ⟨by rw [if_neg c6, if_pos c18, hI_sI, if_neg (by omega)], rfl⟩ (gd DX10_fault_0 15 rfl)
  · refine g_aload_n C (gd DX10_fault_0 5 rfl) 0 rfl rfl ?_
    refine g_geti (ci := 10) (k := 12) C rfl (by decide) rfl lf_TestJudgeModel_19 hm.1 (gd DX10_fault_0 6 rfl) ?_
    refine g_goto (tgt := 29) C (gd DX10_fault_0 7 rfl) (by decide) ?_
    exact g_iret C (by omega) (by omega) ⟨by rw [if_pos c6, hI_sI, if_neg (by omega)], rfl⟩ (gd DX10_fault_0 15 rfl)
theorem e_m_prints (hm : mSh m h) {n : Nat} (hn : n < 12000) (ho : hI h m 57 = nI n) (c : Int32) : EvF w 0 0 0 yX10_prints cX10_prints 2 none [.ref m, .int c] h none (sI (sI h (m + 26) n c.toInt8.toInt32) m 57 (nI (n + 1))) := by
  refine g_start (by decide) (Nat.le_of_ble_eq_true rfl) [(0, _), (1, _)] rfl (fun z hfl C => ?_)
  refine g_aload_n C (gd DX10_prints_0 0 rfl) 0 rfl rfl ?_
  refine g_getr (ci := 10) (k := 56) C rfl (by decide) rfl lf_TestJudgeModel_99 hm.1 (hm.2 56 26 14 12000 rfl).1 (gd DX10_prints_0 1 rfl) ?_
  refine g_aload_n C (gd DX10_prints_0 2 rfl) 0 rfl rfl ?_
  refine g_geti (ci := 10) (k := 57) C rfl (by decide) rfl lf_TestJudgeModel_503 hm.1 (gd DX10_prints_0 3 rfl) ?_
  rw [ho]
  refine g_iload_n C (gd DX10_prints_0 4 rfl) 1 rfl rfl ?_
  refine g_i2b C (gd DX10_prints_0 5 rfl) ?_
  refine g_bsj (j := n) C (hm.2 56 26 14 12000 rfl).2.1 (hm.2 56 26 14 12000 rfl).2.2 (by decide) rfl (by omega) (gd DX10_prints_0 6 rfl) ?_
  rw [pk_vb]
  refine g_aload_n C (gd DX10_prints_0 7 rfl) 0 rfl rfl ?_
  refine g_dup C (gd DX10_prints_0 8 rfl) rfl ?_
  refine g_geti (ci := 10) (k := 57) C rfl (by decide) rfl lf_TestJudgeModel_503 hm.1 (gd DX10_prints_0 9 rfl) ?_
  rw [show hI (sI h (m + 26) n c.toInt8.toInt32) m 57 = nI n by rw [hI_sI, if_neg (by omega)]; exact ho]
  refine g_iconst (v := 1) C (gd DX10_prints_0 10 rfl) (by decide) ?_
  refine g_iadd C (gd DX10_prints_0 11 rfl) ?_
  refine g_puti (ci := 10) (k := 57) C rfl (by decide) rfl lf_TestJudgeModel_503 hm.1 (Or.inl rfl) rfl (gd DX10_prints_0 12 rfl) ?_
  exact g_vret C (by omega) (by omega) ⟨rfl, by rw [nI_1]⟩ (gd DX10_prints_0 13 rfl)
theorem e_m_all (hm : mSh m h) : EvF w 0 0 0 yX10_all cX10_all 1 (some .int) [.ref m] h (some (.int (allF (hI h m 29)))) h := by
  refine g_start (by decide) (Nat.le_of_ble_eq_true rfl) [(0, _)] rfl (fun z hfl C => ?_)
  refine g_iconst (v := 1) C (gd DX10_all_0 0 rfl) (by decide) ?_
  refine g_iconst (v := 1) C (gd DX10_all_0 1 rfl) (by decide) ?_
  refine g_aload_n C (gd DX10_all_0 2 rfl) 0 rfl rfl ?_
  refine g_geti (ci := 10) (k := 29) C rfl (by decide) rfl lf_TestJudgeModel_222 hm.1 (gd DX10_all_0 3 rfl) ?_
  refine g_ishl C (gd DX10_all_0 4 rfl) ?_
  refine g_ishl C (gd DX10_all_0 5 rfl) ?_
  refine g_iconst (v := 1) C (gd DX10_all_0 6 rfl) (by decide) ?_
  refine g_isub C (gd DX10_all_0 7 rfl) ?_
  exact g_iret C (by omega) (by omega) ⟨rfl, rfl⟩ (gd DX10_all_0 8 rfl)
theorem e_m_areTwo (hm : mSh m h) (p o : Int32) : EvF w 2 0 0 yX10_areTwo cX10_areTwo 3 (some .boolean) [.ref m, .int p, .int o] h (some (.int (b1 ((0 ≤ p ∧ p ≤ hI h m 4 - 1) ∧ (0 ≤ o ∧ o ≤ hI h m 4 - 1))))) h := by
  refine g_start (by decide) (Nat.le_of_ble_eq_true rfl) [(0, _), (1, _), (2, _)] rfl (fun z hfl C => ?_)
  refine g_aload_n C (gd DX10_areTwo_0 0 rfl) 0 rfl rfl ?_
  refine g_iload_n C (gd DX10_areTwo_0 1 rfl) 1 rfl rfl ?_
  refine g_cV1 (ci := 10) C [_] mX10_isProgram lm_TestJudgeModel_116 (by exact hm.1) rfl rfl (e_m_isProgram hm _) hfl (by decide) (by decide) (by omega) (by omega) rfl rfl (Nat.le_of_ble_eq_true rfl) (gd DX10_areTwo_0 2 rfl) ?_
  by_cases hp : 0 ≤ p ∧ p ≤ hI h m 4 - 1
  · rw [b1_t hp]
    refine g_if_eq C 20 (gd DX10_areTwo_0 3 rfl) (by decide) (fun c5 => ?_) (fun c5 => ?_)
    · exact absurd c5 (by decide)
    · refine g_aload_n C (gd DX10_areTwo_0 4 rfl) 0 rfl rfl ?_
      refine g_iload_n C (gd DX10_areTwo_0 5 rfl) 2 rfl rfl ?_
      refine g_cV1 (ci := 10) C [_] mX10_isProgram lm_TestJudgeModel_116 (by exact hm.1) rfl rfl (e_m_isProgram hm _) hfl (by decide) (by decide) (by omega) (by omega) rfl rfl (Nat.le_of_ble_eq_true rfl) (gd DX10_areTwo_0 6 rfl) ?_
      by_cases hq : 0 ≤ o ∧ o ≤ hI h m 4 - 1
      · rw [b1_t hq]
        refine g_if_eq C 20 (gd DX10_areTwo_0 7 rfl) (by decide) (fun c13 => ?_) (fun c13 => ?_)
        · exact absurd c13 (by decide)
        · refine g_iconst (v := 1) C (gd DX10_areTwo_0 8 rfl) (by decide) ?_
          refine g_goto (tgt := 21) C (gd DX10_areTwo_0 9 rfl) (by decide) ?_
          exact g_zret C (by decide) (by omega) (by omega) ⟨by rw [b1_t ⟨hp, hq⟩], rfl⟩ (gd DX10_areTwo_0 11 rfl)
      · rw [b1_f hq]
        refine g_if_eq C 20 (gd DX10_areTwo_0 7 rfl) (by decide) (fun c13 => ?_) (fun c13 => ?_)
        · refine g_iconst (v := 0) C (gd DX10_areTwo_0 10 rfl) (by decide) ?_
          exact g_zret C (by decide) (by omega) (by omega) ⟨by rw [b1_f (fun z1 => hq z1.2)], rfl⟩ (gd DX10_areTwo_0 11 rfl)
        · exact absurd rfl c13
  · rw [b1_f hp]
    refine g_if_eq C 20 (gd DX10_areTwo_0 3 rfl) (by decide) (fun c5 => ?_) (fun c5 => ?_)
    · refine g_iconst (v := 0) C (gd DX10_areTwo_0 10 rfl) (by decide) ?_
      exact g_zret C (by decide) (by omega) (by omega) ⟨by rw [b1_f (fun z1 => hp z1.1)], rfl⟩ (gd DX10_areTwo_0 11 rfl)
    · exact absurd rfl c5
theorem e_m_isRest (hm : mSh m h) (k : Int32) : EvF w 1 0 0 yX10_isRest cX10_isRest 2 (some .boolean) [.ref m, .int k] h (some (.int (b1 (0 ≤ k ∧ k ≤ hI h m 54 - 1)))) h := by
  refine g_start (by decide) (Nat.le_of_ble_eq_true rfl) [(0, _), (1, _)] rfl (fun z hfl C => ?_)
  refine g_iload_n C (gd DX10_isRest_0 0 rfl) 1 rfl rfl ?_
  refine g_iconst (v := 0) C (gd DX10_isRest_0 1 rfl) (by decide) ?_
  refine g_aload_n C (gd DX10_isRest_0 2 rfl) 0 rfl rfl ?_
  refine g_geti (ci := 10) (k := 54) C rfl (by decide) rfl lf_TestJudgeModel_457 hm.1 (gd DX10_isRest_0 3 rfl) ?_
  refine g_iconst (v := 1) C (gd DX10_isRest_0 4 rfl) (by decide) ?_
  refine g_isub C (gd DX10_isRest_0 5 rfl) ?_
  refine g_cS1 C [_, _, _] mX10_isFrom lm_TestJudgeModel_112 (e_m_isFrom _ _ _) hfl (by decide) (by decide) (by omega) (by omega) rfl rfl (Nat.le_of_ble_eq_true rfl) (gd DX10_isRest_0 6 rfl) ?_
  exact g_zret C (b1_z _) (by omega) (by omega) ⟨rfl, rfl⟩ (gd DX10_isRest_0 7 rfl)
theorem e_m_areAtoms (hm : mSh m h) (k : Int32) : EvF w 2 0 0 yX10_areAtoms cX10_areAtoms 2 (some .boolean) [.ref m, .int k] h (some (.int (b1 (0 ≤ k ∧ k ≤ allF (hI h m 2))))) h := by
  refine g_start (by decide) (Nat.le_of_ble_eq_true rfl) [(0, _), (1, _)] rfl (fun z hfl C => ?_)
  refine g_iload_n C (gd DX10_areAtoms_0 0 rfl) 1 rfl rfl ?_
  refine g_iconst (v := 0) C (gd DX10_areAtoms_0 1 rfl) (by decide) ?_
  refine g_aload_n C (gd DX10_areAtoms_0 2 rfl) 0 rfl rfl ?_
  refine g_cV1 (ci := 10) C [] mX10_allAtoms lm_TestJudgeModel_379 (by exact hm.1) rfl rfl (e_m_allAtoms hm) hfl (by decide) (by decide) (by omega) (by omega) rfl rfl (Nat.le_of_ble_eq_true rfl) (gd DX10_areAtoms_0 3 rfl) ?_
  refine g_cS1 C [_, _, _] mX10_isFrom lm_TestJudgeModel_112 (e_m_isFrom _ _ _) hfl (by decide) (by decide) (by omega) (by omega) rfl rfl (Nat.le_of_ble_eq_true rfl) (gd DX10_areAtoms_0 4 rfl) ?_
  exact g_zret C (b1_z _) (by omega) (by omega) ⟨rfl, rfl⟩ (gd DX10_areAtoms_0 5 rfl)
theorem e_m_isStep (hm : mSh m h) (a c : Int32) : EvF w 1 0 0 yX10_isStep cX10_isStep 3 (some .boolean) [.ref m, .int a, .int c] h (some (.int (b1 ((0 ≤ a ∧ a ≤ atF (hI h m 2) - 1) ∧ (0 ≤ c ∧ c ≤ hI h m 3 - 1))))) h := by
  refine g_start (by decide) (Nat.le_of_ble_eq_true rfl) [(0, _), (1, _), (2, _)] rfl (fun z hfl C => ?_)
  refine g_iload_n C (gd DX10_isStep_0 0 rfl) 1 rfl rfl ?_
  refine g_iconst (v := 0) C (gd DX10_isStep_0 1 rfl) (by decide) ?_
  refine g_aload_n C (gd DX10_isStep_0 2 rfl) 0 rfl rfl ?_
  refine g_cV1 (ci := 10) C [] mX10_atoms lm_TestJudgeModel_352 (by exact hm.1) rfl rfl (e_m_atoms hm) hfl (by decide) (by decide) (by omega) (by omega) rfl rfl (Nat.le_of_ble_eq_true rfl) (gd DX10_isStep_0 3 rfl) ?_
  refine g_iconst (v := 1) C (gd DX10_isStep_0 4 rfl) (by decide) ?_
  refine g_isub C (gd DX10_isStep_0 5 rfl) ?_
  refine g_cS1 C [_, _, _] mX10_isFrom lm_TestJudgeModel_112 (e_m_isFrom _ _ _) hfl (by decide) (by decide) (by omega) (by omega) rfl rfl (Nat.le_of_ble_eq_true rfl) (gd DX10_isStep_0 6 rfl) ?_
  by_cases hp : 0 ≤ a ∧ a ≤ atF (hI h m 2) - 1
  · rw [b1_t hp]
    refine g_if_eq C 32 (gd DX10_isStep_0 7 rfl) (by decide) (fun c11 => ?_) (fun c11 => ?_)
    · exact absurd c11 (by decide)
    · refine g_iload_n C (gd DX10_isStep_0 8 rfl) 2 rfl rfl ?_
      refine g_iconst (v := 0) C (gd DX10_isStep_0 9 rfl) (by decide) ?_
      refine g_aload_n C (gd DX10_isStep_0 10 rfl) 0 rfl rfl ?_
      refine g_geti (ci := 10) (k := 3) C rfl (by decide) rfl lf_TestJudgeModel_340 hm.1 (gd DX10_isStep_0 11 rfl) ?_
      refine g_iconst (v := 1) C (gd DX10_isStep_0 12 rfl) (by decide) ?_
      refine g_isub C (gd DX10_isStep_0 13 rfl) ?_
      refine g_cS1 C [_, _, _] mX10_isFrom lm_TestJudgeModel_112 (e_m_isFrom _ _ _) hfl (by decide) (by decide) (by omega) (by omega) rfl rfl (Nat.le_of_ble_eq_true rfl) (gd DX10_isStep_0 14 rfl) ?_
      by_cases hq : 0 ≤ c ∧ c ≤ hI h m 3 - 1
      · rw [b1_t hq]
        refine g_if_eq C 32 (gd DX10_isStep_0 15 rfl) (by decide) (fun c25 => ?_) (fun c25 => ?_)
        · exact absurd c25 (by decide)
        · refine g_iconst (v := 1) C (gd DX10_isStep_0 16 rfl) (by decide) ?_
          refine g_goto (tgt := 33) C (gd DX10_isStep_0 17 rfl) (by decide) ?_
          exact g_zret C (by decide) (by omega) (by omega) ⟨by rw [b1_t ⟨hp, hq⟩], rfl⟩ (gd DX10_isStep_0 19 rfl)
      · rw [b1_f hq]
        refine g_if_eq C 32 (gd DX10_isStep_0 15 rfl) (by decide) (fun c25 => ?_) (fun c25 => ?_)
        · refine g_iconst (v := 0) C (gd DX10_isStep_0 18 rfl) (by decide) ?_
          exact g_zret C (by decide) (by omega) (by omega) ⟨by rw [b1_f (fun z1 => hq z1.2)], rfl⟩ (gd DX10_isStep_0 19 rfl)
        · exact absurd rfl c25
  · rw [b1_f hp]
    refine g_if_eq C 32 (gd DX10_isStep_0 7 rfl) (by decide) (fun c11 => ?_) (fun c11 => ?_)
    · refine g_iconst (v := 0) C (gd DX10_isStep_0 18 rfl) (by decide) ?_
      exact g_zret C (by decide) (by omega) (by omega) ⟨by rw [b1_f (fun z1 => hp z1.1)], rfl⟩ (gd DX10_isStep_0 19 rfl)
    · exact absurd rfl c11
end M18
