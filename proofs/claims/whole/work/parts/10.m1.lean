/-! The reference's small methods -/
/-- a whole row of ints at an address -/
def sF (h : HS) (a : Nat) (f : Nat → Int32) : HS := (fun b j => if b = a then f j else h.1 b j, h.2)
theorem hI_sF (h : HS) (a : Nat) (f : Nat → Int32) (b j : Nat) : hI (sF h a f) b j = if b = a then f j else hI h b j := rfl
theorem hI_sF_eq (h : HS) (a : Nat) (f : Nat → Int32) : hI (sF h a f) a = f := by funext j; rw [hI_sF, if_pos rfl]
theorem hI_sF_ne {h : HS} {a b : Nat} {f : Nat → Int32} (hb : b ≠ a) : hI (sF h a f) b = hI h b := by funext j; rw [hI_sF, if_neg hb]
theorem sF_sF (h : HS) (a : Nat) (f g : Nat → Int32) : sF (sF h a f) a g = sF h a g := by
  unfold sF
  refine Prod.ext ?_ rfl
  funext b j
  by_cases e : b = a <;> simp [e]
theorem sI_sF (h : HS) (a k : Nat) (v : Int32) : sI h a k v = sF h a (upd (hI h a) k v) := by
  unfold sI sF
  refine Prod.ext ?_ rfl
  funext b j
  by_cases e : b = a
  · subst e
    by_cases e2 : j = k <;> simp [e2, upd, hI]
  · simp [e]
theorem sF_self (h : HS) (a : Nat) : sF h a (hI h a) = h := by
  unfold sF
  refine Prod.ext ?_ rfl
  funext b j
  by_cases e : b = a <;> simp [e, hI]
theorem sF_ext {h : HS} {a : Nat} {f g : Nat → Int32} (e : ∀ j, f j = g j) : sF h a f = sF h a g := by rw [funext e]
/-- 1 or 0 -/
def b1 (p : Prop) [Decidable p] : Int32 := if p then 1 else 0
theorem b1_z (p : Prop) [Decidable p] : b1 p = 0 ∨ b1 p = 1 := by unfold b1; split <;> simp
theorem b1_t {p : Prop} [Decidable p] (h : p) : b1 p = 1 := by simp [b1, h]
theorem b1_f {p : Prop} [Decidable p] (h : ¬ p) : b1 p = 0 := by simp [b1, h]
section M1
variable {w : gD} {m : Nat} {h : HS}
theorem e_m_thrown (hm : mSh m h) : EvF w 0 0 0 yX10_thrown cX10_thrown 1 (some .int) [.ref m] h (some (.int (hI h m 1))) h := by
  refine g_start (by decide) (Nat.le_of_ble_eq_true rfl) [(0, _)] rfl (fun z hfl C => ?_)
  refine g_aload_n C (gd DX10_thrown_0 0 rfl) 0 rfl rfl ?_
  refine g_geti (ci := 10) (k := 1) C rfl (by decide) rfl lf_TestJudgeModel_103 hm.1 (gd DX10_thrown_0 1 rfl) ?_
  exact g_iret C (by omega) (by omega) ⟨rfl, rfl⟩ (gd DX10_thrown_0 2 rfl)
theorem e_m_status (hm : mSh m h) : EvF w 0 0 0 yX10_status cX10_status 1 (some .int) [.ref m] h (some (.int (hI h m 11))) (sI h m 1 0) := by
  refine g_start (by decide) (Nat.le_of_ble_eq_true rfl) [(0, _)] rfl (fun z hfl C => ?_)
  refine g_aload_n C (gd DX10_status_0 0 rfl) 0 rfl rfl ?_
  refine g_iconst (v := 0) C (gd DX10_status_0 1 rfl) (by decide) ?_
  refine g_puti (ci := 10) (k := 1) C rfl (by decide) rfl lf_TestJudgeModel_103 hm.1 (Or.inl rfl) rfl (gd DX10_status_0 2 rfl) ?_
  refine g_aload_n C (gd DX10_status_0 3 rfl) 0 rfl rfl ?_
  refine g_geti (ci := 10) (k := 11) C rfl (by decide) rfl lf_TestJudgeModel_106 hm.1 (gd DX10_status_0 4 rfl) ?_
  exact g_iret C (by omega) (by omega) ⟨by rw [hI_sI, if_neg (by omega)], rfl⟩ (gd DX10_status_0 5 rfl)
theorem e_m_refuse (hm : mSh m h) (why : Int32) : EvF w 0 0 0 yX10_refuse cX10_refuse 2 (some .int) [.ref m, .int why] h (some (.int (-1))) (sI (sI h m 1 0) m 11 why) := by
  refine g_start (by decide) (Nat.le_of_ble_eq_true rfl) [(0, _), (1, _)] rfl (fun z hfl C => ?_)
  refine g_aload_n C (gd DX10_refuse_0 0 rfl) 0 rfl rfl ?_
  refine g_iconst (v := 0) C (gd DX10_refuse_0 1 rfl) (by decide) ?_
  refine g_puti (ci := 10) (k := 1) C rfl (by decide) rfl lf_TestJudgeModel_103 hm.1 (Or.inl rfl) rfl (gd DX10_refuse_0 2 rfl) ?_
  refine g_aload_n C (gd DX10_refuse_0 3 rfl) 0 rfl rfl ?_
  refine g_iload_n C (gd DX10_refuse_0 4 rfl) 1 rfl rfl ?_
  refine g_puti (ci := 10) (k := 11) C rfl (by decide) rfl lf_TestJudgeModel_106 hm.1 (Or.inl rfl) rfl (gd DX10_refuse_0 5 rfl) ?_
  refine g_iconst (v := -1) C (gd DX10_refuse_0 6 rfl) (by decide) ?_
  exact g_iret C (by omega) (by omega) ⟨rfl, rfl⟩ (gd DX10_refuse_0 7 rfl)
theorem e_m_gives (hm : mSh m h) (v : Int32) : EvF w 0 0 0 yX10_gives cX10_gives 2 (some .int) [.ref m, .int v] h (some (.int v)) (sI (sI h m 1 0) m 11 0) := by
  refine g_start (by decide) (Nat.le_of_ble_eq_true rfl) [(0, _), (1, _)] rfl (fun z hfl C => ?_)
  refine g_aload_n C (gd DX10_gives_0 0 rfl) 0 rfl rfl ?_
  refine g_iconst (v := 0) C (gd DX10_gives_0 1 rfl) (by decide) ?_
  refine g_puti (ci := 10) (k := 1) C rfl (by decide) rfl lf_TestJudgeModel_103 hm.1 (Or.inl rfl) rfl (gd DX10_gives_0 2 rfl) ?_
  refine g_aload_n C (gd DX10_gives_0 3 rfl) 0 rfl rfl ?_
  refine g_iconst (v := 0) C (gd DX10_gives_0 4 rfl) (by decide) ?_
  refine g_puti (ci := 10) (k := 11) C rfl (by decide) rfl lf_TestJudgeModel_106 hm.1 (Or.inl rfl) rfl (gd DX10_gives_0 5 rfl) ?_
  refine g_iload_n C (gd DX10_gives_0 6 rfl) 1 rfl rfl ?_
  exact g_iret C (by omega) (by omega) ⟨rfl, rfl⟩ (gd DX10_gives_0 7 rfl)
theorem e_m_givesLong (hm : mSh m h) (v : Int64) : EvF w 0 0 0 yX10_givesLong cX10_givesLong 3 (some .long) [.ref m, .long v] h (some (.long v)) (sI (sI h m 1 0) m 11 0) := by
  refine g_start (by decide) (Nat.le_of_ble_eq_true rfl) [(0, _), (1, _)] rfl (fun z hfl C => ?_)
  refine g_aload_n C (gd DX10_givesLong_0 0 rfl) 0 rfl rfl ?_
  refine g_iconst (v := 0) C (gd DX10_givesLong_0 1 rfl) (by decide) ?_
  refine g_puti (ci := 10) (k := 1) C rfl (by decide) rfl lf_TestJudgeModel_103 hm.1 (Or.inl rfl) rfl (gd DX10_givesLong_0 2 rfl) ?_
  refine g_aload_n C (gd DX10_givesLong_0 3 rfl) 0 rfl rfl ?_
  refine g_iconst (v := 0) C (gd DX10_givesLong_0 4 rfl) (by decide) ?_
  refine g_puti (ci := 10) (k := 11) C rfl (by decide) rfl lf_TestJudgeModel_106 hm.1 (Or.inl rfl) rfl (gd DX10_givesLong_0 5 rfl) ?_
  refine g_lload_n C (gd DX10_givesLong_0 6 rfl) 1 rfl rfl ?_
  exact g_lret C (by omega) (by omega) ⟨rfl, rfl⟩ (gd DX10_givesLong_0 7 rfl)
theorem e_m_isFrom (v lo hi : Int32) : EvF w 0 0 0 yX10_isFrom cX10_isFrom 3 (some .boolean) [.int v, .int lo, .int hi] h (some (.int (b1 (lo ≤ v ∧ v ≤ hi)))) h := by
  refine g_start (by decide) (Nat.le_of_ble_eq_true rfl) [(0, _), (1, _), (2, _)] rfl (fun z hfl C => ?_)
  refine g_iload_n C (gd DX10_isFrom_0 0 rfl) 0 rfl rfl ?_
  refine g_iload_n C (gd DX10_isFrom_0 1 rfl) 1 rfl rfl ?_
  refine g_icmp_lt C 14 (gd DX10_isFrom_0 2 rfl) (by decide) (fun c2 => ?_) (fun c2 => ?_)
  · refine g_iconst (v := 0) C (gd DX10_isFrom_0 8 rfl) (by decide) ?_
    exact g_zret C (by decide) (by omega) (by omega) ⟨by rw [b1_f (fun q => absurd q.1 (Int32.not_le.mpr c2))], rfl⟩ (gd DX10_isFrom_0 9 rfl)
  · refine g_iload_n C (gd DX10_isFrom_0 3 rfl) 0 rfl rfl ?_
    refine g_iload_n C (gd DX10_isFrom_0 4 rfl) 2 rfl rfl ?_
    refine g_icmp_gt C 14 (gd DX10_isFrom_0 5 rfl) (by decide) (fun c7 => ?_) (fun c7 => ?_)
    · refine g_iconst (v := 0) C (gd DX10_isFrom_0 8 rfl) (by decide) ?_
      exact g_zret C (by decide) (by omega) (by omega) ⟨by rw [b1_f (fun q => absurd q.2 (Int32.not_le.mpr c7))], rfl⟩ (gd DX10_isFrom_0 9 rfl)
    · refine g_iconst (v := 1) C (gd DX10_isFrom_0 6 rfl) (by decide) ?_
      refine g_goto (tgt := 15) C (gd DX10_isFrom_0 7 rfl) (by decide) ?_
      exact g_zret C (by decide) (by omega) (by omega) ⟨by rw [b1_t ⟨Int32.not_lt.mp c2, Int32.not_lt.mp c7⟩], rfl⟩ (gd DX10_isFrom_0 9 rfl)
theorem e_m_has (s k : Int32) : EvF w 0 0 0 yX10_has cX10_has 2 (some .boolean) [.int s, .int k] h (some (.int (b1 (s >>> (k &&& 31) &&& 1 = 1)))) h := by
  refine g_start (by decide) (Nat.le_of_ble_eq_true rfl) [(0, _), (1, _)] rfl (fun z hfl C => ?_)
  refine g_iload_n C (gd DX10_has_0 0 rfl) 0 rfl rfl ?_
  refine g_iload_n C (gd DX10_has_0 1 rfl) 1 rfl rfl ?_
  refine g_ishr C (gd DX10_has_0 2 rfl) ?_
  refine g_iconst (v := 1) C (gd DX10_has_0 3 rfl) (by decide) ?_
  refine g_iand C (gd DX10_has_0 4 rfl) ?_
  refine g_iconst (v := 1) C (gd DX10_has_0 5 rfl) (by decide) ?_
  refine g_icmp_ne C 13 (gd DX10_has_0 6 rfl) (by decide) (fun c6 => ?_) (fun c6 => ?_)
  · refine g_iconst (v := 0) C (gd DX10_has_0 9 rfl) (by decide) ?_
    exact g_zret C (by decide) (by omega) (by omega) ⟨by rw [b1_f c6], rfl⟩ (gd DX10_has_0 10 rfl)
  · refine g_iconst (v := 1) C (gd DX10_has_0 7 rfl) (by decide) ?_
    refine g_goto (tgt := 14) C (gd DX10_has_0 8 rfl) (by decide) ?_
    exact g_zret C (by decide) (by omega) (by omega) ⟨by rw [b1_t c6], rfl⟩ (gd DX10_has_0 10 rfl)
theorem e_m_at (hm : mSh m h) {r a : Int32} {j : Nat} (hj : 307 * r + a = nI j) (hlt : j < 31314) : EvF w 0 0 0 yX10_at cX10_at 3 (some .int) [.ref m, .int r, .int a] h (some (.int (hI h (m + 1) j))) h := by
  refine g_start (by decide) (Nat.le_of_ble_eq_true rfl) [(0, _), (1, _), (2, _)] rfl (fun z hfl C => ?_)
  refine g_aload_n C (gd DX10_at_0 0 rfl) 0 rfl rfl ?_
  refine g_getr (ci := 10) (k := 0) C rfl (by decide) rfl lf_TestJudgeModel_7 hm.1 (hm.2 0 1 12 31314 rfl).1 (gd DX10_at_0 1 rfl) ?_
  refine g_sipush (v := 307) C (gd DX10_at_0 2 rfl) (by decide) ?_
  refine g_iload_n C (gd DX10_at_0 3 rfl) 1 rfl rfl ?_
  refine g_imul C (gd DX10_at_0 4 rfl) ?_
  refine g_iload_n C (gd DX10_at_0 5 rfl) 2 rfl rfl ?_
  refine g_iadd C (gd DX10_at_0 6 rfl) ?_
  refine g_iaj C (hm.2 0 1 12 31314 rfl).2.1 (hm.2 0 1 12 31314 rfl).2.2 (by decide) hj hlt (gd DX10_at_0 7 rfl) ?_
  exact g_iret C (by omega) (by omega) ⟨rfl, rfl⟩ (gd DX10_at_0 8 rfl)
theorem e_m_puts (hm : mSh m h) {r a v : Int32} {j : Nat} (hj : 307 * r + a = nI j) (hlt : j < 31314) : EvF w 0 0 0 yX10_puts cX10_puts 4 none [.ref m, .int r, .int a, .int v] h none (sI h (m + 1) j v) := by
  refine g_start (by decide) (Nat.le_of_ble_eq_true rfl) [(0, _), (1, _), (2, _), (3, _)] rfl (fun z hfl C => ?_)
  refine g_aload_n C (gd DX10_puts_0 0 rfl) 0 rfl rfl ?_
  refine g_getr (ci := 10) (k := 0) C rfl (by decide) rfl lf_TestJudgeModel_7 hm.1 (hm.2 0 1 12 31314 rfl).1 (gd DX10_puts_0 1 rfl) ?_
  refine g_sipush (v := 307) C (gd DX10_puts_0 2 rfl) (by decide) ?_
  refine g_iload_n C (gd DX10_puts_0 3 rfl) 1 rfl rfl ?_
  refine g_imul C (gd DX10_puts_0 4 rfl) ?_
  refine g_iload_n C (gd DX10_puts_0 5 rfl) 2 rfl rfl ?_
  refine g_iadd C (gd DX10_puts_0 6 rfl) ?_
  refine g_iload_n C (gd DX10_puts_0 7 rfl) 3 rfl rfl ?_
  refine g_isj C (hm.2 0 1 12 31314 rfl).2.1 (hm.2 0 1 12 31314 rfl).2.2 (by decide) hj hlt (gd DX10_puts_0 8 rfl) ?_
  exact g_vret C (by omega) (by omega) ⟨rfl, rfl⟩ (gd DX10_puts_0 9 rfl)
theorem e_m_isProgram (hm : mSh m h) (p : Int32) : EvF w 1 0 0 yX10_isProgram cX10_isProgram 2 (some .boolean) [.ref m, .int p] h (some (.int (b1 (0 ≤ p ∧ p ≤ hI h m 4 - 1)))) h := by
  refine g_start (by decide) (Nat.le_of_ble_eq_true rfl) [(0, _), (1, _)] rfl (fun z hfl C => ?_)
  refine g_iload_n C (gd DX10_isProgram_0 0 rfl) 1 rfl rfl ?_
  refine g_iconst (v := 0) C (gd DX10_isProgram_0 1 rfl) (by decide) ?_
  refine g_aload_n C (gd DX10_isProgram_0 2 rfl) 0 rfl rfl ?_
  refine g_geti (ci := 10) (k := 4) C rfl (by decide) rfl lf_TestJudgeModel_109 hm.1 (gd DX10_isProgram_0 3 rfl) ?_
  refine g_iconst (v := 1) C (gd DX10_isProgram_0 4 rfl) (by decide) ?_
  refine g_isub C (gd DX10_isProgram_0 5 rfl) ?_
  refine g_cS1 C [_, _, _] mX10_isFrom lm_TestJudgeModel_112 (e_m_isFrom _ _ _) hfl (by decide) (by decide) (by omega) (by omega) rfl rfl (Nat.le_of_ble_eq_true rfl) (gd DX10_isProgram_0 6 rfl) ?_
  exact g_zret C (b1_z _) (by omega) (by omega) ⟨rfl, rfl⟩ (gd DX10_isProgram_0 7 rfl)
theorem e_m_isFact (hm : mSh m h) (p : Int32) : EvF w 1 0 0 yX10_isFact cX10_isFact 2 (some .boolean) [.ref m, .int p] h (some (.int (b1 (0 ≤ p ∧ p ≤ hI h m 5 - 1)))) h := by
  refine g_start (by decide) (Nat.le_of_ble_eq_true rfl) [(0, _), (1, _)] rfl (fun z hfl C => ?_)
  refine g_iload_n C (gd DX10_isFact_0 0 rfl) 1 rfl rfl ?_
  refine g_iconst (v := 0) C (gd DX10_isFact_0 1 rfl) (by decide) ?_
  refine g_aload_n C (gd DX10_isFact_0 2 rfl) 0 rfl rfl ?_
  refine g_geti (ci := 10) (k := 5) C rfl (by decide) rfl lf_TestJudgeModel_120 hm.1 (gd DX10_isFact_0 3 rfl) ?_
  refine g_iconst (v := 1) C (gd DX10_isFact_0 4 rfl) (by decide) ?_
  refine g_isub C (gd DX10_isFact_0 5 rfl) ?_
  refine g_cS1 C [_, _, _] mX10_isFrom lm_TestJudgeModel_112 (e_m_isFrom _ _ _) hfl (by decide) (by decide) (by omega) (by omega) rfl rfl (Nat.le_of_ble_eq_true rfl) (gd DX10_isFact_0 6 rfl) ?_
  exact g_zret C (b1_z _) (by omega) (by omega) ⟨rfl, rfl⟩ (gd DX10_isFact_0 7 rfl)
end M1
