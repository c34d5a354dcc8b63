/-! the reference's object at rest between calls; the call rests -/
/-- np programs of weight 6 at most, nf facts, nt tests, na acts -/
def mOK (m : Nat) (h : HS) (nt na np nf : Nat) (fw : Nat → Nat) : Prop := mSh m h ∧ (nt ≤ 3 ∧ hI h m 2 = nI nt) ∧ (na ≤ 3 ∧ hI h m 3 = nI na) ∧ (np ≤ 8 ∧ hI h m 4 = nI np) ∧ mFa m h nf fw ∧ ∀ p, p < np → ∃ wr, wr ≤ 6 ∧ gRec (hI h (m + 1)) p 0 = nI wr
theorem below_of {p : Int32} {n : Nat} (hn : n < 100000) (hp : 0 ≤ p ∧ p ≤ nI n - 1) : ∃ r, r < n ∧ p = nI r := by
  obtain ⟨j, hj, rfl⟩ := nI_of (Int32.not_lt.mpr hp.1)
  by_cases e : n = 0
  · subst e
    have h2 := Int32.le_iff_toInt_le.mp hp.2
    rw [nI_toInt hj, show (nI 0 - 1 : Int32).toInt = -1 from by decide] at h2
    omega
  · have h2 := hp.2
    rw [show nI n - 1 = nI (n - 1) from nx_sub (b := 1) rfl rfl (by omega)] at h2
    have := (nI_leI hj (by omega)).mp h2
    exact ⟨j, by omega, rfl⟩
section M28
variable {w : gD} {m : Nat} {h : HS}
theorem e_m_rests {nt na np nf : Nat} {fw : Nat → Nat} (ok : mOK m h nt na np nf fw) (p : Int32) :
    Ev w 8 0 0 yX10_rests cX10_rests 2 (some .int) [.ref m, .int p] h (fun r' h' => (¬ (0 ≤ p ∧ p ≤ nI np - 1) ∧ r' = some (.int (-1)) ∧ h' = sI (sI h m 1 0) m 11 2) ∨ ∃ r, r < np ∧ p = nI r ∧ ∃ h1 N R C1 RO h2, rsP m h nf r h1 N R C1 RO h2 ∧ r' = some (.int (nI R.length)) ∧ h' = sI (sI h2 m 1 0) m 11 0) := by
  obtain ⟨hm, hnt, hna, hnp, hF, hw⟩ := ok
  refine g_start (by decide) (Nat.le_of_ble_eq_true rfl) [(0, _), (1, _)] rfl (fun z hfl C => ?_)
  refine g_aload_n C (gd DX10_rests_0 0 rfl) 0 rfl rfl ?_
  refine g_iload_n C (gd DX10_rests_0 1 rfl) 1 rfl rfl ?_
  refine g_cV1 (ci := 10) C [_] mX10_isProgram lm_TestJudgeModel_116 (by exact hm.1) rfl rfl (e_m_isProgram hm _) hfl (by decide) (by decide) (by omega) (by omega) rfl rfl (Nat.le_of_ble_eq_true rfl) (gd DX10_rests_0 2 rfl) ?_
  rw [hnp.2]
  by_cases hp : 0 ≤ p ∧ p ≤ nI np - 1
  · rw [b1_t hp]
    obtain ⟨r, hr, rfl⟩ := below_of (by omega) hp
    obtain ⟨wr, lr, hwr⟩ := hw r hr
    refine g_if_ne C 14 (gd DX10_rests_0 3 rfl) (by decide) (fun c5 => ?_) (fun c5 => ?_)
    · refine g_aload_n C (gd DX10_rests_0 8 rfl) 0 rfl rfl ?_
      refine g_iload_n C (gd DX10_rests_0 9 rfl) 1 rfl rfl ?_
      refine g_callV (ci := 10) C [_] mX10_laysRests lm_TestJudgeModel_463 (by exact hm.1) rfl rfl (e_m_laysRests hm hF hnt.1 hnt.2 (by omega : r < 8) lr hwr) hfl (by decide) (by decide) (by omega) (by omega) rfl rfl (Nat.le_of_ble_eq_true rfl) (gd DX10_rests_0 10 rfl) (fun r h2 hp => ?_)
      obtain ⟨rfl, h1, N, R, C1, RO, hrs⟩ := hp
      have hrs0 := hrs
      obtain ⟨-, -, hf, -, -, -, rp, T, CN, RS, RF, -, -, -, -, rfl⟩ := hrs
      have hm2 : mSh m (hR5 m (hC3 m h1 T CN C1) RO RS RF R.length) := mSh.fr (h := h) (h1 := h1) hm hf
      show GW z w 2 _ 0 0 _ _ [] _
      refine g_aload_n C (gd DX10_rests_0 11 rfl) 0 rfl rfl ?_
      refine g_aload_n C (gd DX10_rests_0 12 rfl) 0 rfl rfl ?_
      refine g_geti (ci := 10) (k := 54) C rfl (by decide) rfl lf_TestJudgeModel_457 hm2.1 (gd DX10_rests_0 13 rfl) ?_
      rw [hR5_54]
      refine g_cV1 (ci := 10) C [_] mX10_gives lm_TestJudgeModel_349 (by exact hm2.1) rfl rfl (e_m_gives hm2 _) hfl (by decide) (by decide) (by omega) (by omega) rfl rfl (Nat.le_of_ble_eq_true rfl) (gd DX10_rests_0 14 rfl) ?_
      exact g_iret C (by omega) (by omega) (Or.inr ⟨r, hr, rfl, h1, N, R, C1, RO, _, hrs0, rfl, rfl⟩) (gd DX10_rests_0 15 rfl)
    · exact absurd c5 (by decide)
  · rw [b1_f hp]
    refine g_if_ne C 14 (gd DX10_rests_0 3 rfl) (by decide) (fun c5 => ?_) (fun c5 => ?_)
    · exact absurd rfl c5
    · refine g_aload_n C (gd DX10_rests_0 4 rfl) 0 rfl rfl ?_
      refine g_iconst (v := 2) C (gd DX10_rests_0 5 rfl) (by decide) ?_
      refine g_cV1 (ci := 10) C [_] mX10_refuse lm_TestJudgeModel_331 (by exact hm.1) rfl rfl (e_m_refuse hm _) hfl (by decide) (by decide) (by omega) (by omega) rfl rfl (Nat.le_of_ble_eq_true rfl) (gd DX10_rests_0 6 rfl) ?_
      exact g_iret C (by omega) (by omega) (Or.inl ⟨hp, rfl, rfl⟩) (gd DX10_rests_0 7 rfl)
end M28
