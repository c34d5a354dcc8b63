/-! the call equal -/
section M31
variable {w : gD} {m : Nat} {h : HS}
theorem e_m_equal {nt na np nf : Nat} {fw : Nat → Nat} (ok : mOK m h nt na np nf fw) (p o : Int32) :
    Ev w 8 0 0 yX10_equal cX10_equal 3 (some .int) [.ref m, .int p, .int o] h (fun r' h' => (¬ ((0 ≤ p ∧ p ≤ nI np - 1) ∧ (0 ≤ o ∧ o ≤ nI np - 1)) ∧ r' = some (.int (-1)) ∧ h' = sI (sI h m 1 0) m 11 2) ∨ ∃ r q, r < np ∧ q < np ∧ p = nI r ∧ o = nI q ∧ ∃ h1 N, layP m h nf (hI h m 6) r q h1 ∧ N ≤ 16400 ∧ hI h1 m 42 = nI N ∧ ((r' = some (.int 1) ∧ ∀ t, t < N → hI h1 (m + 8) t = hI h1 (m + 9) t) ∨ (r' = some (.int 0) ∧ ∃ t, t < N ∧ ¬ hI h1 (m + 8) t = hI h1 (m + 9) t)) ∧ h' = sI (sI h1 m 1 0) m 11 0) := by
  obtain ⟨hm, hnt, hna, hnp, hF, hw⟩ := ok
  refine g_start (by decide) (Nat.le_of_ble_eq_true rfl) [(0, _), (1, _), (2, _)] rfl (fun z hfl C => ?_)
  refine g_aload_n C (gd DX10_equal_0 0 rfl) 0 rfl rfl ?_
  refine g_iload_n C (gd DX10_equal_0 1 rfl) 1 rfl rfl ?_
  refine g_iload_n C (gd DX10_equal_0 2 rfl) 2 rfl rfl ?_
  refine g_cV1 (ci := 10) C [_, _] mX10_areTwo lm_TestJudgeModel_434 (by exact hm.1) rfl rfl (e_m_areTwo hm _ _) hfl (by decide) (by decide) (by omega) (by omega) rfl rfl (Nat.le_of_ble_eq_true rfl) (gd DX10_equal_0 3 rfl) ?_
  rw [hnp.2]
  by_cases hp : (0 ≤ p ∧ p ≤ nI np - 1) ∧ (0 ≤ o ∧ o ≤ nI np - 1)
  · rw [b1_t hp]
    obtain ⟨r, hr, rfl⟩ := below_of (by omega) hp.1
    obtain ⟨q, hq, rfl⟩ := below_of (by omega) hp.2
    obtain ⟨wr, lr, hwr⟩ := hw r hr
    obtain ⟨wo, lo, hwo⟩ := hw q hq
    refine g_if_eq C 30 (gd DX10_equal_0 4 rfl) (by decide) (fun c6 => ?_) (fun c6 => ?_)
    · exact absurd c6 (by decide)
    · refine g_aload_n C (gd DX10_equal_0 5 rfl) 0 rfl rfl ?_
      refine g_aload_n C (gd DX10_equal_0 6 rfl) 0 rfl rfl ?_
      refine g_iload_n C (gd DX10_equal_0 7 rfl) 1 rfl rfl ?_
      refine g_iload_n C (gd DX10_equal_0 8 rfl) 2 rfl rfl ?_
      refine g_callV (ci := 10) C [_, _] mX10_areEqual lm_TestJudgeModel_437 (by exact hm.1) rfl rfl (e_m_areEqual hm hF (by omega : r < 8) (by omega : q < 8) lr lo hwr hwo) hfl (by decide) (by decide) (by omega) (by omega) rfl rfl (Nat.le_of_ble_eq_true rfl) (gd DX10_equal_0 9 rfl) (fun r h2 hp => ?_)
      obtain ⟨hl, N, hN, hst, hv⟩ := hp
      have hm2 : mSh m h2 := by
        obtain ⟨N', _, _, hf, _⟩ := hl
        exact hm.fr hf
      rcases hv with ⟨rfl, hv⟩ | ⟨rfl, hv⟩
      · show GW z w 3 _ 0 0 _ _ [.int 1, .ref m] _
        refine g_if_eq C 23 (gd DX10_equal_0 10 rfl) (by decide) (fun c16 => ?_) (fun c16 => ?_)
        · exact absurd c16 (by decide)
        · refine g_iconst (v := 1) C (gd DX10_equal_0 11 rfl) (by decide) ?_
          refine g_goto (tgt := 24) C (gd DX10_equal_0 12 rfl) (by decide) ?_
          refine g_cV1 (ci := 10) C [_] mX10_gives lm_TestJudgeModel_349 (by exact hm2.1) rfl rfl (e_m_gives hm2 _) hfl (by decide) (by decide) (by omega) (by omega) rfl rfl (Nat.le_of_ble_eq_true rfl) (gd DX10_equal_0 14 rfl) ?_
          refine g_goto (tgt := 35) C (gd DX10_equal_0 15 rfl) (by decide) ?_
          exact g_iret C (by omega) (by omega) (Or.inr ⟨r, q, hr, hq, rfl, rfl, _, N, hl, hN, hst, Or.inl ⟨rfl, hv⟩, rfl⟩) (gd DX10_equal_0 19 rfl)
      · show GW z w 3 _ 0 0 _ _ [.int 0, .ref m] _
        refine g_if_eq C 23 (gd DX10_equal_0 10 rfl) (by decide) (fun c16 => ?_) (fun c16 => ?_)
        · refine g_iconst (v := 0) C (gd DX10_equal_0 13 rfl) (by decide) ?_
          refine g_cV1 (ci := 10) C [_] mX10_gives lm_TestJudgeModel_349 (by exact hm2.1) rfl rfl (e_m_gives hm2 _) hfl (by decide) (by decide) (by omega) (by omega) rfl rfl (Nat.le_of_ble_eq_true rfl) (gd DX10_equal_0 14 rfl) ?_
          refine g_goto (tgt := 35) C (gd DX10_equal_0 15 rfl) (by decide) ?_
          exact g_iret C (by omega) (by omega) (Or.inr ⟨r, q, hr, hq, rfl, rfl, _, N, hl, hN, hst, Or.inr ⟨rfl, hv⟩, rfl⟩) (gd DX10_equal_0 19 rfl)
        · exact absurd rfl c16
  · rw [b1_f hp]
    refine g_if_eq C 30 (gd DX10_equal_0 4 rfl) (by decide) (fun c6 => ?_) (fun c6 => ?_)
    · refine g_aload_n C (gd DX10_equal_0 16 rfl) 0 rfl rfl ?_
      refine g_iconst (v := 2) C (gd DX10_equal_0 17 rfl) (by decide) ?_
      refine g_cV1 (ci := 10) C [_] mX10_refuse lm_TestJudgeModel_331 (by exact hm.1) rfl rfl (e_m_refuse hm _) hfl (by decide) (by decide) (by omega) (by omega) rfl rfl (Nat.le_of_ble_eq_true rfl) (gd DX10_equal_0 18 rfl) ?_
      exact g_iret C (by omega) (by omega) (Or.inl ⟨hp, rfl, rfl⟩) (gd DX10_equal_0 19 rfl)
    · exact absurd rfl c6
end M31
