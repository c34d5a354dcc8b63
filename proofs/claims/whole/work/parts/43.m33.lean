/-! the call fact -/
section M33
variable {w : gD} {m : Nat} {h : HS}
theorem e_m_fact {nt na np nf : Nat} {fw : Nat → Nat} (ok : mOK m h nt na np nf fw) (p k : Int32) :
    Ev w 2 0 0 yX10_fact cX10_fact 3 (some .int) [.ref m, .int p, .int k] h (fun r' h' => (¬ (0 ≤ k ∧ k ≤ 1) ∧ r' = some (.int (-1)) ∧ h' = sI (sI h m 1 0) m 11 1) ∨ ((0 ≤ k ∧ k ≤ 1) ∧ ¬ (0 ≤ p ∧ p ≤ nI nf - 1) ∧ r' = some (.int (-1)) ∧ h' = sI (sI h m 1 0) m 11 2) ∨ ((0 ≤ k ∧ k ≤ 1) ∧ ∃ r, r < nf ∧ p = nI r ∧ r' = some (.int (if k = 0 then gRec (hI h (m + 1)) (8 + r) 0 else b1 (hI h m 6 >>> (nI r &&& 31) &&& 1 = 1))) ∧ h' = sI (sI h m 1 0) m 11 0)) := by
  obtain ⟨hm, hnt, hna, hnp, hF, hw⟩ := ok
  have hn2 := hF.1
  refine g_start (by decide) (Nat.le_of_ble_eq_true rfl) [(0, _), (1, _), (2, _)] rfl (fun z hfl C => ?_)
  refine g_iload_n C (gd DX10_fact_0 0 rfl) 2 rfl rfl ?_
  refine g_iconst (v := 0) C (gd DX10_fact_0 1 rfl) (by decide) ?_
  refine g_iconst (v := 1) C (gd DX10_fact_0 2 rfl) (by decide) ?_
  refine g_cS1 C [_, _, _] mX10_isFrom lm_TestJudgeModel_112 (e_m_isFrom _ _ _) hfl (by decide) (by decide) (by omega) (by omega) rfl rfl (Nat.le_of_ble_eq_true rfl) (gd DX10_fact_0 3 rfl) ?_
  by_cases hk : 0 ≤ k ∧ k ≤ 1
  · rw [b1_t hk]
    refine g_if_ne C 15 (gd DX10_fact_0 4 rfl) (by decide) (fun c6 => ?_) (fun c6 => ?_)
    · refine g_aload_n C (gd DX10_fact_0 9 rfl) 0 rfl rfl ?_
      refine g_iload_n C (gd DX10_fact_0 10 rfl) 1 rfl rfl ?_
      refine g_cV1 (ci := 10) C [_] mX10_isFact lm_TestJudgeModel_393 (by exact hm.1) rfl rfl (e_m_isFact hm _) hfl (by decide) (by decide) (by omega) (by omega) rfl rfl (Nat.le_of_ble_eq_true rfl) (gd DX10_fact_0 11 rfl) ?_
      rw [hF.2.1]
      by_cases hp : 0 ≤ p ∧ p ≤ nI nf - 1
      · rw [b1_t hp]
        obtain ⟨r, hr, rfl⟩ := below_of (by omega) hp
        refine g_if_ne C 29 (gd DX10_fact_0 12 rfl) (by decide) (fun c20 => ?_) (fun c20 => ?_)
        · refine g_aload_n C (gd DX10_fact_0 17 rfl) 0 rfl rfl ?_
          refine g_iload_n C (gd DX10_fact_0 18 rfl) 2 rfl rfl ?_
          refine g_if_ne C 46 (gd DX10_fact_0 19 rfl) (by decide) (fun c31 => ?_) (fun c31 => ?_)
          · refine g_aload_n C (gd DX10_fact_0 27 rfl) 0 rfl rfl ?_
            refine g_geti (ci := 10) (k := 6) C rfl (by decide) rfl lf_TestJudgeModel_343 hm.1 (gd DX10_fact_0 28 rfl) ?_
            refine g_iload_n C (gd DX10_fact_0 29 rfl) 1 rfl rfl ?_
            refine g_cS1 C [_, _] mX10_has lm_TestJudgeModel_144 (e_m_has _ _) hfl (by decide) (by decide) (by omega) (by omega) rfl rfl (Nat.le_of_ble_eq_true rfl) (gd DX10_fact_0 30 rfl) ?_
            by_cases hb : hI h m 6 >>> (nI r &&& 31) &&& 1 = 1
            · rw [b1_t hb]
              refine g_if_eq C 61 (gd DX10_fact_0 31 rfl) (by decide) (fun c54 => ?_) (fun c54 => ?_)
              · exact absurd c54 (by decide)
              · refine g_iconst (v := 1) C (gd DX10_fact_0 32 rfl) (by decide) ?_
                refine g_goto (tgt := 62) C (gd DX10_fact_0 33 rfl) (by decide) ?_
                refine g_cV1 (ci := 10) C [_] mX10_gives lm_TestJudgeModel_349 (by exact hm.1) rfl rfl (e_m_gives hm _) hfl (by decide) (by decide) (by omega) (by omega) rfl rfl (Nat.le_of_ble_eq_true rfl) (gd DX10_fact_0 35 rfl) ?_
                exact g_iret C (by omega) (by omega) (Or.inr (Or.inr ⟨hk, r, hr, rfl, by rw [if_neg c31, b1_t hb], rfl⟩)) (gd DX10_fact_0 36 rfl)
            · rw [b1_f hb]
              refine g_if_eq C 61 (gd DX10_fact_0 31 rfl) (by decide) (fun c54 => ?_) (fun c54 => ?_)
              · refine g_iconst (v := 0) C (gd DX10_fact_0 34 rfl) (by decide) ?_
                refine g_cV1 (ci := 10) C [_] mX10_gives lm_TestJudgeModel_349 (by exact hm.1) rfl rfl (e_m_gives hm _) hfl (by decide) (by decide) (by omega) (by omega) rfl rfl (Nat.le_of_ble_eq_true rfl) (gd DX10_fact_0 35 rfl) ?_
                exact g_iret C (by omega) (by omega) (Or.inr (Or.inr ⟨hk, r, hr, rfl, by rw [if_neg c31, b1_f hb], rfl⟩)) (gd DX10_fact_0 36 rfl)
              · exact absurd rfl c54
          · refine g_aload_n C (gd DX10_fact_0 20 rfl) 0 rfl rfl ?_
            refine g_bipush (v := 8) C (gd DX10_fact_0 21 rfl) (by decide) ?_
            refine g_iload_n C (gd DX10_fact_0 22 rfl) 1 rfl rfl ?_
            refine g_iadd C (gd DX10_fact_0 23 rfl) ?_
            refine g_iconst (v := 0) C (gd DX10_fact_0 24 rfl) (by decide) ?_
            refine g_cV1 (ci := 10) C [_, _] mX10_at lm_TestJudgeModel_131 (by exact hm.1) rfl rfl (e_atH (x := 8 + r) (k := 0) hm (by omega) (by omega) (nx_add (a := 8) rfl rfl) rfl) hfl (by decide) (by decide) (by omega) (by omega) rfl rfl (Nat.le_of_ble_eq_true rfl) (gd DX10_fact_0 25 rfl) ?_
            refine g_goto (tgt := 62) C (gd DX10_fact_0 26 rfl) (by decide) ?_
            refine g_cV1 (ci := 10) C [_] mX10_gives lm_TestJudgeModel_349 (by exact hm.1) rfl rfl (e_m_gives hm _) hfl (by decide) (by decide) (by omega) (by omega) rfl rfl (Nat.le_of_ble_eq_true rfl) (gd DX10_fact_0 35 rfl) ?_
            exact g_iret C (by omega) (by omega) (Or.inr (Or.inr ⟨hk, r, hr, rfl, by rw [if_pos c31], rfl⟩)) (gd DX10_fact_0 36 rfl)
        · exact absurd c20 (by decide)
      · rw [b1_f hp]
        refine g_if_ne C 29 (gd DX10_fact_0 12 rfl) (by decide) (fun c20 => ?_) (fun c20 => ?_)
        · exact absurd rfl c20
        · refine g_aload_n C (gd DX10_fact_0 13 rfl) 0 rfl rfl ?_
          refine g_iconst (v := 2) C (gd DX10_fact_0 14 rfl) (by decide) ?_
          refine g_cV1 (ci := 10) C [_] mX10_refuse lm_TestJudgeModel_331 (by exact hm.1) rfl rfl (e_m_refuse hm _) hfl (by decide) (by decide) (by omega) (by omega) rfl rfl (Nat.le_of_ble_eq_true rfl) (gd DX10_fact_0 15 rfl) ?_
          exact g_iret C (by omega) (by omega) (Or.inr (Or.inl ⟨hk, hp, rfl, rfl⟩)) (gd DX10_fact_0 16 rfl)
    · exact absurd c6 (by decide)
  · rw [b1_f hk]
    refine g_if_ne C 15 (gd DX10_fact_0 4 rfl) (by decide) (fun c6 => ?_) (fun c6 => ?_)
    · exact absurd rfl c6
    · refine g_aload_n C (gd DX10_fact_0 5 rfl) 0 rfl rfl ?_
      refine g_iconst (v := 1) C (gd DX10_fact_0 6 rfl) (by decide) ?_
      refine g_cV1 (ci := 10) C [_] mX10_refuse lm_TestJudgeModel_331 (by exact hm.1) rfl rfl (e_m_refuse hm _) hfl (by decide) (by decide) (by omega) (by omega) rfl rfl (Nat.le_of_ble_eq_true rfl) (gd DX10_fact_0 7 rfl) ?_
      exact g_iret C (by omega) (by omega) (Or.inl ⟨hk, rfl, rfl⟩) (gd DX10_fact_0 8 rfl)
end M33
