/-! the calls right and equal -/
/-- every end behind the atoms s lies within the set to -/
def rgP (m : Nat) (h : HS) (N : Nat) (s to : Int32) : Prop := (hI h (m + 8) 0 &&& s) &&& (to ^^^ -1) = 0 ∧ ∀ t, t < N → (∃ d, bRc (hI h (m + 7)) s d t) → hI h (m + 8) t &&& (to ^^^ -1) = 0
section M30
variable {w : gD} {m : Nat} {h : HS}
theorem e_m_right {nt na np nf : Nat} {fw : Nat → Nat} (ok : mOK m h nt na np nf fw) (s p to : Int32) :
    Ev w 7 0 0 yX10_right cX10_right 4 (some .int) [.ref m, .int s, .int p, .int to] h (fun r' h' => (¬ ((0 ≤ s ∧ s ≤ allF (nI nt)) ∧ (0 ≤ to ∧ to ≤ allF (nI nt))) ∧ r' = some (.int (-1)) ∧ h' = sI (sI h m 1 0) m 11 1) ∨ (((0 ≤ s ∧ s ≤ allF (nI nt)) ∧ (0 ≤ to ∧ to ≤ allF (nI nt))) ∧ ¬ (0 ≤ p ∧ p ≤ nI np - 1) ∧ r' = some (.int (-1)) ∧ h' = sI (sI h m 1 0) m 11 2) ∨ (((0 ≤ s ∧ s ≤ allF (nI nt)) ∧ (0 ≤ to ∧ to ≤ allF (nI nt))) ∧ ∃ r, r < np ∧ p = nI r ∧ ∃ h1 N MT LN, layP m (hs92 m h) nf (hI h m 6) r 92 h1 ∧ LD (kOf m (hs92 m h) nf (hI h m 6) r 92) m h1 N ∧ ((rgP m h1 N s to ∧ r' = some (.int 1)) ∨ (¬ rgP m h1 N s to ∧ r' = some (.int 0))) ∧ h' = sI (sI (hB2 m h1 MT LN) m 1 0) m 11 0)) := by
  obtain ⟨hm, hnt, hna, hnp, hF, hw⟩ := ok
  refine g_start (by decide) (Nat.le_of_ble_eq_true rfl) [(0, _), (1, _), (2, _), (3, _)] rfl (fun z hfl C => ?_)
  refine g_aload_n C (gd DX10_right_0 0 rfl) 0 rfl rfl ?_
  refine g_iload_n C (gd DX10_right_0 1 rfl) 1 rfl rfl ?_
  refine g_cV1 (ci := 10) C [_] mX10_areAtoms lm_TestJudgeModel_478 (by exact hm.1) rfl rfl (e_m_areAtoms hm _) hfl (by decide) (by decide) (by omega) (by omega) rfl rfl (Nat.le_of_ble_eq_true rfl) (gd DX10_right_0 2 rfl) ?_
  rw [hnt.2]
  by_cases hs : 0 ≤ s ∧ s ≤ allF (nI nt)
  · rw [b1_t hs]
    refine g_if_eq C 16 (gd DX10_right_0 3 rfl) (by decide) (fun c5 => ?_) (fun c5 => ?_)
    · exact absurd c5 (by decide)
    · refine g_aload_n C (gd DX10_right_0 4 rfl) 0 rfl rfl ?_
      refine g_iload_n C (gd DX10_right_0 5 rfl) 3 rfl rfl ?_
      refine g_cV1 (ci := 10) C [_] mX10_areAtoms lm_TestJudgeModel_478 (by exact hm.1) rfl rfl (e_m_areAtoms hm _) hfl (by decide) (by decide) (by omega) (by omega) rfl rfl (Nat.le_of_ble_eq_true rfl) (gd DX10_right_0 6 rfl) ?_
      rw [hnt.2]
      by_cases ht : 0 ≤ to ∧ to ≤ allF (nI nt)
      · rw [b1_t ht]
        refine g_if_ne C 22 (gd DX10_right_0 7 rfl) (by decide) (fun c13 => ?_) (fun c13 => ?_)
        · refine g_aload_n C (gd DX10_right_0 12 rfl) 0 rfl rfl ?_
          refine g_iload_n C (gd DX10_right_0 13 rfl) 2 rfl rfl ?_
          refine g_cV1 (ci := 10) C [_] mX10_isProgram lm_TestJudgeModel_116 (by exact hm.1) rfl rfl (e_m_isProgram hm _) hfl (by decide) (by decide) (by omega) (by omega) rfl rfl (Nat.le_of_ble_eq_true rfl) (gd DX10_right_0 14 rfl) ?_
          rw [hnp.2]
          by_cases hp : 0 ≤ p ∧ p ≤ nI np - 1
          · rw [b1_t hp]
            obtain ⟨r, hr, rfl⟩ := below_of (by omega) hp
            obtain ⟨wr, lr, hwr⟩ := hw r hr
            refine g_if_ne C 36 (gd DX10_right_0 15 rfl) (by decide) (fun c27 => ?_) (fun c27 => ?_)
            · refine g_aload_n C (gd DX10_right_0 20 rfl) 0 rfl rfl ?_
              refine g_iload_n C (gd DX10_right_0 21 rfl) 2 rfl rfl ?_
              refine g_callV (ci := 10) C [_] mX10_laysOne lm_TestJudgeModel_396 (by exact hm.1) rfl rfl (e_m_laysOne hm hF (by omega : r < 8) lr hwr) hfl (by decide) (by decide) (by omega) (by omega) rfl rfl (Nat.le_of_ble_eq_true rfl) (gd DX10_right_0 22 rfl) (fun r h2 hp => ?_)
              obtain ⟨rfl, hl⟩ := hp
              obtain ⟨N, hL, hf, hb⟩ := lay_rest (h := h) hl
              have hm2 : mSh m h2 := hm.fr hf
              show GW z w 4 _ 0 0 _ _ [] _
              refine g_aload_n C (gd DX10_right_0 23 rfl) 0 rfl rfl ?_
              refine g_aload_n C (gd DX10_right_0 24 rfl) 0 rfl rfl ?_
              refine g_iload_n C (gd DX10_right_0 25 rfl) 1 rfl rfl ?_
              refine g_callV (ci := 10) C [_] mX10_behind lm_TestJudgeModel_481 (by exact hm2.1) rfl rfl (e_m_behind hm2 hL.gok hL.2.1 s) hfl (by decide) (by decide) (by omega) (by omega) rfl rfl (Nat.le_of_ble_eq_true rfl) (gd DX10_right_0 26 rfl) (fun r h2 hp => ?_)
              obtain ⟨MT, LN, L, rfl, hLL, rfl⟩ := hp
              show GW z w 4 _ 0 0 _ _ [.int _, .ref m] _
              refine g_iload_n C (gd DX10_right_0 27 rfl) 3 rfl rfl ?_
              refine g_iconst (v := -1) C (gd DX10_right_0 28 rfl) (by decide) ?_
              refine g_ixor C (gd DX10_right_0 29 rfl) ?_
              refine g_iand C (gd DX10_right_0 30 rfl) ?_
              refine g_if_ne C 58 (gd DX10_right_0 31 rfl) (by decide) (fun c51 => ?_) (fun c51 => ?_)
              · refine g_iconst (v := 0) C (gd DX10_right_0 34 rfl) (by decide) ?_
                refine g_cV1 (ci := 10) C [_] mX10_gives lm_TestJudgeModel_349 (by exact hm2.1) rfl rfl (e_m_gives (h := hB2 m _ MT LN) (by exact hm2) _) hfl (by decide) (by decide) (by omega) (by omega) rfl rfl (Nat.le_of_ble_eq_true rfl) (gd DX10_right_0 35 rfl) ?_
                exact g_iret C (by omega) (by omega) (Or.inr (Or.inr ⟨⟨hs, ht⟩, r, hr, rfl, _, N, MT, LN, hl, hL, Or.inr ⟨fun q => c51 ((fold_and_0 _ _ L _).mpr ⟨q.1, fun t ht => q.2 t ((hLL t).mp ht).1 ((hLL t).mp ht).2⟩), rfl⟩, rfl⟩)) (gd DX10_right_0 36 rfl)
              · refine g_iconst (v := 1) C (gd DX10_right_0 32 rfl) (by decide) ?_
                refine g_goto (tgt := 59) C (gd DX10_right_0 33 rfl) (by decide) ?_
                have q := (fold_and_0 _ _ L _).mp c51
                refine g_cV1 (ci := 10) C [_] mX10_gives lm_TestJudgeModel_349 (by exact hm2.1) rfl rfl (e_m_gives (h := hB2 m _ MT LN) (by exact hm2) _) hfl (by decide) (by decide) (by omega) (by omega) rfl rfl (Nat.le_of_ble_eq_true rfl) (gd DX10_right_0 35 rfl) ?_
                exact g_iret C (by omega) (by omega) (Or.inr (Or.inr ⟨⟨hs, ht⟩, r, hr, rfl, _, N, MT, LN, hl, hL, Or.inl ⟨⟨q.1, fun t ht hd => q.2 t ((hLL t).mpr ⟨ht, hd⟩)⟩, rfl⟩, rfl⟩)) (gd DX10_right_0 36 rfl)
            · exact absurd c27 (by decide)
          · rw [b1_f hp]
            refine g_if_ne C 36 (gd DX10_right_0 15 rfl) (by decide) (fun c27 => ?_) (fun c27 => ?_)
            · exact absurd rfl c27
            · refine g_aload_n C (gd DX10_right_0 16 rfl) 0 rfl rfl ?_
              refine g_iconst (v := 2) C (gd DX10_right_0 17 rfl) (by decide) ?_
              refine g_cV1 (ci := 10) C [_] mX10_refuse lm_TestJudgeModel_331 (by exact hm.1) rfl rfl (e_m_refuse hm _) hfl (by decide) (by decide) (by omega) (by omega) rfl rfl (Nat.le_of_ble_eq_true rfl) (gd DX10_right_0 18 rfl) ?_
              exact g_iret C (by omega) (by omega) (Or.inr (Or.inl ⟨⟨hs, ht⟩, hp, rfl, rfl⟩)) (gd DX10_right_0 19 rfl)
        · exact absurd c13 (by decide)
      · rw [b1_f ht]
        refine g_if_ne C 22 (gd DX10_right_0 7 rfl) (by decide) (fun c13 => ?_) (fun c13 => ?_)
        · exact absurd rfl c13
        · refine g_aload_n C (gd DX10_right_0 8 rfl) 0 rfl rfl ?_
          refine g_iconst (v := 1) C (gd DX10_right_0 9 rfl) (by decide) ?_
          refine g_cV1 (ci := 10) C [_] mX10_refuse lm_TestJudgeModel_331 (by exact hm.1) rfl rfl (e_m_refuse hm _) hfl (by decide) (by decide) (by omega) (by omega) rfl rfl (Nat.le_of_ble_eq_true rfl) (gd DX10_right_0 10 rfl) ?_
          exact g_iret C (by omega) (by omega) (Or.inl ⟨fun q => ht q.2, rfl, rfl⟩) (gd DX10_right_0 11 rfl)
  · rw [b1_f hs]
    refine g_if_eq C 16 (gd DX10_right_0 3 rfl) (by decide) (fun c5 => ?_) (fun c5 => ?_)
    · refine g_aload_n C (gd DX10_right_0 8 rfl) 0 rfl rfl ?_
      refine g_iconst (v := 1) C (gd DX10_right_0 9 rfl) (by decide) ?_
      refine g_cV1 (ci := 10) C [_] mX10_refuse lm_TestJudgeModel_331 (by exact hm.1) rfl rfl (e_m_refuse hm _) hfl (by decide) (by decide) (by omega) (by omega) rfl rfl (Nat.le_of_ble_eq_true rfl) (gd DX10_right_0 10 rfl) ?_
      exact g_iret C (by omega) (by omega) (Or.inl ⟨fun q => hs q.1, rfl, rfl⟩) (gd DX10_right_0 11 rfl)
    · exact absurd rfl c5
end M30
