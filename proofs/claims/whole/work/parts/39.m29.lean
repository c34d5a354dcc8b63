/-! the calls weakest and right -/
theorem lay_rest {m nf : Nat} {h h1 : HS} {s : Int32} {r : Nat} (hp : layP m (hs92 m h) nf s r 92 h1) : ∃ N, LD (kOf m (hs92 m h) nf s r 92) m h1 N ∧ Fr3 h h1 ∧ ∀ b j, ¬ layW m b j → hI h1 b j = hI h b j := by
  obtain ⟨N, hL, hU, hf, hrc, hb, hbL⟩ := hp
  refine ⟨N, hL, hf, fun b j hn => ?_⟩
  rw [hb b j hn]
  show hI (sF h (m + 1) _) b j = _
  rw [hI_sF_ne (fun e => hn (Or.inl e))]
section M29
variable {w : gD} {m : Nat} {h : HS}
theorem e_m_weakest {nt na np nf : Nat} {fw : Nat → Nat} (ok : mOK m h nt na np nf fw) (p to : Int32) :
    Ev w 7 0 0 yX10_weakest cX10_weakest 3 (some .int) [.ref m, .int p, .int to] h (fun r' h' => (¬ (0 ≤ to ∧ to ≤ allF (nI nt)) ∧ r' = some (.int (-1)) ∧ h' = sI (sI h m 1 0) m 11 1) ∨ ((0 ≤ to ∧ to ≤ allF (nI nt)) ∧ ¬ (0 ≤ p ∧ p ≤ nI np - 1) ∧ r' = some (.int (-1)) ∧ h' = sI (sI h m 1 0) m 11 2) ∨ ((0 ≤ to ∧ to ≤ allF (nI nt)) ∧ ∃ r, r < np ∧ p = nI r ∧ ∃ h1 N MT LN, layP m (hs92 m h) nf (hI h m 6) r 92 h1 ∧ LD (kOf m (hs92 m h) nf (hI h m 6) r 92) m h1 N ∧ r' = some (.int (bitF (wkP m h1 N (allF (nI nt)) to) (2 ^ nt))) ∧ h' = sI (sI (hB2 m h1 MT LN) m 1 0) m 11 0)) := by
  obtain ⟨hm, hnt, hna, hnp, hF, hw⟩ := ok
  refine g_start (by decide) (Nat.le_of_ble_eq_true rfl) [(0, _), (1, _), (2, _)] rfl (fun z hfl C => ?_)
  refine g_aload_n C (gd DX10_weakest_0 0 rfl) 0 rfl rfl ?_
  refine g_iload_n C (gd DX10_weakest_0 1 rfl) 2 rfl rfl ?_
  refine g_cV1 (ci := 10) C [_] mX10_areAtoms lm_TestJudgeModel_478 (by exact hm.1) rfl rfl (e_m_areAtoms hm _) hfl (by decide) (by decide) (by omega) (by omega) rfl rfl (Nat.le_of_ble_eq_true rfl) (gd DX10_weakest_0 2 rfl) ?_
  rw [hnt.2]
  by_cases ht : 0 ≤ to ∧ to ≤ allF (nI nt)
  · rw [b1_t ht]
    refine g_if_ne C 14 (gd DX10_weakest_0 3 rfl) (by decide) (fun c5 => ?_) (fun c5 => ?_)
    · refine g_aload_n C (gd DX10_weakest_0 8 rfl) 0 rfl rfl ?_
      refine g_iload_n C (gd DX10_weakest_0 9 rfl) 1 rfl rfl ?_
      refine g_cV1 (ci := 10) C [_] mX10_isProgram lm_TestJudgeModel_116 (by exact hm.1) rfl rfl (e_m_isProgram hm _) hfl (by decide) (by decide) (by omega) (by omega) rfl rfl (Nat.le_of_ble_eq_true rfl) (gd DX10_weakest_0 10 rfl) ?_
      rw [hnp.2]
      by_cases hp : 0 ≤ p ∧ p ≤ nI np - 1
      · rw [b1_t hp]
        obtain ⟨r, hr, rfl⟩ := below_of (by omega) hp
        obtain ⟨wr, lr, hwr⟩ := hw r hr
        refine g_if_ne C 28 (gd DX10_weakest_0 11 rfl) (by decide) (fun c19 => ?_) (fun c19 => ?_)
        · refine g_aload_n C (gd DX10_weakest_0 16 rfl) 0 rfl rfl ?_
          refine g_iload_n C (gd DX10_weakest_0 17 rfl) 1 rfl rfl ?_
          refine g_callV (ci := 10) C [_] mX10_laysOne lm_TestJudgeModel_396 (by exact hm.1) rfl rfl (e_m_laysOne hm hF (by omega : r < 8) lr hwr) hfl (by decide) (by decide) (by omega) (by omega) rfl rfl (Nat.le_of_ble_eq_true rfl) (gd DX10_weakest_0 18 rfl) (fun r h2 hp => ?_)
          obtain ⟨rfl, hl⟩ := hp
          obtain ⟨N, hL, hf, hb⟩ := lay_rest (h := h) hl
          have hm2 : mSh m h2 := hm.fr hf
          have hte : hI h2 m 2 = nI nt := by rw [hb m 2 (by unfold layW; omega)]; exact hnt.2
          show GW z w 3 _ 0 0 _ _ [] _
          refine g_aload_n C (gd DX10_weakest_0 19 rfl) 0 rfl rfl ?_
          refine g_aload_n C (gd DX10_weakest_0 20 rfl) 0 rfl rfl ?_
          refine g_aload_n C (gd DX10_weakest_0 21 rfl) 0 rfl rfl ?_
          refine g_cV1 (ci := 10) C [] mX10_allAtoms lm_TestJudgeModel_379 (by exact hm2.1) rfl rfl (e_m_allAtoms hm2) hfl (by decide) (by decide) (by omega) (by omega) rfl rfl (Nat.le_of_ble_eq_true rfl) (gd DX10_weakest_0 22 rfl) ?_
          rw [hte]
          refine g_iload_n C (gd DX10_weakest_0 23 rfl) 2 rfl rfl ?_
          refine g_callV (ci := 10) C [_, _] mX10_weakestOf lm_TestJudgeModel_484 (by exact hm2.1) rfl rfl (e_m_weakestOf hm2 hL.gok hL.2.1 hnt.1 hte (allF (nI nt)) to) hfl (by decide) (by decide) (by omega) (by omega) rfl rfl (Nat.le_of_ble_eq_true rfl) (gd DX10_weakest_0 24 rfl) (fun r h2 hp => ?_)
          obtain ⟨MT, LN, rfl, rfl⟩ := hp
          show GW z w 3 _ 0 0 _ _ [.int _, .ref m] _
          refine g_cV1 (ci := 10) C [_] mX10_gives lm_TestJudgeModel_349 (by exact hm2.1) rfl rfl (e_m_gives (h := hB2 m _ MT LN) (by exact hm2) _) hfl (by decide) (by decide) (by omega) (by omega) rfl rfl (Nat.le_of_ble_eq_true rfl) (gd DX10_weakest_0 25 rfl) ?_
          exact g_iret C (by omega) (by omega) (Or.inr (Or.inr ⟨ht, r, hr, rfl, _, N, MT, LN, hl, hL, rfl, rfl⟩)) (gd DX10_weakest_0 26 rfl)
        · exact absurd c19 (by decide)
      · rw [b1_f hp]
        refine g_if_ne C 28 (gd DX10_weakest_0 11 rfl) (by decide) (fun c19 => ?_) (fun c19 => ?_)
        · exact absurd rfl c19
        · refine g_aload_n C (gd DX10_weakest_0 12 rfl) 0 rfl rfl ?_
          refine g_iconst (v := 2) C (gd DX10_weakest_0 13 rfl) (by decide) ?_
          refine g_cV1 (ci := 10) C [_] mX10_refuse lm_TestJudgeModel_331 (by exact hm.1) rfl rfl (e_m_refuse hm _) hfl (by decide) (by decide) (by omega) (by omega) rfl rfl (Nat.le_of_ble_eq_true rfl) (gd DX10_weakest_0 14 rfl) ?_
          exact g_iret C (by omega) (by omega) (Or.inr (Or.inl ⟨ht, hp, rfl, rfl⟩)) (gd DX10_weakest_0 15 rfl)
    · exact absurd c5 (by decide)
  · rw [b1_f ht]
    refine g_if_ne C 14 (gd DX10_weakest_0 3 rfl) (by decide) (fun c5 => ?_) (fun c5 => ?_)
    · exact absurd rfl c5
    · refine g_aload_n C (gd DX10_weakest_0 4 rfl) 0 rfl rfl ?_
      refine g_iconst (v := 1) C (gd DX10_weakest_0 5 rfl) (by decide) ?_
      refine g_cV1 (ci := 10) C [_] mX10_refuse lm_TestJudgeModel_331 (by exact hm.1) rfl rfl (e_m_refuse hm _) hfl (by decide) (by decide) (by omega) (by omega) rfl rfl (Nat.le_of_ble_eq_true rfl) (gd DX10_weakest_0 6 rfl) ?_
      exact g_iret C (by omega) (by omega) (Or.inl ⟨ht, rfl, rfl⟩) (gd DX10_weakest_0 7 rfl)
end M29
