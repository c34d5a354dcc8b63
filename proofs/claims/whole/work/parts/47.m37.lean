/-! the calls whose, strongest, within, count, both -/
theorem LD.e12n {P : kP} {m N t : Nat} {h : HS} (l : LD P m h N) (ht : t ≤ 3) (hP : P.1 = nI t) : ∀ s, s < N → ∃ x, x < 256 ∧ hI h (m + 8) s &&& hI h (m + 9) s = nI x := by
  intro s hs
  obtain ⟨x, hx, e⟩ := l.e1n ht hP s hs
  rw [Int32.and_comm]
  obtain ⟨n, hn, e2⟩ := and_small (a := hI h (m + 9) s) e (by omega)
  exact ⟨n, by omega, e2⟩
section M37
variable {w : gD} {m : Nat} {h : HS}
theorem e_m_whose {nt na np nf : Nat} {fw : Nat → Nat} (ok : mOK m h nt na np nf fw) (p o : Int32) :
    Ev w 7 0 0 yX10_whose cX10_whose 4 (some .int) [.ref m, .int p, .int o] h (fun r' h' => (¬ ((0 ≤ p ∧ p ≤ nI np - 1) ∧ (0 ≤ o ∧ o ≤ nI np - 1)) ∧ r' = some (.int (-1)) ∧ pQ m h h' 2) ∨ (∃ r q, r < np ∧ q < np ∧ p = nI r ∧ o = nI q ∧ ∃ h1 N, LDU (P2 m h nf r q) m h1 N ∧ ((∃ s a, s < N ∧ ¬ hI h1 (m + 8) s = hI h1 (m + 9) s ∧ (∀ t, t < s → hI h1 (m + 8) t = hI h1 (m + 9) t) ∧ lsbP (hI h1 (m + 8) s ^^^ hI h1 (m + 9) s) a ∧ r' = some (.int (if hI h1 (m + 8) s >>> (nI a &&& 31) &&& 1 = 1 then 0 else 1)) ∧ pQ m h h' 0) ∨ ((∀ t, t < N → hI h1 (m + 8) t = hI h1 (m + 9) t) ∧ r' = some (.int (-1)) ∧ pQ m h h' 5)))) := by
  obtain ⟨hm, hnt, hna, hnp, hF, hw⟩ := ok
  refine g_start (by decide) (Nat.le_of_ble_eq_true rfl) [(0, _), (1, _), (2, _)] rfl (fun z hfl C => ?_)
  refine g_aload_n C (gd DX10_whose_0 0 rfl) 0 rfl rfl ?_
  refine g_iload_n C (gd DX10_whose_0 1 rfl) 1 rfl rfl ?_
  refine g_iload_n C (gd DX10_whose_0 2 rfl) 2 rfl rfl ?_
  refine g_cV1 (ci := 10) C [_, _] mX10_areTwo lm_TestJudgeModel_434 (by exact hm.1) rfl rfl (e_m_areTwo hm _ _) hfl (by decide) (by decide) (by omega) (by omega) rfl rfl (Nat.le_of_ble_eq_true rfl) (gd DX10_whose_0 3 rfl) ?_
  rw [hnp.2]
  by_cases hp : (0 ≤ p ∧ p ≤ nI np - 1) ∧ (0 ≤ o ∧ o ≤ nI np - 1)
  rotate_left
  · rw [b1_f hp]
    refine g_if_ne C 15 (gd DX10_whose_0 4 rfl) (by decide) (fun c6 => ?_) (fun c6 => ?_)
    · exact absurd rfl c6
    · refine g_aload_n C (gd DX10_whose_0 5 rfl) 0 rfl rfl ?_
      refine g_iconst (v := 2) C (gd DX10_whose_0 6 rfl) (by decide) ?_
      refine g_cV1 (ci := 10) C [_] mX10_refuse lm_TestJudgeModel_331 (by exact hm.1) rfl rfl (e_m_refuse hm _) hfl (by decide) (by decide) (by omega) (by omega) rfl rfl (Nat.le_of_ble_eq_true rfl) (gd DX10_whose_0 7 rfl) ?_
      exact g_iret C (by omega) (by omega) (Or.inl ⟨hp, rfl, (mKp.rf m h).q 2⟩) (gd DX10_whose_0 8 rfl)
  rw [b1_t hp]
  refine g_if_ne C 15 (gd DX10_whose_0 4 rfl) (by decide) (fun c6 => ?_) (fun c6 => ?_)
  rotate_left
  · exact absurd c6 (by decide)
  obtain ⟨r, hr, rfl⟩ := below_of (by omega) hp.1
  obtain ⟨q, hq, rfl⟩ := below_of (by omega) hp.2
  obtain ⟨wr, lr, hwr⟩ := hw r hr
  obtain ⟨wo, lo, hwo⟩ := hw q hq
  refine g_aload_n C (gd DX10_whose_0 9 rfl) 0 rfl rfl ?_
  refine g_iload_n C (gd DX10_whose_0 10 rfl) 1 rfl rfl ?_
  refine g_iload_n C (gd DX10_whose_0 11 rfl) 2 rfl rfl ?_
  refine g_callV (ci := 10) C [_, _] mX10_laysTwo lm_TestJudgeModel_428 (by exact hm.1) rfl rfl (e_m_laysTwo hm hF (by omega : r < 8) (by omega : q < 8) lr lo hwr hwo) hfl (by decide) (by decide) (by omega) (by omega) rfl rfl (Nat.le_of_ble_eq_true rfl) (gd DX10_whose_0 12 rfl) (fun r h2 hp => ?_)
  obtain ⟨rfl, hl⟩ := hp
  obtain ⟨N, hL, hk⟩ := lay_2 hF (by omega : r < 8) (by omega : q < 8) lr lo hwr hwo hl
  have g := hL.1.gok
  have hg1 := g.1
  have hm2 : mSh m h2 := hm.fr hk.1
  show GW z w 4 _ 0 0 _ _ [] _
  refine g_aload_n C (gd DX10_whose_0 13 rfl) 0 rfl rfl ?_
  refine g_callV (ci := 10) C [] mX10_parted lm_TestJudgeModel_431 (by exact hm2.1) rfl rfl (e_m_parted hm2 g.1 g.2.1) hfl (by decide) (by decide) (by omega) (by omega) rfl rfl (Nat.le_of_ble_eq_true rfl) (gd DX10_whose_0 14 rfl) (fun r h2 hp => ?_)
  obtain ⟨rfl, hp⟩ := hp
  rcases hp with ⟨s, hs, rfl, hs2, hs3⟩ | ⟨rfl, hs2⟩
  · show GW z w 4 _ 0 0 _ _ [.int (nI s)] _
    obtain ⟨b, hb, hb2⟩ := bit_ex (v := hI h2 (m + 8) s ^^^ hI h2 (m + 9) s) (fun e => hs2 (Int32.xor_eq_zero_iff.mp e))
    refine g_istore_n (lv' := [(0, _), (1, _), (2, _), (3, _)]) C (gd DX10_whose_0 15 rfl) [1, 2, 3, 0] rfl (by decide) rfl ?_
    refine g_iload_n C (gd DX10_whose_0 16 rfl) 3 rfl rfl ?_
    refine g_iconst (v := -1) C (gd DX10_whose_0 17 rfl) (by decide) ?_
    refine g_icmp_ne C 37 (gd DX10_whose_0 18 rfl) (by decide) (fun c28 => ?_) (fun c28 => ?_)
    · refine g_aload_n C (gd DX10_whose_0 23 rfl) 0 rfl rfl ?_
      refine g_aload_n C (gd DX10_whose_0 24 rfl) 0 rfl rfl ?_
      refine g_getr (ci := 10) (k := 36) C rfl (by decide) rfl lf_TestJudgeModel_44 hm2.1 (hm2.2 36 8 12 16500 rfl).1 (gd DX10_whose_0 25 rfl) ?_
      refine g_iload_n C (gd DX10_whose_0 26 rfl) 3 rfl rfl ?_
      refine g_iaj (j := s) C (hm2.2 36 8 12 16500 rfl).2.1 (hm2.2 36 8 12 16500 rfl).2.2 (by decide) rfl (by omega) (gd DX10_whose_0 27 rfl) ?_
      refine g_aload_n C (gd DX10_whose_0 28 rfl) 0 rfl rfl ?_
      refine g_getr (ci := 10) (k := 36) C rfl (by decide) rfl lf_TestJudgeModel_44 hm2.1 (hm2.2 36 8 12 16500 rfl).1 (gd DX10_whose_0 29 rfl) ?_
      refine g_iload_n C (gd DX10_whose_0 30 rfl) 3 rfl rfl ?_
      refine g_iaj (j := s) C (hm2.2 36 8 12 16500 rfl).2.1 (hm2.2 36 8 12 16500 rfl).2.2 (by decide) rfl (by omega) (gd DX10_whose_0 31 rfl) ?_
      refine g_aload_n C (gd DX10_whose_0 32 rfl) 0 rfl rfl ?_
      refine g_getr (ci := 10) (k := 37) C rfl (by decide) rfl lf_TestJudgeModel_47 hm2.1 (hm2.2 37 9 12 16500 rfl).1 (gd DX10_whose_0 33 rfl) ?_
      refine g_iload_n C (gd DX10_whose_0 34 rfl) 3 rfl rfl ?_
      refine g_iaj (j := s) C (hm2.2 37 9 12 16500 rfl).2.1 (hm2.2 37 9 12 16500 rfl).2.2 (by decide) rfl (by omega) (gd DX10_whose_0 35 rfl) ?_
      refine g_ixor C (gd DX10_whose_0 36 rfl) ?_
      refine g_iconst (v := 0) C (gd DX10_whose_0 37 rfl) (by decide) ?_
      refine g_callS C [_, _] mX10_least_ lm_TestJudgeModel_421 (e_m_least_ hb2 hb) hfl (by decide) (by decide) (by omega) (by omega) rfl rfl (Nat.le_of_ble_eq_true rfl) (gd DX10_whose_0 38 rfl) (fun r h2 hp => ?_)
      obtain ⟨rfl, a, ha1, rfl, ha2, ha3⟩ := hp
      show GW z w 4 _ 0 0 _ _ [.int (nI a), .int _, .ref m] _
      refine g_cS1 C [_, _] mX10_has lm_TestJudgeModel_144 (e_m_has _ _) hfl (by decide) (by decide) (by omega) (by omega) rfl rfl (Nat.le_of_ble_eq_true rfl) (gd DX10_whose_0 39 rfl) ?_
      by_cases hc : hI h2 (m + 8) s >>> (nI a &&& 31) &&& 1 = 1
      · rw [b1_t hc]
        refine g_if_eq C 71 (gd DX10_whose_0 40 rfl) (by decide) (fun c64 => ?_) (fun c64 => ?_)
        · exact absurd c64 (by decide)
        · refine g_iconst (v := 0) C (gd DX10_whose_0 41 rfl) (by decide) ?_
          refine g_goto (tgt := 72) C (gd DX10_whose_0 42 rfl) (by decide) ?_
          refine g_cV1 (ci := 10) C [_] mX10_gives lm_TestJudgeModel_349 (by exact hm2.1) rfl rfl (e_m_gives hm2 _) hfl (by decide) (by decide) (by omega) (by omega) rfl rfl (Nat.le_of_ble_eq_true rfl) (gd DX10_whose_0 44 rfl) ?_
          exact g_iret C (by omega) (by omega) (Or.inr ⟨r, q, hr, hq, rfl, rfl, _, N, hL, Or.inl ⟨s, a, hs, hs2, hs3, ⟨by omega, ha2, ha3⟩, by rw [if_pos hc], hk.q 0⟩⟩) (gd DX10_whose_0 45 rfl)
      · rw [b1_f hc]
        refine g_if_eq C 71 (gd DX10_whose_0 40 rfl) (by decide) (fun c64 => ?_) (fun c64 => ?_)
        · refine g_iconst (v := 1) C (gd DX10_whose_0 43 rfl) (by decide) ?_
          refine g_cV1 (ci := 10) C [_] mX10_gives lm_TestJudgeModel_349 (by exact hm2.1) rfl rfl (e_m_gives hm2 _) hfl (by decide) (by decide) (by omega) (by omega) rfl rfl (Nat.le_of_ble_eq_true rfl) (gd DX10_whose_0 44 rfl) ?_
          exact g_iret C (by omega) (by omega) (Or.inr ⟨r, q, hr, hq, rfl, rfl, _, N, hL, Or.inl ⟨s, a, hs, hs2, hs3, ⟨by omega, ha2, ha3⟩, by rw [if_neg hc], hk.q 0⟩⟩) (gd DX10_whose_0 45 rfl)
        · exact absurd rfl c64
    · exact absurd c28 (nI_m1 (by omega))
  · show GW z w 4 _ 0 0 _ _ [.int (-1)] _
    refine g_istore_n (lv' := [(0, _), (1, _), (2, _), (3, _)]) C (gd DX10_whose_0 15 rfl) [1, 2, 3, 0] rfl (by decide) rfl ?_
    refine g_iload_n C (gd DX10_whose_0 16 rfl) 3 rfl rfl ?_
    refine g_iconst (v := -1) C (gd DX10_whose_0 17 rfl) (by decide) ?_
    refine g_icmp_ne C 37 (gd DX10_whose_0 18 rfl) (by decide) (fun c28 => ?_) (fun c28 => ?_)
    · exact absurd rfl c28
    · refine g_aload_n C (gd DX10_whose_0 19 rfl) 0 rfl rfl ?_
      refine g_iconst (v := 5) C (gd DX10_whose_0 20 rfl) (by decide) ?_
      refine g_cV1 (ci := 10) C [_] mX10_refuse lm_TestJudgeModel_331 (by exact hm2.1) rfl rfl (e_m_refuse hm2 _) hfl (by decide) (by decide) (by omega) (by omega) rfl rfl (Nat.le_of_ble_eq_true rfl) (gd DX10_whose_0 21 rfl) ?_
      exact g_iret C (by omega) (by omega) (Or.inr ⟨r, q, hr, hq, rfl, rfl, _, N, hL, Or.inr ⟨hs2, rfl, hk.q 5⟩⟩) (gd DX10_whose_0 22 rfl)
theorem e_m_strongest {nt na np nf : Nat} {fw : Nat → Nat} (ok : mOK m h nt na np nf fw) (a p : Int32) :
    Ev w 7 0 0 yX10_strongest cX10_strongest 3 (some .int) [.ref m, .int a, .int p] h (fun r' h' => (¬ (0 ≤ a ∧ a ≤ allF (nI nt)) ∧ r' = some (.int (-1)) ∧ pQ m h h' 1) ∨ ((0 ≤ a ∧ a ≤ allF (nI nt)) ∧ ¬ (0 ≤ p ∧ p ≤ nI np - 1) ∧ r' = some (.int (-1)) ∧ pQ m h h' 2) ∨ ((0 ≤ a ∧ a ≤ allF (nI nt)) ∧ ∃ r, r < np ∧ p = nI r ∧ ∃ h1 N, ∃ L : List Nat, LDU (P1 m h nf r) m h1 N ∧ (∀ t, t ∈ L ↔ t < N ∧ ∃ d, bRc (hI h1 (m + 7)) a d t) ∧ r' = some (.int (L.foldl (fun a t => a ||| hI h1 (m + 8) t) (hI h1 (m + 8) 0 &&& a))) ∧ pQ m h h' 0)) := by
  obtain ⟨hm, hnt, hna, hnp, hF, hw⟩ := ok
  refine g_start (by decide) (Nat.le_of_ble_eq_true rfl) [(0, _), (1, _), (2, _)] rfl (fun z hfl C => ?_)
  refine g_aload_n C (gd DX10_strongest_0 0 rfl) 0 rfl rfl ?_
  refine g_iload_n C (gd DX10_strongest_0 1 rfl) 1 rfl rfl ?_
  refine g_cV1 (ci := 10) C [_] mX10_areAtoms lm_TestJudgeModel_478 (by exact hm.1) rfl rfl (e_m_areAtoms hm _) hfl (by decide) (by decide) (by omega) (by omega) rfl rfl (Nat.le_of_ble_eq_true rfl) (gd DX10_strongest_0 2 rfl) ?_
  rw [hnt.2]
  by_cases ha : 0 ≤ a ∧ a ≤ allF (nI nt)
  rotate_left
  · rw [b1_f ha]
    refine g_if_ne C 14 (gd DX10_strongest_0 3 rfl) (by decide) (fun c5 => ?_) (fun c5 => ?_)
    · exact absurd rfl c5
    · refine g_aload_n C (gd DX10_strongest_0 4 rfl) 0 rfl rfl ?_
      refine g_iconst (v := 1) C (gd DX10_strongest_0 5 rfl) (by decide) ?_
      refine g_cV1 (ci := 10) C [_] mX10_refuse lm_TestJudgeModel_331 (by exact hm.1) rfl rfl (e_m_refuse hm _) hfl (by decide) (by decide) (by omega) (by omega) rfl rfl (Nat.le_of_ble_eq_true rfl) (gd DX10_strongest_0 6 rfl) ?_
      exact g_iret C (by omega) (by omega) (Or.inl ⟨ha, rfl, (mKp.rf m h).q 1⟩) (gd DX10_strongest_0 7 rfl)
  rw [b1_t ha]
  refine g_if_ne C 14 (gd DX10_strongest_0 3 rfl) (by decide) (fun c5 => ?_) (fun c5 => ?_)
  rotate_left
  · exact absurd c5 (by decide)
  refine g_aload_n C (gd DX10_strongest_0 8 rfl) 0 rfl rfl ?_
  refine g_iload_n C (gd DX10_strongest_0 9 rfl) 2 rfl rfl ?_
  refine g_cV1 (ci := 10) C [_] mX10_isProgram lm_TestJudgeModel_116 (by exact hm.1) rfl rfl (e_m_isProgram hm _) hfl (by decide) (by decide) (by omega) (by omega) rfl rfl (Nat.le_of_ble_eq_true rfl) (gd DX10_strongest_0 10 rfl) ?_
  rw [hnp.2]
  by_cases hp : 0 ≤ p ∧ p ≤ nI np - 1
  rotate_left
  · rw [b1_f hp]
    refine g_if_ne C 28 (gd DX10_strongest_0 11 rfl) (by decide) (fun c19 => ?_) (fun c19 => ?_)
    · exact absurd rfl c19
    · refine g_aload_n C (gd DX10_strongest_0 12 rfl) 0 rfl rfl ?_
      refine g_iconst (v := 2) C (gd DX10_strongest_0 13 rfl) (by decide) ?_
      refine g_cV1 (ci := 10) C [_] mX10_refuse lm_TestJudgeModel_331 (by exact hm.1) rfl rfl (e_m_refuse hm _) hfl (by decide) (by decide) (by omega) (by omega) rfl rfl (Nat.le_of_ble_eq_true rfl) (gd DX10_strongest_0 14 rfl) ?_
      exact g_iret C (by omega) (by omega) (Or.inr (Or.inl ⟨ha, hp, rfl, (mKp.rf m h).q 2⟩)) (gd DX10_strongest_0 15 rfl)
  rw [b1_t hp]
  refine g_if_ne C 28 (gd DX10_strongest_0 11 rfl) (by decide) (fun c19 => ?_) (fun c19 => ?_)
  rotate_left
  · exact absurd c19 (by decide)
  obtain ⟨r, hr, rfl⟩ := below_of (by omega) hp
  obtain ⟨wr, lr, hwr⟩ := hw r hr
  refine g_aload_n C (gd DX10_strongest_0 16 rfl) 0 rfl rfl ?_
  refine g_iload_n C (gd DX10_strongest_0 17 rfl) 2 rfl rfl ?_
  refine g_callV (ci := 10) C [_] mX10_laysOne lm_TestJudgeModel_396 (by exact hm.1) rfl rfl (e_m_laysOne hm hF (by omega : r < 8) lr hwr) hfl (by decide) (by decide) (by omega) (by omega) rfl rfl (Nat.le_of_ble_eq_true rfl) (gd DX10_strongest_0 18 rfl) (fun r h2 hp => ?_)
  obtain ⟨rfl, hl⟩ := hp
  obtain ⟨N, hL, hk⟩ := lay_1 hF (by omega : r < 8) lr hwr hl
  have hm2 : mSh m h2 := hm.fr hk.1
  show GW z w 3 _ 0 0 _ _ [] _
  refine g_aload_n C (gd DX10_strongest_0 19 rfl) 0 rfl rfl ?_
  refine g_aload_n C (gd DX10_strongest_0 20 rfl) 0 rfl rfl ?_
  refine g_iload_n C (gd DX10_strongest_0 21 rfl) 1 rfl rfl ?_
  refine g_callV (ci := 10) C [_] mX10_behind lm_TestJudgeModel_481 (by exact hm2.1) rfl rfl (e_m_behind hm2 hL.1.gok hL.1.2.1 a) hfl (by decide) (by decide) (by omega) (by omega) rfl rfl (Nat.le_of_ble_eq_true rfl) (gd DX10_strongest_0 22 rfl) (fun r h2 hp => ?_)
  obtain ⟨MT, LN, L, rfl, hLi, rfl⟩ := hp
  show GW z w 3 _ 0 0 _ _ [.int _, .ref m] _
  refine g_cV1 (ci := 10) C [_] mX10_gives lm_TestJudgeModel_349 (by exact hm2.1) rfl rfl (e_m_gives (h := hB2 m _ MT LN) (by exact hm2) _) hfl (by decide) (by decide) (by omega) (by omega) rfl rfl (Nat.le_of_ble_eq_true rfl) (gd DX10_strongest_0 23 rfl) ?_
  exact g_iret C (by omega) (by omega) (Or.inr (Or.inr ⟨ha, r, hr, rfl, _, N, L, hL, hLi, rfl, (hk.tr (mKp_B2 m _ MT LN)).q 0⟩)) (gd DX10_strongest_0 24 rfl)
theorem e_m_within {nt na np nf : Nat} {fw : Nat → Nat} (ok : mOK m h nt na np nf fw) (p o : Int32) :
    Ev w 7 0 0 yX10_within cX10_within 5 (some .int) [.ref m, .int p, .int o] h (fun r' h' => (¬ ((0 ≤ p ∧ p ≤ nI np - 1) ∧ (0 ≤ o ∧ o ≤ nI np - 1)) ∧ r' = some (.int (-1)) ∧ pQ m h h' 2) ∨ (∃ r q, r < np ∧ q < np ∧ p = nI r ∧ o = nI q ∧ ∃ h1 N, LDU (P2 m h nf r q) m h1 N ∧ (((∀ t, t < N → hI h1 (m + 8) t &&& (hI h1 (m + 9) t ^^^ -1) = 0) ∧ r' = some (.int 1)) ∨ ((¬ ∀ t, t < N → hI h1 (m + 8) t &&& (hI h1 (m + 9) t ^^^ -1) = 0) ∧ r' = some (.int 0))) ∧ pQ m h h' 0)) := by
  obtain ⟨hm, hnt, hna, hnp, hF, hw⟩ := ok
  refine g_start (by decide) (Nat.le_of_ble_eq_true rfl) [(0, _), (1, _), (2, _)] rfl (fun z hfl C => ?_)
  refine g_aload_n C (gd DX10_within_0 0 rfl) 0 rfl rfl ?_
  refine g_iload_n C (gd DX10_within_0 1 rfl) 1 rfl rfl ?_
  refine g_iload_n C (gd DX10_within_0 2 rfl) 2 rfl rfl ?_
  refine g_cV1 (ci := 10) C [_, _] mX10_areTwo lm_TestJudgeModel_434 (by exact hm.1) rfl rfl (e_m_areTwo hm _ _) hfl (by decide) (by decide) (by omega) (by omega) rfl rfl (Nat.le_of_ble_eq_true rfl) (gd DX10_within_0 3 rfl) ?_
  rw [hnp.2]
  by_cases hp : (0 ≤ p ∧ p ≤ nI np - 1) ∧ (0 ≤ o ∧ o ≤ nI np - 1)
  rotate_left
  · rw [b1_f hp]
    refine g_if_ne C 15 (gd DX10_within_0 4 rfl) (by decide) (fun c6 => ?_) (fun c6 => ?_)
    · exact absurd rfl c6
    · refine g_aload_n C (gd DX10_within_0 5 rfl) 0 rfl rfl ?_
      refine g_iconst (v := 2) C (gd DX10_within_0 6 rfl) (by decide) ?_
      refine g_cV1 (ci := 10) C [_] mX10_refuse lm_TestJudgeModel_331 (by exact hm.1) rfl rfl (e_m_refuse hm _) hfl (by decide) (by decide) (by omega) (by omega) rfl rfl (Nat.le_of_ble_eq_true rfl) (gd DX10_within_0 7 rfl) ?_
      exact g_iret C (by omega) (by omega) (Or.inl ⟨hp, rfl, (mKp.rf m h).q 2⟩) (gd DX10_within_0 8 rfl)
  rw [b1_t hp]
  refine g_if_ne C 15 (gd DX10_within_0 4 rfl) (by decide) (fun c6 => ?_) (fun c6 => ?_)
  rotate_left
  · exact absurd c6 (by decide)
  obtain ⟨r, hr, rfl⟩ := below_of (by omega) hp.1
  obtain ⟨q, hq, rfl⟩ := below_of (by omega) hp.2
  obtain ⟨wr, lr, hwr⟩ := hw r hr
  obtain ⟨wo, lo, hwo⟩ := hw q hq
  refine g_aload_n C (gd DX10_within_0 9 rfl) 0 rfl rfl ?_
  refine g_iload_n C (gd DX10_within_0 10 rfl) 1 rfl rfl ?_
  refine g_iload_n C (gd DX10_within_0 11 rfl) 2 rfl rfl ?_
  refine g_callV (ci := 10) C [_, _] mX10_laysTwo lm_TestJudgeModel_428 (by exact hm.1) rfl rfl (e_m_laysTwo hm hF (by omega : r < 8) (by omega : q < 8) lr lo hwr hwo) hfl (by decide) (by decide) (by omega) (by omega) rfl rfl (Nat.le_of_ble_eq_true rfl) (gd DX10_within_0 12 rfl) (fun r h2 hp => ?_)
  obtain ⟨rfl, hl⟩ := hp
  obtain ⟨N, hL, hk⟩ := lay_2 hF (by omega : r < 8) (by omega : q < 8) lr lo hwr hwo hl
  have g := hL.1.gok
  have hg1 := g.1
  have hm2 : mSh m h2 := hm.fr hk.1
  show GW z w 5 _ 0 0 _ _ [] _
  generalize hQ : (gQ z w 0 0 _) = Q
  have fin : ∀ v : Int32, ((∀ t, t < N → hI h2 (m + 8) t &&& (hI h2 (m + 9) t ^^^ -1) = 0) ∧ v = 1 ∨ (¬ ∀ t, t < N → hI h2 (m + 8) t &&& (hI h2 (m + 9) t ^^^ -1) = 0) ∧ v = 0) → ∀ s : Int32, GW z w 5 Q 0 0 71 [(0, .ref m), (1, .int (nI r)), (2, .int (nI q)), (3, .int v), (4, .int s)] [] h2 := by
    intro v hv s
    rcases hv with ⟨hv, rfl⟩ | ⟨hv, rfl⟩
    · refine g_aload_n C (gd DX10_within_0 41 rfl) 0 rfl rfl ?_
      refine g_iload_n C (gd DX10_within_0 42 rfl) 3 rfl rfl ?_
      refine g_if_eq C 80 (gd DX10_within_0 43 rfl) (by decide) (fun c73 => ?_) (fun c73 => ?_)
      · exact absurd c73 (by decide)
      · refine g_iconst (v := 1) C (gd DX10_within_0 44 rfl) (by decide) ?_
        refine g_goto (tgt := 81) C (gd DX10_within_0 45 rfl) (by decide) ?_
        refine g_cV1 (ci := 10) C [_] mX10_gives lm_TestJudgeModel_349 (by exact hm2.1) rfl rfl (e_m_gives hm2 _) hfl (by decide) (by decide) (by omega) (by omega) rfl rfl (Nat.le_of_ble_eq_true rfl) (gd DX10_within_0 47 rfl) ?_
        rw [← hQ]
        exact g_iret C (by omega) (by omega) (Or.inr ⟨r, q, hr, hq, rfl, rfl, _, N, hL, Or.inl ⟨hv, rfl⟩, hk.q 0⟩) (gd DX10_within_0 48 rfl)
    · refine g_aload_n C (gd DX10_within_0 41 rfl) 0 rfl rfl ?_
      refine g_iload_n C (gd DX10_within_0 42 rfl) 3 rfl rfl ?_
      refine g_if_eq C 80 (gd DX10_within_0 43 rfl) (by decide) (fun c73 => ?_) (fun c73 => ?_)
      · refine g_iconst (v := 0) C (gd DX10_within_0 46 rfl) (by decide) ?_
        refine g_cV1 (ci := 10) C [_] mX10_gives lm_TestJudgeModel_349 (by exact hm2.1) rfl rfl (e_m_gives hm2 _) hfl (by decide) (by decide) (by omega) (by omega) rfl rfl (Nat.le_of_ble_eq_true rfl) (gd DX10_within_0 47 rfl) ?_
        rw [← hQ]
        exact g_iret C (by omega) (by omega) (Or.inr ⟨r, q, hr, hq, rfl, rfl, _, N, hL, Or.inr ⟨hv, rfl⟩, hk.q 0⟩) (gd DX10_within_0 48 rfl)
      · exact absurd rfl c73
  have loop : ∀ y s (v : Int32), s + y = N → ((∀ t, t < s → hI h2 (m + 8) t &&& (hI h2 (m + 9) t ^^^ -1) = 0) ∧ v = 1 ∨ (¬ ∀ t, t < s → hI h2 (m + 8) t &&& (hI h2 (m + 9) t ^^^ -1) = 0) ∧ v = 0) → GW z w 5 Q 0 0 26 [(0, .ref m), (1, .int (nI r)), (2, .int (nI q)), (3, .int v), (4, .int (nI s))] [] h2 := by
    intro y
    induction y with
    | zero =>
      intro s v hs hv
      rw [show s = N by omega] at hv ⊢
      refine g_iload C (gd DX10_within_0 17 rfl) 4 rfl ?_
      refine g_aload_n C (gd DX10_within_0 18 rfl) 0 rfl rfl ?_
      refine g_geti (ci := 10) (k := 42) C rfl (by decide) rfl lf_TestJudgeModel_357 hm2.1 (gd DX10_within_0 19 rfl) ?_
      rw [g.2.1]
      refine g_icmp_ge C 71 (gd DX10_within_0 20 rfl) (by decide) (fun c32 => ?_) (fun c32 => ?_)
      · exact fin v hv _
      · exact absurd (nI_le (a := N) (b := N) (by omega) (by omega)) c32
    | succ y ih =>
      intro s v hs hv
      have nx : ∀ v' : Int32, ((∀ t, t < s + 1 → hI h2 (m + 8) t &&& (hI h2 (m + 9) t ^^^ -1) = 0) ∧ v' = 1 ∨ (¬ ∀ t, t < s + 1 → hI h2 (m + 8) t &&& (hI h2 (m + 9) t ^^^ -1) = 0) ∧ v' = 0) → GW z w 5 Q 0 0 64 [(0, .ref m), (1, .int (nI r)), (2, .int (nI q)), (3, .int v), (4, .int (nI s))] [.int v'] h2 := by
        intro v' hv'
        refine g_istore_n (lv' := [(0, _), (1, _), (2, _), (3, _), (4, _)]) C (gd DX10_within_0 38 rfl) [1, 2, 3, 0, 4] rfl (by decide) rfl ?_
        refine g_iinc (lv' := [(0, _), (1, _), (2, _), (3, _), (4, _)]) C (gd DX10_within_0 39 rfl) 4 [1, 2, 3, 4, 0] rfl rfl (by decide) rfl ?_
        refine g_goto (tgt := 26) C (gd DX10_within_0 40 rfl) (by decide) ?_
        exact GW.cast (by rw [inc1]) rfl rfl (ih (s + 1) v' (by omega) hv')
      refine g_iload C (gd DX10_within_0 17 rfl) 4 rfl ?_
      refine g_aload_n C (gd DX10_within_0 18 rfl) 0 rfl rfl ?_
      refine g_geti (ci := 10) (k := 42) C rfl (by decide) rfl lf_TestJudgeModel_357 hm2.1 (gd DX10_within_0 19 rfl) ?_
      rw [g.2.1]
      refine g_icmp_ge C 71 (gd DX10_within_0 20 rfl) (by decide) (fun c32 => ?_) (fun c32 => ?_)
      · exact absurd c32 (nI_ge (a := s) (b := N) (by omega) (by omega))
      · rcases hv with ⟨hv, rfl⟩ | ⟨hv, rfl⟩
        · refine g_iload_n C (gd DX10_within_0 21 rfl) 3 rfl rfl ?_
          refine g_if_eq C 63 (gd DX10_within_0 22 rfl) (by decide) (fun c36 => ?_) (fun c36 => ?_)
          · exact absurd c36 (by decide)
          · refine g_aload_n C (gd DX10_within_0 23 rfl) 0 rfl rfl ?_
            refine g_getr (ci := 10) (k := 36) C rfl (by decide) rfl lf_TestJudgeModel_44 hm2.1 (hm2.2 36 8 12 16500 rfl).1 (gd DX10_within_0 24 rfl) ?_
            refine g_iload C (gd DX10_within_0 25 rfl) 4 rfl ?_
            refine g_iaj (j := s) C (hm2.2 36 8 12 16500 rfl).2.1 (hm2.2 36 8 12 16500 rfl).2.2 (by decide) rfl (by omega) (gd DX10_within_0 26 rfl) ?_
            refine g_aload_n C (gd DX10_within_0 27 rfl) 0 rfl rfl ?_
            refine g_getr (ci := 10) (k := 37) C rfl (by decide) rfl lf_TestJudgeModel_47 hm2.1 (hm2.2 37 9 12 16500 rfl).1 (gd DX10_within_0 28 rfl) ?_
            refine g_iload C (gd DX10_within_0 29 rfl) 4 rfl ?_
            refine g_iaj (j := s) C (hm2.2 37 9 12 16500 rfl).2.1 (hm2.2 37 9 12 16500 rfl).2.2 (by decide) rfl (by omega) (gd DX10_within_0 30 rfl) ?_
            refine g_iconst (v := -1) C (gd DX10_within_0 31 rfl) (by decide) ?_
            refine g_ixor C (gd DX10_within_0 32 rfl) ?_
            refine g_iand C (gd DX10_within_0 33 rfl) ?_
            refine g_if_ne C 63 (gd DX10_within_0 34 rfl) (by decide) (fun c56 => ?_) (fun c56 => ?_)
            · refine g_iconst (v := 0) C (gd DX10_within_0 37 rfl) (by decide) ?_
              exact nx 0 (Or.inr ⟨fun q => c56 (q s (by omega)), rfl⟩)
            · refine g_iconst (v := 1) C (gd DX10_within_0 35 rfl) (by decide) ?_
              refine g_goto (tgt := 64) C (gd DX10_within_0 36 rfl) (by decide) ?_
              refine nx 1 (Or.inl ⟨fun t ht => ?_, rfl⟩)
              by_cases e : t = s
              · rw [e]; exact c56
              · exact hv t (by omega)
        · refine g_iload_n C (gd DX10_within_0 21 rfl) 3 rfl rfl ?_
          refine g_if_eq C 63 (gd DX10_within_0 22 rfl) (by decide) (fun c36 => ?_) (fun c36 => ?_)
          · refine g_iconst (v := 0) C (gd DX10_within_0 37 rfl) (by decide) ?_
            exact nx 0 (Or.inr ⟨fun q => hv (fun t ht => q t (by omega)), rfl⟩)
          · exact absurd rfl c36
  refine g_iconst (v := 1) C (gd DX10_within_0 13 rfl) (by decide) ?_
  refine g_istore_n (lv' := [(0, _), (1, _), (2, _), (3, _)]) C (gd DX10_within_0 14 rfl) [1, 2, 3, 0] rfl (by decide) rfl ?_
  refine g_iconst (v := 0) C (gd DX10_within_0 15 rfl) (by decide) ?_
  refine g_istore (lv' := [(0, _), (1, _), (2, _), (3, _), (4, _)]) C (gd DX10_within_0 16 rfl) [1, 2, 3, 4, 0] (by decide) rfl ?_
  exact loop N 0 1 (by omega) (Or.inl ⟨fun t ht => by omega, rfl⟩)
theorem e_m_count {nt na np nf : Nat} {fw : Nat → Nat} (ok : mOK m h nt na np nf fw) (p n : Int32) :
    Ev w 7 0 0 yX10_count cX10_count 3 (some .long) [.ref m, .int p, .int n] h (fun r' h' => (¬ (0 ≤ n ∧ n ≤ 12) ∧ r' = some (.long (-1 : Int32).toInt64) ∧ pQ m h h' 1) ∨ ((0 ≤ n ∧ n ≤ 12) ∧ ¬ (0 ≤ p ∧ p ≤ nI np - 1) ∧ r' = some (.long (-1 : Int32).toInt64) ∧ pQ m h h' 2) ∨ ((0 ≤ n ∧ n ≤ 12) ∧ ∃ r k, r < np ∧ p = nI r ∧ k ≤ 12 ∧ n = nI k ∧ ∃ h1 N, LDU (P1 m h nf r) m h1 N ∧ r' = some (.long (wS (wN (hI h1 (m + 7)) N k) (hI h1 (m + 8)) N)) ∧ pQ m h h' 0)) := by
  obtain ⟨hm, hnt, hna, hnp, hF, hw⟩ := ok
  refine g_start (by decide) (Nat.le_of_ble_eq_true rfl) [(0, _), (1, _), (2, _)] rfl (fun z hfl C => ?_)
  refine g_iload_n C (gd DX10_count_0 0 rfl) 2 rfl rfl ?_
  refine g_iconst (v := 0) C (gd DX10_count_0 1 rfl) (by decide) ?_
  refine g_bipush (v := 12) C (gd DX10_count_0 2 rfl) (by decide) ?_
  refine g_cS1 C [_, _, _] mX10_isFrom lm_TestJudgeModel_112 (e_m_isFrom _ _ _) hfl (by decide) (by decide) (by omega) (by omega) rfl rfl (Nat.le_of_ble_eq_true rfl) (gd DX10_count_0 3 rfl) ?_
  by_cases hn : 0 ≤ n ∧ n ≤ 12
  rotate_left
  · rw [b1_f hn]
    refine g_if_ne C 17 (gd DX10_count_0 4 rfl) (by decide) (fun c7 => ?_) (fun c7 => ?_)
    · exact absurd rfl c7
    · refine g_aload_n C (gd DX10_count_0 5 rfl) 0 rfl rfl ?_
      refine g_iconst (v := 1) C (gd DX10_count_0 6 rfl) (by decide) ?_
      refine g_cV1 (ci := 10) C [_] mX10_refuse lm_TestJudgeModel_331 (by exact hm.1) rfl rfl (e_m_refuse hm _) hfl (by decide) (by decide) (by omega) (by omega) rfl rfl (Nat.le_of_ble_eq_true rfl) (gd DX10_count_0 7 rfl) ?_
      refine g_i2l C (gd DX10_count_0 8 rfl) ?_
      exact g_lret C (by omega) (by omega) (Or.inl ⟨hn, rfl, (mKp.rf m h).q 1⟩) (gd DX10_count_0 9 rfl)
  rw [b1_t hn]
  refine g_if_ne C 17 (gd DX10_count_0 4 rfl) (by decide) (fun c7 => ?_) (fun c7 => ?_)
  rotate_left
  · exact absurd c7 (by decide)
  refine g_aload_n C (gd DX10_count_0 10 rfl) 0 rfl rfl ?_
  refine g_iload_n C (gd DX10_count_0 11 rfl) 1 rfl rfl ?_
  refine g_cV1 (ci := 10) C [_] mX10_isProgram lm_TestJudgeModel_116 (by exact hm.1) rfl rfl (e_m_isProgram hm _) hfl (by decide) (by decide) (by omega) (by omega) rfl rfl (Nat.le_of_ble_eq_true rfl) (gd DX10_count_0 12 rfl) ?_
  rw [hnp.2]
  by_cases hp : 0 ≤ p ∧ p ≤ nI np - 1
  rotate_left
  · rw [b1_f hp]
    refine g_if_ne C 32 (gd DX10_count_0 13 rfl) (by decide) (fun c22 => ?_) (fun c22 => ?_)
    · exact absurd rfl c22
    · refine g_aload_n C (gd DX10_count_0 14 rfl) 0 rfl rfl ?_
      refine g_iconst (v := 2) C (gd DX10_count_0 15 rfl) (by decide) ?_
      refine g_cV1 (ci := 10) C [_] mX10_refuse lm_TestJudgeModel_331 (by exact hm.1) rfl rfl (e_m_refuse hm _) hfl (by decide) (by decide) (by omega) (by omega) rfl rfl (Nat.le_of_ble_eq_true rfl) (gd DX10_count_0 16 rfl) ?_
      refine g_i2l C (gd DX10_count_0 17 rfl) ?_
      exact g_lret C (by omega) (by omega) (Or.inr (Or.inl ⟨hn, hp, rfl, (mKp.rf m h).q 2⟩)) (gd DX10_count_0 18 rfl)
  rw [b1_t hp]
  refine g_if_ne C 32 (gd DX10_count_0 13 rfl) (by decide) (fun c22 => ?_) (fun c22 => ?_)
  rotate_left
  · exact absurd c22 (by decide)
  obtain ⟨r, hr, rfl⟩ := below_of (by omega) hp
  obtain ⟨wr, lr, hwr⟩ := hw r hr
  have hn0 := hn
  obtain ⟨k, hk12, rfl⟩ : ∃ k, k < 13 ∧ n = nI k := below_of (n := 13) (by omega) hn
  refine g_aload_n C (gd DX10_count_0 19 rfl) 0 rfl rfl ?_
  refine g_iload_n C (gd DX10_count_0 20 rfl) 1 rfl rfl ?_
  refine g_callV (ci := 10) C [_] mX10_laysOne lm_TestJudgeModel_396 (by exact hm.1) rfl rfl (e_m_laysOne hm hF (by omega : r < 8) lr hwr) hfl (by decide) (by decide) (by omega) (by omega) rfl rfl (Nat.le_of_ble_eq_true rfl) (gd DX10_count_0 21 rfl) (fun r h2 hp => ?_)
  obtain ⟨rfl, hl⟩ := hp
  obtain ⟨N, hL, hk⟩ := lay_1 hF (by omega : r < 8) lr hwr hl
  have hm2 : mSh m h2 := hm.fr hk.1
  show GW z w 3 _ 0 0 _ _ [] _
  refine g_aload_n C (gd DX10_count_0 22 rfl) 0 rfl rfl ?_
  refine g_aload_n C (gd DX10_count_0 23 rfl) 0 rfl rfl ?_
  refine g_iload_n C (gd DX10_count_0 24 rfl) 2 rfl rfl ?_
  refine g_iconst (v := 0) C (gd DX10_count_0 25 rfl) (by decide) ?_
  refine g_callV (ci := 10) C [_, _] mX10_counts lm_TestJudgeModel_405 (by exact hm2.1) rfl rfl (e_m_counts hm2 hL.1.gok hL.1.2.1 (by omega : k < 100000) 0 (fun t ht => by obtain ⟨x, hx, e⟩ := hL.1.e1n hnt.1 hnt.2 t ht; exact ⟨x, by omega, by rw [if_pos rfl]; exact e⟩)) hfl (by decide) (by decide) (by omega) (by omega) rfl rfl (Nat.le_of_ble_eq_true rfl) (gd DX10_count_0 26 rfl) (fun r h2 hp => ?_)
  obtain ⟨A, B, rfl, rfl⟩ := hp
  show GW z w 3 _ 0 0 _ _ [.long _, .ref m] _
  refine g_cV1 (ci := 10) C [.long _] mX10_givesLong lm_TestJudgeModel_409 (by exact hm2.1) rfl rfl (e_m_givesLong (h := hW2 m _ A B) (by exact hm2) _) hfl (by decide) (by decide) (by omega) (by omega) rfl rfl (Nat.le_of_ble_eq_true rfl) (gd DX10_count_0 27 rfl) ?_
  exact g_lret C (by omega) (by omega) (Or.inr (Or.inr ⟨hn0, r, k, hr, rfl, by omega, rfl, _, N, hL, rfl, (hk.tr (mKp_W2 m _ A B)).q 0⟩)) (gd DX10_count_0 28 rfl)
theorem e_m_both {nt na np nf : Nat} {fw : Nat → Nat} (ok : mOK m h nt na np nf fw) (p o n : Int32) :
    Ev w 7 0 0 yX10_both cX10_both 4 (some .long) [.ref m, .int p, .int o, .int n] h (fun r' h' => (¬ (0 ≤ n ∧ n ≤ 12) ∧ r' = some (.long (-1 : Int32).toInt64) ∧ pQ m h h' 1) ∨ ((0 ≤ n ∧ n ≤ 12) ∧ ¬ ((0 ≤ p ∧ p ≤ nI np - 1) ∧ (0 ≤ o ∧ o ≤ nI np - 1)) ∧ r' = some (.long (-1 : Int32).toInt64) ∧ pQ m h h' 2) ∨ ((0 ≤ n ∧ n ≤ 12) ∧ ∃ r q k, r < np ∧ q < np ∧ p = nI r ∧ o = nI q ∧ k ≤ 12 ∧ n = nI k ∧ ∃ h1 N, LDU (P2 m h nf r q) m h1 N ∧ r' = some (.long (wS (wN (hI h1 (m + 7)) N k) (fun t => hI h1 (m + 8) t &&& hI h1 (m + 9) t) N)) ∧ pQ m h h' 0)) := by
  obtain ⟨hm, hnt, hna, hnp, hF, hw⟩ := ok
  refine g_start (by decide) (Nat.le_of_ble_eq_true rfl) [(0, _), (1, _), (2, _), (3, _)] rfl (fun z hfl C => ?_)
  refine g_iload_n C (gd DX10_both_0 0 rfl) 3 rfl rfl ?_
  refine g_iconst (v := 0) C (gd DX10_both_0 1 rfl) (by decide) ?_
  refine g_bipush (v := 12) C (gd DX10_both_0 2 rfl) (by decide) ?_
  refine g_cS1 C [_, _, _] mX10_isFrom lm_TestJudgeModel_112 (e_m_isFrom _ _ _) hfl (by decide) (by decide) (by omega) (by omega) rfl rfl (Nat.le_of_ble_eq_true rfl) (gd DX10_both_0 3 rfl) ?_
  by_cases hn : 0 ≤ n ∧ n ≤ 12
  rotate_left
  · rw [b1_f hn]
    refine g_if_ne C 17 (gd DX10_both_0 4 rfl) (by decide) (fun c7 => ?_) (fun c7 => ?_)
    · exact absurd rfl c7
    · refine g_aload_n C (gd DX10_both_0 5 rfl) 0 rfl rfl ?_
      refine g_iconst (v := 1) C (gd DX10_both_0 6 rfl) (by decide) ?_
      refine g_cV1 (ci := 10) C [_] mX10_refuse lm_TestJudgeModel_331 (by exact hm.1) rfl rfl (e_m_refuse hm _) hfl (by decide) (by decide) (by omega) (by omega) rfl rfl (Nat.le_of_ble_eq_true rfl) (gd DX10_both_0 7 rfl) ?_
      refine g_i2l C (gd DX10_both_0 8 rfl) ?_
      exact g_lret C (by omega) (by omega) (Or.inl ⟨hn, rfl, (mKp.rf m h).q 1⟩) (gd DX10_both_0 9 rfl)
  rw [b1_t hn]
  refine g_if_ne C 17 (gd DX10_both_0 4 rfl) (by decide) (fun c7 => ?_) (fun c7 => ?_)
  rotate_left
  · exact absurd c7 (by decide)
  refine g_aload_n C (gd DX10_both_0 10 rfl) 0 rfl rfl ?_
  refine g_iload_n C (gd DX10_both_0 11 rfl) 1 rfl rfl ?_
  refine g_iload_n C (gd DX10_both_0 12 rfl) 2 rfl rfl ?_
  refine g_cV1 (ci := 10) C [_, _] mX10_areTwo lm_TestJudgeModel_434 (by exact hm.1) rfl rfl (e_m_areTwo hm _ _) hfl (by decide) (by decide) (by omega) (by omega) rfl rfl (Nat.le_of_ble_eq_true rfl) (gd DX10_both_0 13 rfl) ?_
  rw [hnp.2]
  by_cases hp : (0 ≤ p ∧ p ≤ nI np - 1) ∧ (0 ≤ o ∧ o ≤ nI np - 1)
  rotate_left
  · rw [b1_f hp]
    refine g_if_ne C 33 (gd DX10_both_0 14 rfl) (by decide) (fun c23 => ?_) (fun c23 => ?_)
    · exact absurd rfl c23
    · refine g_aload_n C (gd DX10_both_0 15 rfl) 0 rfl rfl ?_
      refine g_iconst (v := 2) C (gd DX10_both_0 16 rfl) (by decide) ?_
      refine g_cV1 (ci := 10) C [_] mX10_refuse lm_TestJudgeModel_331 (by exact hm.1) rfl rfl (e_m_refuse hm _) hfl (by decide) (by decide) (by omega) (by omega) rfl rfl (Nat.le_of_ble_eq_true rfl) (gd DX10_both_0 17 rfl) ?_
      refine g_i2l C (gd DX10_both_0 18 rfl) ?_
      exact g_lret C (by omega) (by omega) (Or.inr (Or.inl ⟨hn, hp, rfl, (mKp.rf m h).q 2⟩)) (gd DX10_both_0 19 rfl)
  rw [b1_t hp]
  refine g_if_ne C 33 (gd DX10_both_0 14 rfl) (by decide) (fun c23 => ?_) (fun c23 => ?_)
  rotate_left
  · exact absurd c23 (by decide)
  obtain ⟨r, hr, rfl⟩ := below_of (by omega) hp.1
  obtain ⟨q, hq, rfl⟩ := below_of (by omega) hp.2
  obtain ⟨wr, lr, hwr⟩ := hw r hr
  obtain ⟨wo, lo, hwo⟩ := hw q hq
  have hn0 := hn
  obtain ⟨k, hk12, rfl⟩ : ∃ k, k < 13 ∧ n = nI k := below_of (n := 13) (by omega) hn
  refine g_aload_n C (gd DX10_both_0 20 rfl) 0 rfl rfl ?_
  refine g_iload_n C (gd DX10_both_0 21 rfl) 1 rfl rfl ?_
  refine g_iload_n C (gd DX10_both_0 22 rfl) 2 rfl rfl ?_
  refine g_callV (ci := 10) C [_, _] mX10_laysTwo lm_TestJudgeModel_428 (by exact hm.1) rfl rfl (e_m_laysTwo hm hF (by omega : r < 8) (by omega : q < 8) lr lo hwr hwo) hfl (by decide) (by decide) (by omega) (by omega) rfl rfl (Nat.le_of_ble_eq_true rfl) (gd DX10_both_0 23 rfl) (fun r h2 hp => ?_)
  obtain ⟨rfl, hl⟩ := hp
  obtain ⟨N, hL, hk⟩ := lay_2 hF (by omega : r < 8) (by omega : q < 8) lr lo hwr hwo hl
  have hm2 : mSh m h2 := hm.fr hk.1
  show GW z w 4 _ 0 0 _ _ [] _
  refine g_aload_n C (gd DX10_both_0 24 rfl) 0 rfl rfl ?_
  refine g_aload_n C (gd DX10_both_0 25 rfl) 0 rfl rfl ?_
  refine g_iload_n C (gd DX10_both_0 26 rfl) 3 rfl rfl ?_
  refine g_iconst (v := 1) C (gd DX10_both_0 27 rfl) (by decide) ?_
  refine g_callV (ci := 10) C [_, _] mX10_counts lm_TestJudgeModel_405 (by exact hm2.1) rfl rfl (e_m_counts hm2 hL.1.gok hL.1.2.1 (by omega : k < 100000) 1 (fun t ht => by obtain ⟨x, hx, e⟩ := hL.1.e12n hnt.1 hnt.2 t ht; exact ⟨x, by omega, by rw [if_neg (by decide)]; exact e⟩)) hfl (by decide) (by decide) (by omega) (by omega) rfl rfl (Nat.le_of_ble_eq_true rfl) (gd DX10_both_0 28 rfl) (fun r h2 hp => ?_)
  obtain ⟨A, B, rfl, rfl⟩ := hp
  show GW z w 4 _ 0 0 _ _ [.long _, .ref m] _
  refine g_cV1 (ci := 10) C [.long _] mX10_givesLong lm_TestJudgeModel_409 (by exact hm2.1) rfl rfl (e_m_givesLong (h := hW2 m _ A B) (by exact hm2) _) hfl (by decide) (by decide) (by omega) (by omega) rfl rfl (Nat.le_of_ble_eq_true rfl) (gd DX10_both_0 29 rfl) ?_
  exact g_lret C (by omega) (by omega) (Or.inr (Or.inr ⟨hn0, r, q, k, hr, hq, rfl, rfl, by omega, rfl, _, N, hL, rfl, (hk.tr (mKp_W2 m _ A B)).q 0⟩)) (gd DX10_both_0 30 rfl)
end M37
