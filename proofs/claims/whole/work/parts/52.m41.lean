/-! the calls walk, step, walked, clear -/
/-- the walk set anew -/
def sW (m : Nat) (h : HS) (a b c : Int32) : HS := sI (sI (sI h m 14 a) m 15 b) m 16 c
theorem sW_ne {m b j : Nat} {h : HS} {x y v : Int32} (hn : ¬ (b = m ∧ 14 ≤ j ∧ j ≤ 16)) : hI (sW m h x y v) b j = hI h b j := by
  unfold sW
  rw [hI_sI, if_neg (by omega), hI_sI, if_neg (by omega), hI_sI, if_neg (by omega)]
theorem sW_14 {m : Nat} {h : HS} {x y v : Int32} : hI (sW m h x y v) m 14 = x := by
  unfold sW
  rw [hI_sI, if_neg (by omega), hI_sI, if_neg (by omega), hI_sI, if_pos ⟨rfl, rfl⟩]
theorem sW_15 {m : Nat} {h : HS} {x y v : Int32} : hI (sW m h x y v) m 15 = y := by
  unfold sW
  rw [hI_sI, if_neg (by omega), hI_sI, if_pos ⟨rfl, rfl⟩]
theorem sW_16 {m : Nat} {h : HS} {x y v : Int32} : hI (sW m h x y v) m 16 = v := by
  unfold sW
  rw [hI_sI, if_pos ⟨rfl, rfl⟩]
theorem mKp.w {m : Nat} {h h' : HS} (k : mKp m h h') (x y v : Int32) : mKp m (sW m h x y v) (sW m h' x y v) := by
  obtain ⟨k1, k2, k3, k4, k5, k6, k7⟩ := k
  refine ⟨k1, fun j j1 j2 j3 => ?_, ?_, fun r j hr hj => ?_, ?_, ?_, ?_⟩
  · rcases (show j = 14 ∨ j = 15 ∨ j = 16 ∨ j < 14 by omega) with e | e | e | e
    · rw [e, sW_14, sW_14]
    · rw [e, sW_15, sW_15]
    · rw [e, sW_16, sW_16]
    · rw [sW_ne (by omega), sW_ne (by omega)]; exact k2 j j1 j2 j3
  · rw [sW_ne (by omega), sW_ne (by omega)]; exact k3
  · unfold gRec
    rw [sW_ne (by omega), sW_ne (by omega)]
    exact k4 r j hr hj
  · funext j; rw [sW_ne (by omega), sW_ne (by omega), k5]
  · funext j; rw [sW_ne (by omega), sW_ne (by omega), k6]
  · funext j; rw [sW_ne (by omega), sW_ne (by omega), k7]
/-- how many ways a rest goes on by an atom -/
def clC (T : Nat → Nat → Int32) (i a : Nat) : Nat → Nat
  | 0 => 0
  | c + 1 => clC T i a c + (if T i (3 * a + c) = -1 then 0 else 1)
def clN (e : Int32) (T : Nat → Nat → Int32) (na i a : Nat) : Nat := (if e >>> (nI a &&& 31) &&& 1 = 1 then 1 else 0) + clC T i a na
theorem clC_le (T : Nat → Nat → Int32) (i a : Nat) : ∀ c, clC T i a c ≤ c := by
  intro c
  induction c with
  | zero => exact Nat.le_refl _
  | succ c ih => unfold clC; split <;> omega
section M41
variable {w : gD} {m : Nat} {h : HS}
theorem e_m_walk {nt na np nf : Nat} {fw : Nat → Nat} (ok : mOK m h nt na np nf fw) (p : Int32) :
    Ev w 8 0 0 yX10_walk cX10_walk 2 (some .int) [.ref m, .int p] h (fun r' h' => (¬ (0 ≤ p ∧ p ≤ nI np - 1) ∧ r' = some (.int (-1)) ∧ pQ m h h' 2) ∨ ∃ r, r < np ∧ p = nI r ∧ ∃ h1 N R T, rsT m h nf r h1 N R T ∧ ((R.length = 0 ∧ r' = some (.int (-1)) ∧ pQ m h h' 5) ∨ (0 < R.length ∧ r' = some (.int (nI R.length)) ∧ pQ m (sW m h (nI r) 0 0) h' 0))) := by
  have ok0 := ok
  obtain ⟨hm, hnt, hna, hnp, hF, hw⟩ := ok
  refine g_start (by decide) (Nat.le_of_ble_eq_true rfl) [(0, _), (1, _)] rfl (fun z hfl C => ?_)
  refine g_aload_n C (gd DX10_walk_0 0 rfl) 0 rfl rfl ?_
  refine g_iload_n C (gd DX10_walk_0 1 rfl) 1 rfl rfl ?_
  refine g_cV1 (ci := 10) C [_] mX10_isProgram lm_TestJudgeModel_116 (by exact hm.1) rfl rfl (e_m_isProgram hm _) hfl (by decide) (by decide) (by omega) (by omega) rfl rfl (Nat.le_of_ble_eq_true rfl) (gd DX10_walk_0 2 rfl) ?_
  rw [hnp.2]
  by_cases hp : 0 ≤ p ∧ p ≤ nI np - 1
  rotate_left
  · rw [b1_f hp]
    refine g_if_ne C 14 (gd DX10_walk_0 3 rfl) (by decide) (fun c5 => ?_) (fun c5 => ?_)
    · exact absurd rfl c5
    · refine g_aload_n C (gd DX10_walk_0 4 rfl) 0 rfl rfl ?_
      refine g_iconst (v := 2) C (gd DX10_walk_0 5 rfl) (by decide) ?_
      refine g_cV1 (ci := 10) C [_] mX10_refuse lm_TestJudgeModel_331 (by exact hm.1) rfl rfl (e_m_refuse hm _) hfl (by decide) (by decide) (by omega) (by omega) rfl rfl (Nat.le_of_ble_eq_true rfl) (gd DX10_walk_0 6 rfl) ?_
      exact g_iret C (by omega) (by omega) (Or.inl ⟨hp, rfl, (mKp.rf m h).q 2⟩) (gd DX10_walk_0 7 rfl)
  rw [b1_t hp]
  refine g_if_ne C 14 (gd DX10_walk_0 3 rfl) (by decide) (fun c5 => ?_) (fun c5 => ?_)
  rotate_left
  · exact absurd c5 (by decide)
  obtain ⟨r, hr, rfl⟩ := below_of (by omega) hp
  refine g_aload_n C (gd DX10_walk_0 8 rfl) 0 rfl rfl ?_
  refine g_iload_n C (gd DX10_walk_0 9 rfl) 1 rfl rfl ?_
  refine g_callV (ci := 10) C [_] mX10_laysRests lm_TestJudgeModel_463 (by exact hm.1) rfl rfl (r_laysRests ok0 hr) hfl (by decide) (by decide) (by omega) (by omega) rfl rfl (Nat.le_of_ble_eq_true rfl) (gd DX10_walk_0 10 rfl) (fun r h2 hp => ?_)
  obtain ⟨rfl, h1, N, R, T, ht, hu⟩ := hp
  have hm2 : mSh m h2 := hm.fr hu.1.1
  have hRl := ht.2.2.1
  show GW z w 2 _ 0 0 _ _ [] _
  refine g_aload_n C (gd DX10_walk_0 11 rfl) 0 rfl rfl ?_
  refine g_geti (ci := 10) (k := 54) C rfl (by decide) rfl lf_TestJudgeModel_457 hm2.1 (gd DX10_walk_0 12 rfl) ?_
  rw [hu.2.2.1]
  refine g_if_ne C 32 (gd DX10_walk_0 13 rfl) (by decide) (fun c23 => ?_) (fun c23 => ?_)
  · have h0 : 0 < R.length := by
      rcases Nat.eq_zero_or_pos R.length with e | e
      · exact absurd (by rw [e]; rfl) c23
      · exact e
    refine g_aload_n C (gd DX10_walk_0 18 rfl) 0 rfl rfl ?_
    refine g_iload_n C (gd DX10_walk_0 19 rfl) 1 rfl rfl ?_
    refine g_puti (ci := 10) (k := 14) C rfl (by decide) rfl lf_TestJudgeModel_26 hm2.1 (Or.inl rfl) rfl (gd DX10_walk_0 20 rfl) ?_
    refine g_aload_n C (gd DX10_walk_0 21 rfl) 0 rfl rfl ?_
    refine g_iconst (v := 0) C (gd DX10_walk_0 22 rfl) (by decide) ?_
    refine g_puti (ci := 10) (k := 15) C rfl (by decide) rfl lf_TestJudgeModel_490 hm2.1 (Or.inl rfl) rfl (gd DX10_walk_0 23 rfl) ?_
    refine g_aload_n C (gd DX10_walk_0 24 rfl) 0 rfl rfl ?_
    refine g_iconst (v := 0) C (gd DX10_walk_0 25 rfl) (by decide) ?_
    refine g_puti (ci := 10) (k := 16) C rfl (by decide) rfl lf_TestJudgeModel_493 hm2.1 (Or.inl rfl) rfl (gd DX10_walk_0 26 rfl) ?_
    refine g_aload_n C (gd DX10_walk_0 27 rfl) 0 rfl rfl ?_
    refine g_aload_n C (gd DX10_walk_0 28 rfl) 0 rfl rfl ?_
    refine g_geti (ci := 10) (k := 54) C rfl (by decide) rfl lf_TestJudgeModel_457 hm2.1 (gd DX10_walk_0 29 rfl) ?_
    have e54 : hI (sW m h2 (nI r) 0 0) m 54 = nI R.length := by rw [sW_ne (by omega)]; exact hu.2.2.1
    refine GW.cast rfl (by show [Value.int (hI (sW m h2 (nI r) 0 0) m 54), .ref m] = [.int (nI R.length), .ref m]; rw [e54]) rfl ?_
    refine g_cV1 (ci := 10) C [_] mX10_gives lm_TestJudgeModel_349 (by exact hm2.1) rfl rfl (e_m_gives (h := sW m h2 (nI r) 0 0) (by exact hm2) _) hfl (by decide) (by decide) (by omega) (by omega) rfl rfl (Nat.le_of_ble_eq_true rfl) (gd DX10_walk_0 30 rfl) ?_
    exact g_iret C (by omega) (by omega) (Or.inr ⟨r, hr, rfl, h1, N, R, T, ht, Or.inr ⟨h0, rfl, (hu.1.w (nI r) 0 0).q 0⟩⟩) (gd DX10_walk_0 31 rfl)
  · have h0 : R.length = 0 := Classical.byContradiction (fun q => absurd c23 (nI_ne0 (by omega) (by omega)))
    refine g_aload_n C (gd DX10_walk_0 14 rfl) 0 rfl rfl ?_
    refine g_iconst (v := 5) C (gd DX10_walk_0 15 rfl) (by decide) ?_
    refine g_cV1 (ci := 10) C [_] mX10_refuse lm_TestJudgeModel_331 (by exact hm2.1) rfl rfl (e_m_refuse hm2 _) hfl (by decide) (by decide) (by omega) (by omega) rfl rfl (Nat.le_of_ble_eq_true rfl) (gd DX10_walk_0 16 rfl) ?_
    exact g_iret C (by omega) (by omega) (Or.inr ⟨r, hr, rfl, h1, N, R, T, ht, Or.inl ⟨h0, rfl, hu.1.q 5⟩⟩) (gd DX10_walk_0 17 rfl)
theorem e_m_step {nt na np nf : Nat} {fw : Nat → Nat} (ok : mOK m h nt na np nf fw) (wk : mWk m h np nf) (a c : Int32) :
    Ev w 8 0 0 yX10_step cX10_step 4 (some .int) [.ref m, .int a, .int c] h (fun r' h' => (¬ ((0 ≤ a ∧ a ≤ atF (nI nt) - 1) ∧ (0 ≤ c ∧ c ≤ nI na - 1)) ∧ r' = some (.int (-1)) ∧ pQ m h h' 2) ∨ (((0 ≤ a ∧ a ≤ atF (nI nt) - 1) ∧ (0 ≤ c ∧ c ≤ nI na - 1)) ∧ ((hI h m 14 = -1 ∧ r' = some (.int (-1)) ∧ pQ m h h' 5) ∨ ∃ r j x y, r < np ∧ hI h m 14 = nI r ∧ hI h m 16 = nI j ∧ x < 8 ∧ y < 3 ∧ a = nI x ∧ c = nI y ∧ ∃ h1 N R T, rsT m h nf r h1 N R T ∧ j < R.length ∧ ((T j (3 * x + y) = -1 ∧ r' = some (.int (-1)) ∧ pQ m h h' 5) ∨ (¬ T j (3 * x + y) = -1 ∧ r' = some (.int (T j (3 * x + y))) ∧ pQ m (sW m h (nI r) (hI h m 15 + 1) (T j (3 * x + y))) h' 0))))) := by
  have ok0 := ok
  obtain ⟨hm, hnt, hna, hnp, hF, hw⟩ := ok
  refine g_start (by decide) (Nat.le_of_ble_eq_true rfl) [(0, _), (1, _), (2, _)] rfl (fun z hfl C => ?_)
  refine g_aload_n C (gd DX10_step_0 0 rfl) 0 rfl rfl ?_
  refine g_iload_n C (gd DX10_step_0 1 rfl) 1 rfl rfl ?_
  refine g_iload_n C (gd DX10_step_0 2 rfl) 2 rfl rfl ?_
  refine g_cV1 (ci := 10) C [_, _] mX10_isStep lm_TestJudgeModel_469 (by exact hm.1) rfl rfl (e_m_isStep hm _ _) hfl (by decide) (by decide) (by omega) (by omega) rfl rfl (Nat.le_of_ble_eq_true rfl) (gd DX10_step_0 3 rfl) ?_
  rw [hnt.2, hna.2]
  by_cases hs : (0 ≤ a ∧ a ≤ atF (nI nt) - 1) ∧ (0 ≤ c ∧ c ≤ nI na - 1)
  rotate_left
  · rw [b1_f hs]
    refine g_if_ne C 15 (gd DX10_step_0 4 rfl) (by decide) (fun c6 => ?_) (fun c6 => ?_)
    · exact absurd rfl c6
    · refine g_aload_n C (gd DX10_step_0 5 rfl) 0 rfl rfl ?_
      refine g_iconst (v := 2) C (gd DX10_step_0 6 rfl) (by decide) ?_
      refine g_cV1 (ci := 10) C [_] mX10_refuse lm_TestJudgeModel_331 (by exact hm.1) rfl rfl (e_m_refuse hm _) hfl (by decide) (by decide) (by omega) (by omega) rfl rfl (Nat.le_of_ble_eq_true rfl) (gd DX10_step_0 7 rfl) ?_
      exact g_iret C (by omega) (by omega) (Or.inl ⟨hs, rfl, (mKp.rf m h).q 2⟩) (gd DX10_step_0 8 rfl)
  rw [b1_t hs]
  refine g_if_ne C 15 (gd DX10_step_0 4 rfl) (by decide) (fun c6 => ?_) (fun c6 => ?_)
  rotate_left
  · exact absurd c6 (by decide)
  obtain ⟨x, y, hx, hy, rfl, rfl, exy⟩ := step_of hnt.1 hna.1 hs
  refine g_aload_n C (gd DX10_step_0 9 rfl) 0 rfl rfl ?_
  refine g_geti (ci := 10) (k := 14) C rfl (by decide) rfl lf_TestJudgeModel_26 hm.1 (gd DX10_step_0 10 rfl) ?_
  refine g_iconst (v := -1) C (gd DX10_step_0 11 rfl) (by decide) ?_
  refine g_icmp_ne C 29 (gd DX10_step_0 12 rfl) (by decide) (fun c20 => ?_) (fun c20 => ?_)
  rotate_left
  · refine g_aload_n C (gd DX10_step_0 13 rfl) 0 rfl rfl ?_
    refine g_iconst (v := 5) C (gd DX10_step_0 14 rfl) (by decide) ?_
    refine g_cV1 (ci := 10) C [_] mX10_refuse lm_TestJudgeModel_331 (by exact hm.1) rfl rfl (e_m_refuse hm _) hfl (by decide) (by decide) (by omega) (by omega) rfl rfl (Nat.le_of_ble_eq_true rfl) (gd DX10_step_0 15 rfl) ?_
    exact g_iret C (by omega) (by omega) (Or.inr ⟨hs, Or.inl ⟨c20, rfl, (mKp.rf m h).q 5⟩⟩) (gd DX10_step_0 16 rfl)
  obtain ⟨r, j, hr, e14, e16, m1, h0, N0, R0, l0, rs0, hj⟩ : ∃ r j, r < np ∧ hI h m 14 = nI r ∧ hI h m 16 = nI j ∧ ∃ m1 h1 N R, LDr (P1 m h nf r) m1 h1 N ∧ Rsp m1 h1 R ∧ j < R.length := by
    rcases wk with q | q
    · exact absurd q c20
    · exact q
  refine g_aload_n C (gd DX10_step_0 17 rfl) 0 rfl rfl ?_
  refine g_aload_n C (gd DX10_step_0 18 rfl) 0 rfl rfl ?_
  refine g_geti (ci := 10) (k := 14) C rfl (by decide) rfl lf_TestJudgeModel_26 hm.1 (gd DX10_step_0 19 rfl) ?_
  refine GW.cast rfl (show [Value.int (hI h m 14), .ref m] = [.int (nI r), .ref m] by rw [e14]) rfl ?_
  refine g_callV (ci := 10) C [_] mX10_laysRests lm_TestJudgeModel_463 (by exact hm.1) rfl rfl (r_laysRests ok0 hr) hfl (by decide) (by decide) (by omega) (by omega) rfl rfl (Nat.le_of_ble_eq_true rfl) (gd DX10_step_0 20 rfl) (fun r h2 hp => ?_)
  obtain ⟨rfl, h1, N, R, T, ht, hu⟩ := hp
  have hm2 : mSh m h2 := hm.fr hu.1.1
  have hRl := ht.2.2.1
  have eR : R0 = R := Rsp.one l0 ht.1.r rs0 ht.2.1
  subst eR
  have e16' : hI h2 m 16 = nI j := by rw [hu.1.2.1 16 (by omega) (by omega) (by omega)]; exact e16
  have e14' : hI h2 m 14 = nI r := by rw [hu.1.2.1 14 (by omega) (by omega) (by omega)]; exact e14
  have e15' : hI h2 m 15 = hI h m 15 := hu.1.2.1 15 (by omega) (by omega) (by omega)
  show GW z w 4 _ 0 0 _ _ [] _
  refine g_aload_n C (gd DX10_step_0 21 rfl) 0 rfl rfl ?_
  refine g_aload_n C (gd DX10_step_0 22 rfl) 0 rfl rfl ?_
  refine g_geti (ci := 10) (k := 16) C rfl (by decide) rfl lf_TestJudgeModel_493 hm2.1 (gd DX10_step_0 23 rfl) ?_
  rw [e16']
  refine g_iconst (v := 3) C (gd DX10_step_0 24 rfl) (by decide) ?_
  refine g_iload_n C (gd DX10_step_0 25 rfl) 1 rfl rfl ?_
  refine g_imul C (gd DX10_step_0 26 rfl) ?_
  refine g_iload_n C (gd DX10_step_0 27 rfl) 2 rfl rfl ?_
  refine g_iadd C (gd DX10_step_0 28 rfl) ?_
  refine g_cV1 (ci := 10) C [_, _] mX10_nextRest lm_TestJudgeModel_472 (by exact hm2.1) rfl rfl (r_nextRest hm2 ht hu hj (by omega : 3 * x + y < 24) exy) hfl (by decide) (by decide) (by omega) (by omega) rfl rfl (Nat.le_of_ble_eq_true rfl) (gd DX10_step_0 29 rfl) ?_
  refine g_istore_n (lv' := [(0, _), (1, _), (2, _), (3, _)]) C (gd DX10_step_0 30 rfl) [1, 2, 3, 0] rfl (by decide) rfl ?_
  refine g_iload_n C (gd DX10_step_0 31 rfl) 3 rfl rfl ?_
  refine g_iconst (v := -1) C (gd DX10_step_0 32 rfl) (by decide) ?_
  refine g_icmp_ne C 62 (gd DX10_step_0 33 rfl) (by decide) (fun c53 => ?_) (fun c53 => ?_)
  · refine g_aload_n C (gd DX10_step_0 38 rfl) 0 rfl rfl ?_
    refine g_iload_n C (gd DX10_step_0 39 rfl) 3 rfl rfl ?_
    refine g_puti (ci := 10) (k := 16) C rfl (by decide) rfl lf_TestJudgeModel_493 hm2.1 (Or.inl rfl) rfl (gd DX10_step_0 40 rfl) ?_
    refine g_aload_n C (gd DX10_step_0 41 rfl) 0 rfl rfl ?_
    refine g_dup C (gd DX10_step_0 42 rfl) rfl ?_
    refine g_geti (ci := 10) (k := 15) C rfl (by decide) rfl lf_TestJudgeModel_490 hm2.1 (gd DX10_step_0 43 rfl) ?_
    refine g_iconst (v := 1) C (gd DX10_step_0 44 rfl) (by decide) ?_
    refine g_iadd C (gd DX10_step_0 45 rfl) ?_
    refine g_puti (ci := 10) (k := 15) C rfl (by decide) rfl lf_TestJudgeModel_490 hm2.1 (Or.inl rfl) rfl (gd DX10_step_0 46 rfl) ?_
    refine g_aload_n C (gd DX10_step_0 47 rfl) 0 rfl rfl ?_
    refine g_iload_n C (gd DX10_step_0 48 rfl) 3 rfl rfl ?_
    generalize hv : T j (3 * x + y) = v at *
    have eh : sI (sI h2 m 16 v) m 15 (hI (sI h2 m 16 v) m 15 + 1) = sW m h2 (nI r) (hI h m 15 + 1) v := by
      rw [hI_sI, if_neg (by omega), e15']
      refine Prod.ext (funext fun b => funext fun i => ?_) rfl
      show hI _ b i = hI _ b i
      by_cases eb : b = m
      · subst eb
        rcases (show i = 14 ∨ i = 15 ∨ i = 16 ∨ ¬ (14 ≤ i ∧ i ≤ 16) by omega) with e | e | e | e
        · rw [e, sW_14, hI_sI, if_neg (by omega), hI_sI, if_neg (by omega), e14']
        · rw [e, sW_15, hI_sI, if_pos ⟨rfl, rfl⟩]
        · rw [e, sW_16, hI_sI, if_neg (by omega), hI_sI, if_pos ⟨rfl, rfl⟩]
        · rw [sW_ne (by omega), hI_sI, if_neg (by omega), hI_sI, if_neg (by omega)]
      · rw [sW_ne (fun q => eb q.1), hI_sI, if_neg (fun q => eb q.1), hI_sI, if_neg (fun q => eb q.1)]
    refine GW.cast rfl rfl eh ?_
    refine g_cV1 (ci := 10) C [_] mX10_gives lm_TestJudgeModel_349 (by exact hm2.1) rfl rfl (e_m_gives (h := sW m h2 (nI r) (hI h m 15 + 1) v) (by exact hm2) _) hfl (by decide) (by decide) (by omega) (by omega) rfl rfl (Nat.le_of_ble_eq_true rfl) (gd DX10_step_0 49 rfl) ?_
    exact g_iret C (by omega) (by omega) (Or.inr ⟨hs, Or.inr ⟨r, j, x, y, hr, e14, e16, hx, hy, rfl, rfl, h1, N, R0, T, ht, hj, Or.inr ⟨by rw [hv]; exact c53, by rw [hv], by rw [hv]; exact (hu.1.w _ _ _).q 0⟩⟩⟩) (gd DX10_step_0 50 rfl)
  · refine g_aload_n C (gd DX10_step_0 34 rfl) 0 rfl rfl ?_
    refine g_iconst (v := 5) C (gd DX10_step_0 35 rfl) (by decide) ?_
    refine g_cV1 (ci := 10) C [_] mX10_refuse lm_TestJudgeModel_331 (by exact hm2.1) rfl rfl (e_m_refuse hm2 _) hfl (by decide) (by decide) (by omega) (by omega) rfl rfl (Nat.le_of_ble_eq_true rfl) (gd DX10_step_0 36 rfl) ?_
    exact g_iret C (by omega) (by omega) (Or.inr ⟨hs, Or.inr ⟨r, j, x, y, hr, e14, e16, hx, hy, rfl, rfl, h1, N, R0, T, ht, hj, Or.inl ⟨c53, rfl, hu.1.q 5⟩⟩⟩) (gd DX10_step_0 37 rfl)
theorem e_m_walked {nt na np nf : Nat} {fw : Nat → Nat} (ok : mOK m h nt na np nf fw) (wk : mWk m h np nf) (k : Int32) :
    Ev w 8 0 0 yX10_walked cX10_walked 2 (some .int) [.ref m, .int k] h (fun r' h' => (¬ (0 ≤ k ∧ k ≤ 3) ∧ r' = some (.int (-1)) ∧ pQ m h h' 1) ∨ ((0 ≤ k ∧ k ≤ 3) ∧ ((hI h m 14 = -1 ∧ r' = some (.int (-1)) ∧ pQ m h h' 5) ∨ ∃ r j, r < np ∧ hI h m 14 = nI r ∧ hI h m 16 = nI j ∧ ∃ h1 N R T, rsT m h nf r h1 N R T ∧ ∃ q : Nat × Nat, R[j]? = some q ∧ r' = some (.int (if k = 0 then nI r else if k = 1 then hI h m 15 else if k = 2 then nI j else hI h1 (m + 8) q.1)) ∧ pQ m h h' 0))) := by
  have ok0 := ok
  obtain ⟨hm, hnt, hna, hnp, hF, hw⟩ := ok
  refine g_start (by decide) (Nat.le_of_ble_eq_true rfl) [(0, _), (1, _)] rfl (fun z hfl C => ?_)
  refine g_iload_n C (gd DX10_walked_0 0 rfl) 1 rfl rfl ?_
  refine g_iconst (v := 0) C (gd DX10_walked_0 1 rfl) (by decide) ?_
  refine g_iconst (v := 3) C (gd DX10_walked_0 2 rfl) (by decide) ?_
  refine g_cS1 C [_, _, _] mX10_isFrom lm_TestJudgeModel_112 (e_m_isFrom _ _ _) hfl (by decide) (by decide) (by omega) (by omega) rfl rfl (Nat.le_of_ble_eq_true rfl) (gd DX10_walked_0 3 rfl) ?_
  by_cases hk : 0 ≤ k ∧ k ≤ 3
  rotate_left
  · rw [b1_f hk]
    refine g_if_ne C 15 (gd DX10_walked_0 4 rfl) (by decide) (fun c6 => ?_) (fun c6 => ?_)
    · exact absurd rfl c6
    · refine g_aload_n C (gd DX10_walked_0 5 rfl) 0 rfl rfl ?_
      refine g_iconst (v := 1) C (gd DX10_walked_0 6 rfl) (by decide) ?_
      refine g_cV1 (ci := 10) C [_] mX10_refuse lm_TestJudgeModel_331 (by exact hm.1) rfl rfl (e_m_refuse hm _) hfl (by decide) (by decide) (by omega) (by omega) rfl rfl (Nat.le_of_ble_eq_true rfl) (gd DX10_walked_0 7 rfl) ?_
      exact g_iret C (by omega) (by omega) (Or.inl ⟨hk, rfl, (mKp.rf m h).q 1⟩) (gd DX10_walked_0 8 rfl)
  rw [b1_t hk]
  refine g_if_ne C 15 (gd DX10_walked_0 4 rfl) (by decide) (fun c6 => ?_) (fun c6 => ?_)
  rotate_left
  · exact absurd c6 (by decide)
  refine g_aload_n C (gd DX10_walked_0 9 rfl) 0 rfl rfl ?_
  refine g_geti (ci := 10) (k := 14) C rfl (by decide) rfl lf_TestJudgeModel_26 hm.1 (gd DX10_walked_0 10 rfl) ?_
  refine g_iconst (v := -1) C (gd DX10_walked_0 11 rfl) (by decide) ?_
  refine g_icmp_ne C 29 (gd DX10_walked_0 12 rfl) (by decide) (fun c20 => ?_) (fun c20 => ?_)
  rotate_left
  · refine g_aload_n C (gd DX10_walked_0 13 rfl) 0 rfl rfl ?_
    refine g_iconst (v := 5) C (gd DX10_walked_0 14 rfl) (by decide) ?_
    refine g_cV1 (ci := 10) C [_] mX10_refuse lm_TestJudgeModel_331 (by exact hm.1) rfl rfl (e_m_refuse hm _) hfl (by decide) (by decide) (by omega) (by omega) rfl rfl (Nat.le_of_ble_eq_true rfl) (gd DX10_walked_0 15 rfl) ?_
    exact g_iret C (by omega) (by omega) (Or.inr ⟨hk, Or.inl ⟨c20, rfl, (mKp.rf m h).q 5⟩⟩) (gd DX10_walked_0 16 rfl)
  obtain ⟨r, j, hr, e14, e16, m1, h0, N0, R0, l0, rs0, hj⟩ : ∃ r j, r < np ∧ hI h m 14 = nI r ∧ hI h m 16 = nI j ∧ ∃ m1 h1 N R, LDr (P1 m h nf r) m1 h1 N ∧ Rsp m1 h1 R ∧ j < R.length := by
    rcases wk with q | q
    · exact absurd q c20
    · exact q
  refine g_aload_n C (gd DX10_walked_0 17 rfl) 0 rfl rfl ?_
  refine g_aload_n C (gd DX10_walked_0 18 rfl) 0 rfl rfl ?_
  refine g_geti (ci := 10) (k := 14) C rfl (by decide) rfl lf_TestJudgeModel_26 hm.1 (gd DX10_walked_0 19 rfl) ?_
  refine GW.cast rfl (show [Value.int (hI h m 14), .ref m] = [.int (nI r), .ref m] by rw [e14]) rfl ?_
  refine g_callV (ci := 10) C [_] mX10_laysRests lm_TestJudgeModel_463 (by exact hm.1) rfl rfl (r_laysRests ok0 hr) hfl (by decide) (by decide) (by omega) (by omega) rfl rfl (Nat.le_of_ble_eq_true rfl) (gd DX10_walked_0 20 rfl) (fun r h2 hp => ?_)
  obtain ⟨rfl, h1, N, R, T, ht, hu⟩ := hp
  have hm2 : mSh m h2 := hm.fr hu.1.1
  have hRl := ht.2.2.1
  have hN0 := hu.2.1.1
  have eR : R0 = R := Rsp.one l0 ht.1.r rs0 ht.2.1
  subst eR
  obtain ⟨q, hq⟩ : ∃ q, R0[j]? = some q := ⟨_, List.getElem?_eq_getElem hj⟩
  have hq1 := (ht.2.2.2.2 j q hq).1
  have e16' : hI h2 m 16 = nI j := by rw [hu.1.2.1 16 (by omega) (by omega) (by omega)]; exact e16
  have e14' : hI h2 m 14 = nI r := by rw [hu.1.2.1 14 (by omega) (by omega) (by omega)]; exact e14
  have e15' : hI h2 m 15 = hI h m 15 := hu.1.2.1 15 (by omega) (by omega) (by omega)
  show GW z w 2 _ 0 0 _ _ [] _
  generalize hQ : (gQ z w 0 0 _) = Q
  have fin : ∀ v : Int32, v = (if k = 0 then nI r else if k = 1 then hI h m 15 else if k = 2 then nI j else hI h1 (m + 8) q.1) → GW z w 2 Q 0 0 87 [(0, .ref m), (1, .int k)] [.int v, .ref m] h2 := by
    intro v hv
    refine g_cV1 (ci := 10) C [_] mX10_gives lm_TestJudgeModel_349 (by exact hm2.1) rfl rfl (e_m_gives hm2 _) hfl (by decide) (by decide) (by omega) (by omega) rfl rfl (Nat.le_of_ble_eq_true rfl) (gd DX10_walked_0 47 rfl) ?_
    rw [← hQ]
    exact g_iret C (by omega) (by omega) (Or.inr ⟨hk, Or.inr ⟨r, j, hr, e14, e16, h1, N, R0, T, ht, q, hq, by rw [hv], hu.1.q 0⟩⟩) (gd DX10_walked_0 48 rfl)
  refine g_aload_n C (gd DX10_walked_0 21 rfl) 0 rfl rfl ?_
  refine g_iload_n C (gd DX10_walked_0 22 rfl) 1 rfl rfl ?_
  refine g_if_ne C 49 (gd DX10_walked_0 23 rfl) (by decide) (fun c39 => ?_) (fun c39 => ?_)
  · refine g_iload_n C (gd DX10_walked_0 27 rfl) 1 rfl rfl ?_
    refine g_iconst (v := 1) C (gd DX10_walked_0 28 rfl) (by decide) ?_
    refine g_icmp_ne C 61 (gd DX10_walked_0 29 rfl) (by decide) (fun c51 => ?_) (fun c51 => ?_)
    · refine g_iload_n C (gd DX10_walked_0 33 rfl) 1 rfl rfl ?_
      refine g_iconst (v := 2) C (gd DX10_walked_0 34 rfl) (by decide) ?_
      refine g_icmp_ne C 73 (gd DX10_walked_0 35 rfl) (by decide) (fun c63 => ?_) (fun c63 => ?_)
      · refine g_aload_n C (gd DX10_walked_0 39 rfl) 0 rfl rfl ?_
        refine g_getr (ci := 10) (k := 36) C rfl (by decide) rfl lf_TestJudgeModel_44 hm2.1 (hm2.2 36 8 12 16500 rfl).1 (gd DX10_walked_0 40 rfl) ?_
        refine g_aload_n C (gd DX10_walked_0 41 rfl) 0 rfl rfl ?_
        refine g_getr (ci := 10) (k := 52) C rfl (by decide) rfl lf_TestJudgeModel_90 hm2.1 (hm2.2 52 23 12 16500 rfl).1 (gd DX10_walked_0 42 rfl) ?_
        refine g_aload_n C (gd DX10_walked_0 43 rfl) 0 rfl rfl ?_
        refine g_geti (ci := 10) (k := 16) C rfl (by decide) rfl lf_TestJudgeModel_493 hm2.1 (gd DX10_walked_0 44 rfl) ?_
        rw [e16']
        refine g_iaj (j := j) C (hm2.2 52 23 12 16500 rfl).2.1 (hm2.2 52 23 12 16500 rfl).2.2 (by decide) rfl (by omega) (gd DX10_walked_0 45 rfl) ?_
        rw [(hu.2.2.2.1 j q hq).1]
        refine g_iaj (j := q.1) C (hm2.2 36 8 12 16500 rfl).2.1 (hm2.2 36 8 12 16500 rfl).2.2 (by decide) rfl (by omega) (gd DX10_walked_0 46 rfl) ?_
        rw [hu.2.2.2.2.1]
        exact fin _ (by rw [if_neg c39, if_neg c51, if_neg c63])
      · refine g_aload_n C (gd DX10_walked_0 36 rfl) 0 rfl rfl ?_
        refine g_geti (ci := 10) (k := 16) C rfl (by decide) rfl lf_TestJudgeModel_493 hm2.1 (gd DX10_walked_0 37 rfl) ?_
        rw [e16']
        refine g_goto (tgt := 87) C (gd DX10_walked_0 38 rfl) (by decide) ?_
        exact fin _ (by rw [if_neg c39, if_neg c51, if_pos c63])
    · refine g_aload_n C (gd DX10_walked_0 30 rfl) 0 rfl rfl ?_
      refine g_geti (ci := 10) (k := 15) C rfl (by decide) rfl lf_TestJudgeModel_490 hm2.1 (gd DX10_walked_0 31 rfl) ?_
      rw [e15']
      refine g_goto (tgt := 87) C (gd DX10_walked_0 32 rfl) (by decide) ?_
      exact fin _ (by rw [if_neg c39, if_pos c51])
  · refine g_aload_n C (gd DX10_walked_0 24 rfl) 0 rfl rfl ?_
    refine g_geti (ci := 10) (k := 14) C rfl (by decide) rfl lf_TestJudgeModel_26 hm2.1 (gd DX10_walked_0 25 rfl) ?_
    rw [e14']
    refine g_goto (tgt := 87) C (gd DX10_walked_0 26 rfl) (by decide) ?_
    exact fin _ (by rw [if_pos c39])
theorem e_m_clear {nt na np nf : Nat} {fw : Nat → Nat} (ok : mOK m h nt na np nf fw) (p : Int32) :
    Ev w 8 0 0 yX10_clear cX10_clear 7 (some .int) [.ref m, .int p] h (fun r' h' => (¬ (0 ≤ p ∧ p ≤ nI np - 1) ∧ r' = some (.int (-1)) ∧ pQ m h h' 2) ∨ ∃ r, r < np ∧ p = nI r ∧ ∃ h1 N R T, rsT m h nf r h1 N R T ∧ (((∀ (i : Nat) (q : Nat × Nat) (a : Nat), R[i]? = some q → a < 2 ^ nt → clN (hI h1 (m + 8) q.1) T na i a ≤ 1) ∧ r' = some (.int 1)) ∨ ((¬ ∀ (i : Nat) (q : Nat × Nat) (a : Nat), R[i]? = some q → a < 2 ^ nt → clN (hI h1 (m + 8) q.1) T na i a ≤ 1) ∧ r' = some (.int 0))) ∧ pQ m h h' 0) := by
  have ok0 := ok
  obtain ⟨hm, hnt, hna, hnp, hF, hw⟩ := ok
  refine g_start (by decide) (Nat.le_of_ble_eq_true rfl) [(0, _), (1, _)] rfl (fun z hfl C => ?_)
  refine g_aload_n C (gd DX10_clear_0 0 rfl) 0 rfl rfl ?_
  refine g_iload_n C (gd DX10_clear_0 1 rfl) 1 rfl rfl ?_
  refine g_cV1 (ci := 10) C [_] mX10_isProgram lm_TestJudgeModel_116 (by exact hm.1) rfl rfl (e_m_isProgram hm _) hfl (by decide) (by decide) (by omega) (by omega) rfl rfl (Nat.le_of_ble_eq_true rfl) (gd DX10_clear_0 2 rfl) ?_
  rw [hnp.2]
  by_cases hp : 0 ≤ p ∧ p ≤ nI np - 1
  rotate_left
  · rw [b1_f hp]
    refine g_if_ne C 14 (gd DX10_clear_0 3 rfl) (by decide) (fun c5 => ?_) (fun c5 => ?_)
    · exact absurd rfl c5
    · refine g_aload_n C (gd DX10_clear_0 4 rfl) 0 rfl rfl ?_
      refine g_iconst (v := 2) C (gd DX10_clear_0 5 rfl) (by decide) ?_
      refine g_cV1 (ci := 10) C [_] mX10_refuse lm_TestJudgeModel_331 (by exact hm.1) rfl rfl (e_m_refuse hm _) hfl (by decide) (by decide) (by omega) (by omega) rfl rfl (Nat.le_of_ble_eq_true rfl) (gd DX10_clear_0 6 rfl) ?_
      exact g_iret C (by omega) (by omega) (Or.inl ⟨hp, rfl, (mKp.rf m h).q 2⟩) (gd DX10_clear_0 7 rfl)
  rw [b1_t hp]
  refine g_if_ne C 14 (gd DX10_clear_0 3 rfl) (by decide) (fun c5 => ?_) (fun c5 => ?_)
  rotate_left
  · exact absurd c5 (by decide)
  obtain ⟨r, hr, rfl⟩ := below_of (by omega) hp
  refine g_aload_n C (gd DX10_clear_0 8 rfl) 0 rfl rfl ?_
  refine g_iload_n C (gd DX10_clear_0 9 rfl) 1 rfl rfl ?_
  refine g_callV (ci := 10) C [_] mX10_laysRests lm_TestJudgeModel_463 (by exact hm.1) rfl rfl (r_laysRests ok0 hr) hfl (by decide) (by decide) (by omega) (by omega) rfl rfl (Nat.le_of_ble_eq_true rfl) (gd DX10_clear_0 10 rfl) (fun r h2 hp => ?_)
  obtain ⟨rfl, h1, N, R, T, ht, hu⟩ := hp
  have hm2 : mSh m h2 := hm.fr hu.1.1
  have hRl := ht.2.2.1
  have hN0 := hu.2.1.1
  have hte : atF (hI h2 m 2) = nI (2 ^ nt) := by rw [hu.1.2.1 2 (by omega) (by omega) (by omega), hnt.2, atF_n hnt.1]
  have hac : hI h2 m 3 = nI na := by rw [hu.1.2.1 3 (by omega) (by omega) (by omega)]; exact hna.2
  have hp8 : 2 ^ nt ≤ 8 := by have := hnt.1; rcases (show nt = 0 ∨ nt = 1 ∨ nt = 2 ∨ nt = 3 by omega) with e | e | e | e <;> rw [e] <;> decide
  have hna3 := hna.1
  show GW z w 7 _ 0 0 _ _ [] _
  generalize hQ : (gQ z w 0 0 _) = Q
  -- good as far as rest i, atom a
  let G : Nat → Nat → Prop := fun i a => ∀ (i' : Nat) (q : Nat × Nat) (a' : Nat), R[i']? = some q → a' < 2 ^ nt → (i' < i ∨ i' = i ∧ a' < a) → clN (hI h1 (m + 8) q.1) T na i' a' ≤ 1
  have loop : ∀ y i (v : Int32), i + y = R.length → (G i 0 ∧ v = 1 ∨ ¬ G i 0 ∧ v = 0) → GW z w 7 Q 0 0 23 [(0, .ref m), (1, .int (nI r)), (2, .int v), (3, .int (nI i))] [] h2 := by
    intro y
    induction y with
    | zero =>
      intro i v hi hv
      refine g_iload_n C (gd DX10_clear_0 15 rfl) 3 rfl rfl ?_
      refine g_aload_n C (gd DX10_clear_0 16 rfl) 0 rfl rfl ?_
      refine g_geti (ci := 10) (k := 54) C rfl (by decide) rfl lf_TestJudgeModel_457 hm2.1 (gd DX10_clear_0 17 rfl) ?_
      rw [hu.2.2.1]
      refine g_icmp_ge C 141 (gd DX10_clear_0 18 rfl) (by decide) (fun c28 => ?_) (fun c28 => ?_)
      · have hall : G i 0 ↔ ∀ (i : Nat) (q : Nat × Nat) (a : Nat), R[i]? = some q → a < 2 ^ nt → clN (hI h1 (m + 8) q.1) T na i a ≤ 1 := by
          refine ⟨fun g i' q a hq ha => g i' q a hq ha (Or.inl ?_), fun g i' q a hq ha _ => g i' q a hq ha⟩
          have := (List.getElem?_eq_some_iff.mp hq).1
          omega
        rcases hv with ⟨hv, rfl⟩ | ⟨hv, rfl⟩
        · refine g_aload_n C (gd DX10_clear_1 16 rfl) 0 rfl rfl ?_
          refine g_iload_n C (gd DX10_clear_1 17 rfl) 2 rfl rfl ?_
          refine g_if_eq C 150 (gd DX10_clear_1 18 rfl) (by decide) (fun c143 => ?_) (fun c143 => ?_)
          · exact absurd c143 (by decide)
          · refine g_iconst (v := 1) C (gd DX10_clear_1 19 rfl) (by decide) ?_
            refine g_goto (tgt := 151) C (gd DX10_clear_1 20 rfl) (by decide) ?_
            refine g_cV1 (ci := 10) C [_] mX10_gives lm_TestJudgeModel_349 (by exact hm2.1) rfl rfl (e_m_gives hm2 _) hfl (by decide) (by decide) (by omega) (by omega) rfl rfl (Nat.le_of_ble_eq_true rfl) (gd DX10_clear_1 22 rfl) ?_
            rw [← hQ]
            exact g_iret C (by omega) (by omega) (Or.inr ⟨r, hr, rfl, h1, N, R, T, ht, Or.inl ⟨hall.mp hv, rfl⟩, hu.1.q 0⟩) (gd DX10_clear_1 23 rfl)
        · refine g_aload_n C (gd DX10_clear_1 16 rfl) 0 rfl rfl ?_
          refine g_iload_n C (gd DX10_clear_1 17 rfl) 2 rfl rfl ?_
          refine g_if_eq C 150 (gd DX10_clear_1 18 rfl) (by decide) (fun c143 => ?_) (fun c143 => ?_)
          · refine g_iconst (v := 0) C (gd DX10_clear_1 21 rfl) (by decide) ?_
            refine g_cV1 (ci := 10) C [_] mX10_gives lm_TestJudgeModel_349 (by exact hm2.1) rfl rfl (e_m_gives hm2 _) hfl (by decide) (by decide) (by omega) (by omega) rfl rfl (Nat.le_of_ble_eq_true rfl) (gd DX10_clear_1 22 rfl) ?_
            rw [← hQ]
            exact g_iret C (by omega) (by omega) (Or.inr ⟨r, hr, rfl, h1, N, R, T, ht, Or.inr ⟨fun x => hv (hall.mpr x), rfl⟩, hu.1.q 0⟩) (gd DX10_clear_1 23 rfl)
          · exact absurd rfl c143
      · exact absurd (nI_le (a := R.length) (b := i) (by omega) (by omega)) c28
    | succ y ih =>
      intro i v hi hv
      have hiR : i < R.length := by omega
      obtain ⟨q, hq⟩ : ∃ q, R[i]? = some q := ⟨_, List.getElem?_eq_getElem hiR⟩
      have hq1 := (ht.2.2.2.2 i q hq).1
      have atoms : ∀ y a (v : Int32), a + y = 2 ^ nt → (G i a ∧ v = 1 ∨ ¬ G i a ∧ v = 0) → GW z w 7 Q 0 0 34 [(0, .ref m), (1, .int (nI r)), (2, .int v), (3, .int (nI i)), (4, .int (nI a))] [] h2 := by
        intro y
        induction y with
        | zero =>
          intro a v ha hv
          refine g_iload C (gd DX10_clear_0 21 rfl) 4 rfl ?_
          refine g_aload_n C (gd DX10_clear_0 22 rfl) 0 rfl rfl ?_
          refine g_cV1 (ci := 10) C [] mX10_atoms lm_TestJudgeModel_352 (by exact hm2.1) rfl rfl (e_m_atoms hm2) hfl (by decide) (by decide) (by omega) (by omega) rfl rfl (Nat.le_of_ble_eq_true rfl) (gd DX10_clear_0 23 rfl) ?_
          rw [hte]
          refine g_icmp_ge C 135 (gd DX10_clear_0 24 rfl) (by decide) (fun c40 => ?_) (fun c40 => ?_)
          · refine g_iinc (lv' := [(0, _), (1, _), (2, _), (3, _), (4, _)]) C (gd DX10_clear_1 14 rfl) 3 [1, 2, 3, 0, 4] rfl rfl (by decide) rfl ?_
            refine g_goto (tgt := 23) C (gd DX10_clear_1 15 rfl) (by decide) ?_
            refine GW.sub [0, 1, 2, 3] rfl (Nat.le_refl _) (Nat.le_refl _) (lv' := [(0, _), (1, _), (2, _), (3, _)]) ?_
            refine GW.cast (by rw [inc1]) rfl rfl (ih (i + 1) v (by omega) ?_)
            have e : G i a ↔ G (i + 1) 0 := by
              refine ⟨fun g i' q a' hq ha' hc => g i' q a' hq ha' ?_, fun g i' q a' hq ha' hc => g i' q a' hq ha' ?_⟩ <;> omega
            rcases hv with ⟨x, y⟩ | ⟨x, y⟩
            · exact Or.inl ⟨e.mp x, y⟩
            · exact Or.inr ⟨fun z => x (e.mpr z), y⟩
          · exact absurd (nI_le (a := 2 ^ nt) (b := a) (by omega) (by omega)) c40
        | succ y iha =>
          intro a v ha hv
          have eG : G i (a + 1) ↔ G i a ∧ clN (hI h1 (m + 8) q.1) T na i a ≤ 1 := by
            refine ⟨fun g => ⟨fun i' q a' hq ha' hc => g i' q a' hq ha' (by omega), g i q a hq (by omega) (Or.inr ⟨rfl, by omega⟩)⟩, fun g i' q' a' hq' ha' hc => ?_⟩
            by_cases e : i' = i ∧ a' = a
            · obtain ⟨e1, e2⟩ := e
              subst e1; subst e2
              rw [Option.some.inj (hq'.symm.trans hq)]
              exact g.2
            · exact g.1 i' q' a' hq' ha' (by omega)
          have acts : ∀ y c e0, c + y = na → e0 + clC T i a na = clN (hI h1 (m + 8) q.1) T na i a → GW z w 7 Q 0 0 72 [(0, .ref m), (1, .int (nI r)), (2, .int v), (3, .int (nI i)), (4, .int (nI a)), (5, .int (nI (e0 + clC T i a c))), (6, .int (nI c))] [] h2 := by
            intro y
            induction y with
            | zero =>
              intro c e0 hc he0
              have hlt : e0 + clC T i a na < 100 := by
                have := clC_le T i a na
                rw [he0]; unfold clN; split <;> omega
              have nx : ∀ (n : Nat) (v' : Int32), (G i (a + 1) ∧ v' = 1 ∨ ¬ G i (a + 1) ∧ v' = 0) → GW z w 7 Q 0 0 128 [(0, .ref m), (1, .int (nI r)), (2, .int v), (3, .int (nI i)), (4, .int (nI a)), (5, .int (nI n)), (6, .int (nI c))] [.int v'] h2 := by
                intro n v' hv'
                refine g_istore_n (lv' := [(0, _), (1, _), (2, _), (3, _), (4, _), (5, _), (6, _)]) C (gd DX10_clear_1 11 rfl) [1, 2, 0, 3, 4, 5, 6] rfl (by decide) rfl ?_
                refine g_iinc (lv' := [(0, _), (1, _), (2, _), (3, _), (4, _), (5, _), (6, _)]) C (gd DX10_clear_1 12 rfl) 4 [1, 2, 3, 4, 0, 5, 6] rfl rfl (by decide) rfl ?_
                refine g_goto (tgt := 34) C (gd DX10_clear_1 13 rfl) (by decide) ?_
                refine GW.sub [0, 1, 2, 3, 4] rfl (Nat.le_refl _) (Nat.le_refl _) (lv' := [(0, _), (1, _), (2, _), (3, _), (4, _)]) ?_
                exact GW.cast (by rw [inc1]) rfl rfl (iha (a + 1) v' (by omega) hv')
              refine g_iload C (gd DX10_clear_0 41 rfl) 6 rfl ?_
              refine g_aload_n C (gd DX10_clear_0 42 rfl) 0 rfl rfl ?_
              refine g_geti (ci := 10) (k := 3) C rfl (by decide) rfl lf_TestJudgeModel_340 hm2.1 (gd DX10_clear_0 43 rfl) ?_
              rw [hac]
              refine g_icmp_ge C 113 (gd DX10_clear_0 44 rfl) (by decide) (fun c78 => ?_) (fun c78 => ?_)
              · rw [show c = na by omega] at *
                rcases hv with ⟨hv, rfl⟩ | ⟨hv, rfl⟩
                · refine g_iload_n C (gd DX10_clear_1 3 rfl) 2 rfl rfl ?_
                  refine g_if_eq C 127 (gd DX10_clear_1 4 rfl) (by decide) (fun c114 => ?_) (fun c114 => ?_)
                  · exact absurd c114 (by decide)
                  · refine g_iload C (gd DX10_clear_1 5 rfl) 5 rfl ?_
                    refine g_iconst (v := 1) C (gd DX10_clear_1 6 rfl) (by decide) ?_
                    refine g_icmp_gt C 127 (gd DX10_clear_1 7 rfl) (by decide) (fun c120 => ?_) (fun c120 => ?_)
                    · refine g_iconst (v := 0) C (gd DX10_clear_1 10 rfl) (by decide) ?_
                      refine nx _ 0 (Or.inr ⟨fun g => ?_, rfl⟩)
                      have := (eG.mp g).2
                      rw [← he0] at this
                      exact absurd c120 (Int32.not_lt.mpr ((nI_leI (b := 1) (by omega) (by decide)).mpr this))
                    · refine g_iconst (v := 1) C (gd DX10_clear_1 8 rfl) (by decide) ?_
                      refine g_goto (tgt := 128) C (gd DX10_clear_1 9 rfl) (by decide) ?_
                      refine nx _ 1 (Or.inl ⟨eG.mpr ⟨hv, ?_⟩, rfl⟩)
                      rw [← he0]
                      exact (nI_leI (b := 1) (by omega) (by decide)).mp (Int32.not_lt.mp c120)
                · refine g_iload_n C (gd DX10_clear_1 3 rfl) 2 rfl rfl ?_
                  refine g_if_eq C 127 (gd DX10_clear_1 4 rfl) (by decide) (fun c114 => ?_) (fun c114 => ?_)
                  · refine g_iconst (v := 0) C (gd DX10_clear_1 10 rfl) (by decide) ?_
                    exact nx _ 0 (Or.inr ⟨fun g => hv (eG.mp g).1, rfl⟩)
                  · exact absurd rfl c114
              · exact absurd (nI_le (a := na) (b := c) (by omega) (by omega)) c78
            | succ y ihc =>
              intro c e0 hc he0
              have nx : ∀ d, clC T i a c + d = clC T i a (c + 1) → GW z w 7 Q 0 0 104 [(0, .ref m), (1, .int (nI r)), (2, .int v), (3, .int (nI i)), (4, .int (nI a)), (5, .int (nI (e0 + clC T i a c))), (6, .int (nI c))] [.int (nI d), .int (nI (e0 + clC T i a c))] h2 := by
                intro d hd
                refine g_iadd C (gd DX10_clear_0 59 rfl) ?_
                refine g_istore (lv' := [(0, _), (1, _), (2, _), (3, _), (4, _), (5, _), (6, _)]) C (gd DX10_clear_1 0 rfl) [1, 2, 3, 4, 5, 0, 6] (by decide) rfl ?_
                refine g_iinc (lv' := [(0, _), (1, _), (2, _), (3, _), (4, _), (5, _), (6, _)]) C (gd DX10_clear_1 1 rfl) 6 [1, 2, 3, 4, 5, 6, 0] rfl rfl (by decide) rfl ?_
                refine g_goto (tgt := 72) C (gd DX10_clear_1 2 rfl) (by decide) ?_
                exact GW.cast (by rw [inc1, nI_add, Nat.add_assoc, hd]) rfl rfl (ihc (c + 1) e0 (by omega) he0)
              refine g_iload C (gd DX10_clear_0 41 rfl) 6 rfl ?_
              refine g_aload_n C (gd DX10_clear_0 42 rfl) 0 rfl rfl ?_
              refine g_geti (ci := 10) (k := 3) C rfl (by decide) rfl lf_TestJudgeModel_340 hm2.1 (gd DX10_clear_0 43 rfl) ?_
              rw [hac]
              refine g_icmp_ge C 113 (gd DX10_clear_0 44 rfl) (by decide) (fun c78 => ?_) (fun c78 => ?_)
              · exact absurd c78 (nI_ge (a := c) (b := na) (by omega) (by omega))
              · refine g_iload C (gd DX10_clear_0 45 rfl) 5 rfl ?_
                refine g_aload_n C (gd DX10_clear_0 46 rfl) 0 rfl rfl ?_
                refine g_iload_n C (gd DX10_clear_0 47 rfl) 3 rfl rfl ?_
                refine g_iconst (v := 3) C (gd DX10_clear_0 48 rfl) (by decide) ?_
                refine g_iload C (gd DX10_clear_0 49 rfl) 4 rfl ?_
                refine g_imul C (gd DX10_clear_0 50 rfl) ?_
                refine g_iload C (gd DX10_clear_0 51 rfl) 6 rfl ?_
                refine g_iadd C (gd DX10_clear_0 52 rfl) ?_
                refine g_cV1 (ci := 10) C [_, _] mX10_nextRest lm_TestJudgeModel_472 (by exact hm2.1) rfl rfl (r_nextRest hm2 ht hu hiR (by omega : 3 * a + c < 24) (nx_add (nx_mul (a := 3) rfl rfl) rfl)) hfl (by decide) (by decide) (by omega) (by omega) rfl rfl (Nat.le_of_ble_eq_true rfl) (gd DX10_clear_0 53 rfl) ?_
                refine g_iconst (v := -1) C (gd DX10_clear_0 54 rfl) (by decide) ?_
                refine g_icmp_ne C 103 (gd DX10_clear_0 55 rfl) (by decide) (fun c96 => ?_) (fun c96 => ?_)
                · refine g_iconst (v := 1) C (gd DX10_clear_0 58 rfl) (by decide) ?_
                  exact nx 1 (by rw [show clC T i a (c + 1) = clC T i a c + (if T i (3 * a + c) = -1 then 0 else 1) from rfl, if_neg c96])
                · refine g_iconst (v := 0) C (gd DX10_clear_0 56 rfl) (by decide) ?_
                  refine g_goto (tgt := 104) C (gd DX10_clear_0 57 rfl) (by decide) ?_
                  exact nx 0 (by rw [show clC T i a (c + 1) = clC T i a c + (if T i (3 * a + c) = -1 then 0 else 1) from rfl, if_pos c96])
          refine g_iload C (gd DX10_clear_0 21 rfl) 4 rfl ?_
          refine g_aload_n C (gd DX10_clear_0 22 rfl) 0 rfl rfl ?_
          refine g_cV1 (ci := 10) C [] mX10_atoms lm_TestJudgeModel_352 (by exact hm2.1) rfl rfl (e_m_atoms hm2) hfl (by decide) (by decide) (by omega) (by omega) rfl rfl (Nat.le_of_ble_eq_true rfl) (gd DX10_clear_0 23 rfl) ?_
          rw [hte]
          refine g_icmp_ge C 135 (gd DX10_clear_0 24 rfl) (by decide) (fun c40 => ?_) (fun c40 => ?_)
          · exact absurd c40 (nI_ge (a := a) (b := 2 ^ nt) (by omega) (by omega))
          · refine g_aload_n C (gd DX10_clear_0 25 rfl) 0 rfl rfl ?_
            refine g_getr (ci := 10) (k := 36) C rfl (by decide) rfl lf_TestJudgeModel_44 hm2.1 (hm2.2 36 8 12 16500 rfl).1 (gd DX10_clear_0 26 rfl) ?_
            refine g_aload_n C (gd DX10_clear_0 27 rfl) 0 rfl rfl ?_
            refine g_getr (ci := 10) (k := 52) C rfl (by decide) rfl lf_TestJudgeModel_90 hm2.1 (hm2.2 52 23 12 16500 rfl).1 (gd DX10_clear_0 28 rfl) ?_
            refine g_iload_n C (gd DX10_clear_0 29 rfl) 3 rfl rfl ?_
            refine g_iaj (j := i) C (hm2.2 52 23 12 16500 rfl).2.1 (hm2.2 52 23 12 16500 rfl).2.2 (by decide) rfl (by omega) (gd DX10_clear_0 30 rfl) ?_
            rw [(hu.2.2.2.1 i q hq).1]
            refine g_iaj (j := q.1) C (hm2.2 36 8 12 16500 rfl).2.1 (hm2.2 36 8 12 16500 rfl).2.2 (by decide) rfl (by omega) (gd DX10_clear_0 31 rfl) ?_
            refine g_iload C (gd DX10_clear_0 32 rfl) 4 rfl ?_
            rw [hu.2.2.2.2.1]
            refine g_cS1 C [_, _] mX10_has lm_TestJudgeModel_144 (e_m_has _ _) hfl (by decide) (by decide) (by omega) (by omega) rfl rfl (Nat.le_of_ble_eq_true rfl) (gd DX10_clear_0 33 rfl) ?_
            by_cases hb : hI h1 (m + 8) q.1 >>> (nI a &&& 31) &&& 1 = 1
            · rw [b1_t hb]
              refine g_if_eq C 66 (gd DX10_clear_0 34 rfl) (by decide) (fun c59 => ?_) (fun c59 => ?_)
              · exact absurd c59 (by decide)
              · refine g_iconst (v := 1) C (gd DX10_clear_0 35 rfl) (by decide) ?_
                refine g_goto (tgt := 67) C (gd DX10_clear_0 36 rfl) (by decide) ?_
                refine g_istore (lv' := [(0, _), (1, _), (2, _), (3, _), (4, _), (5, _)]) C (gd DX10_clear_0 38 rfl) [1, 2, 3, 4, 5, 0] (by decide) rfl ?_
                refine g_iconst (v := 0) C (gd DX10_clear_0 39 rfl) (by decide) ?_
                refine g_istore (lv' := [(0, _), (1, _), (2, _), (3, _), (4, _), (5, _), (6, _)]) C (gd DX10_clear_0 40 rfl) [1, 2, 3, 4, 5, 6, 0] (by decide) rfl ?_
                exact acts na 0 1 (by omega) (by unfold clN; rw [if_pos hb])
            · rw [b1_f hb]
              refine g_if_eq C 66 (gd DX10_clear_0 34 rfl) (by decide) (fun c59 => ?_) (fun c59 => ?_)
              · refine g_iconst (v := 0) C (gd DX10_clear_0 37 rfl) (by decide) ?_
                refine g_istore (lv' := [(0, _), (1, _), (2, _), (3, _), (4, _), (5, _)]) C (gd DX10_clear_0 38 rfl) [1, 2, 3, 4, 5, 0] (by decide) rfl ?_
                refine g_iconst (v := 0) C (gd DX10_clear_0 39 rfl) (by decide) ?_
                refine g_istore (lv' := [(0, _), (1, _), (2, _), (3, _), (4, _), (5, _), (6, _)]) C (gd DX10_clear_0 40 rfl) [1, 2, 3, 4, 5, 6, 0] (by decide) rfl ?_
                exact acts na 0 0 (by omega) (by unfold clN; rw [if_neg hb])
              · exact absurd rfl c59
      refine g_iload_n C (gd DX10_clear_0 15 rfl) 3 rfl rfl ?_
      refine g_aload_n C (gd DX10_clear_0 16 rfl) 0 rfl rfl ?_
      refine g_geti (ci := 10) (k := 54) C rfl (by decide) rfl lf_TestJudgeModel_457 hm2.1 (gd DX10_clear_0 17 rfl) ?_
      rw [hu.2.2.1]
      refine g_icmp_ge C 141 (gd DX10_clear_0 18 rfl) (by decide) (fun c28 => ?_) (fun c28 => ?_)
      · exact absurd c28 (nI_ge (a := i) (b := R.length) (by omega) (by omega))
      · refine g_iconst (v := 0) C (gd DX10_clear_0 19 rfl) (by decide) ?_
        refine g_istore (lv' := [(0, _), (1, _), (2, _), (3, _), (4, _)]) C (gd DX10_clear_0 20 rfl) [1, 2, 3, 4, 0] (by decide) rfl ?_
        exact atoms (2 ^ nt) 0 v (by omega) hv
  refine g_iconst (v := 1) C (gd DX10_clear_0 11 rfl) (by decide) ?_
  refine g_istore_n (lv' := [(0, _), (1, _), (2, _)]) C (gd DX10_clear_0 12 rfl) [1, 2, 0] rfl (by decide) rfl ?_
  refine g_iconst (v := 0) C (gd DX10_clear_0 13 rfl) (by decide) ?_
  refine g_istore_n (lv' := [(0, _), (1, _), (2, _), (3, _)]) C (gd DX10_clear_0 14 rfl) [1, 2, 3, 0] rfl (by decide) rfl ?_
  exact loop R.length 0 1 (by omega) (Or.inl ⟨fun i' q a' _ _ hc => by omega, rfl⟩)
end M41
