/-! load in the reference -/
/-- there is a last token, the end -/
theorem tok_c (tx : Nat → Nat) (n : Nat) : ∃ c, 0 < c ∧ c ≤ n + 1 ∧ cdT tx n (c - 1) = 0 ∧ ∀ j, j + 1 < c → cdT tx n j ≠ 0 := by
  have ex : ∃ k, k ≤ n ∧ cdT tx n k = 0 := by
    apply Classical.byContradiction
    intro q
    have hz : ∀ i, i < n + 1 → cdT tx n i ≠ 0 := fun i hi e => q ⟨i, by omega, e⟩
    have h1 := ps_ge (tx := tx) (n := n) (n + 1) hz
    have h2 := (psT_pl (tx := tx) (n := n) (n + 1)).1
    omega
  obtain ⟨k, ⟨k1, k2⟩, k3⟩ := pk_least (fun k => k ≤ n ∧ cdT tx n k = 0) ex
  refine ⟨k + 1, by omega, by omega, by rw [Nat.add_sub_cancel]; exact k2, fun j hj e => k3 j (by omega) ⟨by omega, e⟩⟩
/-- what load leaves alone -/
def ldF (m : Nat) (h h' : HS) : Prop := h'.2.2 = h.2.2 ∧ (∀ b, b ≠ m → b ≠ m + 1 → hI h' b = hI h b) ∧ (∀ k, k = 0 ∨ k = 8 ∨ k = 9 ∨ k = 15 ∨ k = 16 ∨ 33 ≤ k → hI h' m k = hI h m k) ∧ ∀ b, b ≠ m → b ≠ m + 4 → hL h' b = hL h b
/-- what load gives -/
def ldP (m : Nat) (h : HS) (tx : Nat → Nat) (n : Nat) (r : pLz) (r' : Option Value) (h' : HS) : Prop := (ldF m h h' ∧ hI h' m 10 = 0 ∧ hI h' m 1 = 0) ∧ match r with
  | .inl x => r' = some (.int (-1)) ∧ hI h' m 11 = 9 ∧ hI h' m 12 = nI x.1 ∧ hI h' m 13 = nI (plT tx n x.2) ∧ (∀ k, 2 ≤ k → k ≤ 7 ∨ k = 14 → hI h' m k = hI h m k) ∧ ∀ j, j < 3377 → hI h' (m + 1) j = hI h (m + 1) j
  | .inr x => r' = some (.int (nI x.2.1.2.2.1)) ∧ hI h' m 11 = 0 ∧ hI h' m 12 = 0 ∧ hI h' m 13 = -1 ∧ (hI h' m 2 = nI x.2.1.1 ∧ hI h' m 3 = nI x.2.1.2.1 ∧ hI h' m 4 = nI x.2.1.2.2.1 ∧ hI h' m 5 = nI x.2.1.2.2.2 ∧ hI h' m 6 = 1 <<< (nI x.2.1.2.2.2 &&& 31) - 1 ∧ hI h' m 7 = 0 ∧ hI h' m 14 = -1) ∧ (∀ k, k < x.2.1.2.2.1 → Ag (gRec (hI h' (m + 1)) k) (x.2.2.2.1 k).2) ∧ ∀ k, k < x.2.1.2.2.2 → Ag (gRec (hI h' (m + 1)) (8 + k)) (x.2.2.2.2 k).2
section M60
variable {w : gD} {m : Nat} {h : HS} {tx : Nat → Nat}
theorem e_m_load (si : gSI w) (hm : mSh m h) {tp : Nat} (htp : tp ≤ 500) (h10 : hI h m 10 = nI tp) (htx : ∀ k, k < tp → hI h (m + 3) k = nI (tx k) ∧ tx k < 256) (v : Int32) : Ev w 36 0 0 yX10_load cX10_load 4 (some .int) [.ref m, .int v] h (fun r' h' => (¬ (0 ≤ v ∧ v ≤ nI tp) ∧ r' = some (.int (-1)) ∧ h' = sI (sI h m 1 0) m 11 1) ∨ ∃ n, n ≤ tp ∧ v = nI n ∧ ∃ r, pTx tx n 502 0 pSz = some r ∧ ldP m h tx n r r' h') := by
  refine g_start (by decide) (Nat.le_of_ble_eq_true rfl) [(0, _), (1, _)] rfl (fun z hfl C => ?_)
  refine g_iload_n C (gd DX10_load_0 0 rfl) 1 rfl rfl ?_
  refine g_iconst (v := 0) C (gd DX10_load_0 1 rfl) (by decide) ?_
  refine g_aload_n C (gd DX10_load_0 2 rfl) 0 rfl rfl ?_
  refine g_geti (ci := 10) (k := 10) C rfl (by decide) rfl lf_TestJudgeModel_148 hm.1 (gd DX10_load_0 3 rfl) ?_
  rw [h10]
  refine g_cS1 C [_, _, _] mX10_isFrom lm_TestJudgeModel_112 (e_m_isFrom _ _ _) hfl (by first | decide | omega) (by decide) (by omega) (by omega) rfl rfl (Nat.le_of_ble_eq_true rfl) (gd DX10_load_0 4 rfl) ?_
  by_cases hv : 0 ≤ v ∧ v ≤ nI tp
  rotate_left
  · rw [b1_f hv]
    refine g_if_ne C 18 (gd DX10_load_0 5 rfl) (by decide) (fun c9 => ?_) (fun c9 => ?_)
    · exact absurd rfl c9
    · refine g_aload_n C (gd DX10_load_0 6 rfl) 0 rfl rfl ?_
      refine g_iconst (v := 1) C (gd DX10_load_0 7 rfl) (by decide) ?_
      refine g_cV1 (ci := 10) C [_] mX10_refuse lm_TestJudgeModel_331 (by exact hm.1) rfl rfl (e_m_refuse hm _) hfl (by first | decide | omega) (by decide) (by omega) (by omega) rfl rfl (Nat.le_of_ble_eq_true rfl) (gd DX10_load_0 8 rfl) ?_
      exact g_iret C (by omega) (by omega) (Or.inl ⟨hv, rfl, rfl⟩) (gd DX10_load_0 9 rfl)
  rw [b1_t hv]
  obtain ⟨n, hn31, rfl⟩ := nI_of (Int32.not_lt.mpr hv.1)
  have hn : n ≤ tp := (nI_leI hn31 (by omega)).mp hv.2
  obtain ⟨c, c1, c2, c3, c4⟩ := tok_c tx n
  have hc : ∀ j, j < c → cdT tx n j ≠ 0 → j + 1 < c := fun j hj e => by
    by_cases q : j + 1 < c
    · exact q
    · exact absurd (by rw [show c - 1 = j by omega] at c3; exact c3) e
  obtain ⟨r, hr, -⟩ := pTx_k hc (by omega) 502 0 pSz c1 (by omega) pSz_k
  refine g_if_ne C 18 (gd DX10_load_0 5 rfl) (by decide) (fun c9 => ?_) (fun c9 => ?_)
  rotate_left
  · exact absurd c9 (by decide)
  refine g_aload_n C (gd DX10_load_0 10 rfl) 0 rfl rfl ?_
  refine g_iload_n C (gd DX10_load_0 11 rfl) 1 rfl rfl ?_
  refine g_puti (ci := 10) (k := 17) C rfl (by decide) rfl lf_TestJudgeModel_155 hm.1 (Or.inl rfl) rfl (gd DX10_load_0 12 rfl) ?_
  refine g_aload_n C (gd DX10_load_0 13 rfl) 0 rfl rfl ?_
  refine g_iconst (v := 0) C (gd DX10_load_0 14 rfl) (by decide) ?_
  refine g_puti (ci := 10) (k := 10) C rfl (by decide) rfl lf_TestJudgeModel_148 hm.1 (Or.inl rfl) rfl (gd DX10_load_0 15 rfl) ?_
  refine g_aload_n C (gd DX10_load_0 16 rfl) 0 rfl rfl ?_
  refine g_iconst (v := 0) C (gd DX10_load_0 17 rfl) (by decide) ?_
  refine g_puti (ci := 10) (k := 19) C rfl (by decide) rfl lf_TestJudgeModel_158 hm.1 (Or.inl rfl) rfl (gd DX10_load_0 18 rfl) ?_
  refine g_aload_n C (gd DX10_load_0 19 rfl) 0 rfl rfl ?_
  refine g_iconst (v := 0) C (gd DX10_load_0 20 rfl) (by decide) ?_
  refine g_puti (ci := 10) (k := 23) C rfl (by decide) rfl lf_TestJudgeModel_209 hm.1 (Or.inl rfl) rfl (gd DX10_load_0 21 rfl) ?_
  refine g_aload_n C (gd DX10_load_0 22 rfl) 0 rfl rfl ?_
  refine g_iconst (v := -1) C (gd DX10_load_0 23 rfl) (by decide) ?_
  refine g_puti (ci := 10) (k := 24) C rfl (by decide) rfl lf_TestJudgeModel_212 hm.1 (Or.inl rfl) rfl (gd DX10_load_0 24 rfl) ?_
  refine g_aload_n C (gd DX10_load_0 25 rfl) 0 rfl rfl ?_
  refine g_iconst (v := 0) C (gd DX10_load_0 26 rfl) (by decide) ?_
  refine g_puti (ci := 10) (k := 29) C rfl (by decide) rfl lf_TestJudgeModel_222 hm.1 (Or.inl rfl) rfl (gd DX10_load_0 27 rfl) ?_
  refine g_aload_n C (gd DX10_load_0 28 rfl) 0 rfl rfl ?_
  refine g_iconst (v := 0) C (gd DX10_load_0 29 rfl) (by decide) ?_
  refine g_puti (ci := 10) (k := 30) C rfl (by decide) rfl lf_TestJudgeModel_228 hm.1 (Or.inl rfl) rfl (gd DX10_load_0 30 rfl) ?_
  refine g_aload_n C (gd DX10_load_0 31 rfl) 0 rfl rfl ?_
  refine g_iconst (v := 0) C (gd DX10_load_0 32 rfl) (by decide) ?_
  refine g_puti (ci := 10) (k := 31) C rfl (by decide) rfl lf_TestJudgeModel_231 hm.1 (Or.inl rfl) rfl (gd DX10_load_0 33 rfl) ?_
  refine g_aload_n C (gd DX10_load_0 34 rfl) 0 rfl rfl ?_
  refine g_iconst (v := 0) C (gd DX10_load_0 35 rfl) (by decide) ?_
  refine g_puti (ci := 10) (k := 32) C rfl (by decide) rfl lf_TestJudgeModel_319 hm.1 (Or.inl rfl) rfl (gd DX10_load_0 36 rfl) ?_
  refine g_aload_n C (gd DX10_load_0 37 rfl) 0 rfl rfl ?_
  -- the reading begins
  have st : ∀ g, (h : HS) = h → g = sI (sI (sI (sI (sI (sI (sI (sI (sI h m 17 (nI n)) m 10 0) m 19 0) m 23 0) m 24 (-1)) m 29 0) m 30 0) m 31 0) m 32 0 → (mSh m g ∧ mTx m g tx n ∧ hI g m 19 = nI (psT tx n 0)) ∧ (hI g m 10 = 0 ∧ hI g m 23 = 0 ∧ hI g m 24 = -1 ∧ hI g m 29 = 0 ∧ hI g m 30 = 0 ∧ hI g m 31 = 0 ∧ hI g m 32 = 0) ∧ (∀ b, b ≠ m → hI g b = hI h b) ∧ (∀ k, k ≠ 17 → k ≠ 10 → k ≠ 19 → k ≠ 23 → k ≠ 24 → k ≠ 29 → k ≠ 30 → k ≠ 31 → k ≠ 32 → hI g m k = hI h m k) ∧ g.2 = h.2 := by
    intro g _ hg
    have e : ∀ k, hI g m k = if k = 32 then 0 else if k = 31 then 0 else if k = 30 then 0 else if k = 29 then 0 else if k = 24 then -1 else if k = 23 then 0 else if k = 19 then 0 else if k = 10 then 0 else if k = 17 then nI n else hI h m k := fun k => by
      rw [hg]; simp only [hI_sI, true_and]
    have eo : ∀ b, b ≠ m → hI g b = hI h b := fun b hb => by
      rw [hg, hI_sI_ne hb, hI_sI_ne hb, hI_sI_ne hb, hI_sI_ne hb, hI_sI_ne hb, hI_sI_ne hb, hI_sI_ne hb, hI_sI_ne hb, hI_sI_ne hb]
    refine ⟨⟨by rw [hg]; exact hm, ⟨by omega, ?_, fun k hk => ?_⟩, ?_⟩, ⟨?_, ?_, ?_, ?_, ?_, ?_, ?_⟩, eo, fun k h1 h2 h3 h4 h5 h6 h7 h8 h9 => ?_, by rw [hg]; rfl⟩
    · rw [e]; rfl
    · rw [eo _ (by omega)]; exact htx k (by omega)
    · rw [e]; rfl
    · rw [e]; rfl
    · rw [e]; rfl
    · rw [e]; rfl
    · rw [e]; rfl
    · rw [e]; rfl
    · rw [e]; rfl
    · rw [e]; rfl
    · rw [e, if_neg h9, if_neg h8, if_neg h7, if_neg h6, if_neg h5, if_neg h4, if_neg h3, if_neg h2, if_neg h1]
  obtain ⟨⟨s1, s2, s3⟩, ⟨s4, s5, s6, s7, s8, s9, s10⟩, s11, s12, s13⟩ := st _ rfl rfl
  generalize hg : sI (sI (sI (sI (sI (sI (sI (sI (sI h m 17 (nI n)) m 10 0) m 19 0) m 23 0) m 24 (-1)) m 29 0) m 30 0) m 31 0) m 32 0 = g at s1 s2 s3 s4 s5 s6 s7 s8 s9 s10 s11 s12 s13 ⊢
  clear hg st
  refine g_callV (ci := 10) C [] mX10_next lm_TestJudgeModel_197 (by exact s1.1) rfl rfl (e_m_next si s1 s2 s3) hfl (by first | decide | omega) (by decide) (by omega) (by omega) rfl rfl (Nat.le_of_ble_eq_true rfl) (gd DX10_load_0 38 rfl) (fun r g1 hp => ?_)
  obtain ⟨rfl, a1, a2⟩ := hp
  have L0 : mLn m g1 tx n 0 pSz := ⟨(rdF.nx (f := 22) a1).sh s1, a2, ⟨⟨Nat.zero_le _, Nat.zero_le _, Nat.zero_le _⟩, ⟨by rw [a1.2.1 m 29 (by omega)]; exact s7, by rw [a1.2.1 m 30 (by omega)]; exact s8, by rw [a1.2.1 m 31 (by omega)]; exact s9⟩, pSz_k.2.1, ⟨fun k hk => absurd hk (Nat.not_lt_zero _), fun k hk => absurd hk (Nat.not_lt_zero _), fun k hk => absurd hk (Nat.not_lt_zero _)⟩, fun k hk => absurd hk (Nat.not_lt_zero _)⟩, by rw [a1.2.1 m 32 (by omega)]; exact s10, fun k hk => absurd hk (Nat.not_lt_zero _), pSz_k⟩
  -- behind the lines
  have ldf : ∀ g2, rdU m g g2 → ∀ (P : HS → Prop), True := fun _ _ _ => trivial
  sorry
end M60
