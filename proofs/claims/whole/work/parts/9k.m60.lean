/-! load in the reference -/
/-- there is a last token, the end -/
theorem tok_c (tx : Nat → Nat) (n : Nat) : ∃ c, 0 < c ∧ c ≤ n + 1 ∧ cdT tx n (c - 1) = 0 ∧ ∀ j, j + 1 < c → cdT tx n j ≠ 0 := by
  have ex : ∃ k, k ≤ n ∧ cdT tx n k = 0 := by
    apply Classical.byContradiction
    intro q
    have hz : ∀ i, i < n + 1 → cdT tx n i ≠ 0 := fun i hi e => q ⟨i, by omega, e⟩
    have h1 := ps_ge (tx := tx) (n := n) (n + 1) hz
    have h2 := (psT_pl (tx := tx) (n := n) (n + 1)).1
    omega
  obtain ⟨k, ⟨k1, k2⟩, k3⟩ := pk_least (fun k => k ≤ n ∧ cdT tx n k = 0) ex
  refine ⟨k + 1, by omega, by omega, by rw [Nat.add_sub_cancel]; exact k2, fun j hj e => k3 j (by omega) ⟨by omega, e⟩⟩
/-- what load leaves alone -/
def ldF (m : Nat) (h h' : HS) : Prop := h'.2.2 = h.2.2 ∧ (∀ b, b ≠ m → b ≠ m + 1 → hI h' b = hI h b) ∧ (∀ k, k = 0 ∨ k = 8 ∨ k = 9 ∨ k = 15 ∨ k = 16 ∨ 33 ≤ k → hI h' m k = hI h m k) ∧ ∀ b, b ≠ m → b ≠ m + 4 → hL h' b = hL h b
/-- what load gives -/
def ldP (m : Nat) (h : HS) (tx : Nat → Nat) (n : Nat) (r : pLz) (r' : Option Value) (h' : HS) : Prop := (ldF m h h' ∧ hI h' m 10 = 0 ∧ hI h' m 1 = 0) ∧ match r with
  | .inl x => r' = some (.int (-1)) ∧ hI h' m 11 = 9 ∧ hI h' m 12 = nI x.1 ∧ hI h' m 13 = nI (plT tx n x.2) ∧ (∀ k, 2 ≤ k → k ≤ 7 ∨ k = 14 → hI h' m k = hI h m k) ∧ ∀ j, j < 3377 → hI h' (m + 1) j = hI h (m + 1) j
  | .inr x => r' = some (.int (nI x.2.1.2.2.1)) ∧ hI h' m 11 = 0 ∧ hI h' m 12 = 0 ∧ hI h' m 13 = -1 ∧ (hI h' m 2 = nI x.2.1.1 ∧ hI h' m 3 = nI x.2.1.2.1 ∧ hI h' m 4 = nI x.2.1.2.2.1 ∧ hI h' m 5 = nI x.2.1.2.2.2 ∧ hI h' m 6 = 1 <<< (nI x.2.1.2.2.2 &&& 31) - 1 ∧ hI h' m 7 = 0 ∧ hI h' m 14 = -1) ∧ (∀ k, k < x.2.1.2.2.1 → Ag (gRec (hI h' (m + 1)) k) (x.2.2.2.1 k).2) ∧ ∀ k, k < x.2.1.2.2.2 → Ag (gRec (hI h' (m + 1)) (8 + k)) (x.2.2.2.2 k).2
theorem mSh_u {m : Nat} {h h1 : HS} (a : rdU m h h1) (hm : mSh m h) : mSh m h1 := by
  obtain ⟨a1, -, -⟩ := a
  have e1 : hR h1 = hR h := congrArg (fun x => x.1) a1
  have e2 : hK h1 = hK h := congrArg (fun x => x.2.1) a1
  have e3 : hN h1 = hN h := congrArg (fun x => x.2.2.1) a1
  unfold mSh
  rw [e1, e2, e3]
  exact hm
section M60
variable {w : gD} {m : Nat} {h : HS} {tx : Nat → Nat}
theorem e_m_load (si : gSI w) (hm : mSh m h) {tp : Nat} (htp : tp ≤ 500) (h10 : hI h m 10 = nI tp) (htx : ∀ k, k < tp → hI h (m + 3) k = nI (tx k) ∧ tx k < 256) (v : Int32) : Ev w 36 0 0 yX10_load cX10_load 4 (some .int) [.ref m, .int v] h (fun r' h' => (¬ (0 ≤ v ∧ v ≤ nI tp) ∧ r' = some (.int (-1)) ∧ h' = sI (sI h m 1 0) m 11 1) ∨ ∃ n, n ≤ tp ∧ v = nI n ∧ ∃ r, pTx tx n 502 0 pSz = some r ∧ ldP m h tx n r r' h') := by
  refine g_start (by decide) (Nat.le_of_ble_eq_true rfl) [(0, _), (1, _)] rfl (fun z hfl C => ?_)
  refine g_iload_n C (gd DX10_load_0 0 rfl) 1 rfl rfl ?_
  refine g_iconst (v := 0) C (gd DX10_load_0 1 rfl) (by decide) ?_
  refine g_aload_n C (gd DX10_load_0 2 rfl) 0 rfl rfl ?_
  refine g_geti (ci := 10) (k := 10) C rfl (by decide) rfl lf_TestJudgeModel_148 hm.1 (gd DX10_load_0 3 rfl) ?_
  rw [h10]
  refine g_cS1 C [_, _, _] mX10_isFrom lm_TestJudgeModel_112 (e_m_isFrom _ _ _) hfl (by first | decide | omega) (by decide) (by omega) (by omega) rfl rfl (Nat.le_of_ble_eq_true rfl) (gd DX10_load_0 4 rfl) ?_
  by_cases hv : 0 ≤ v ∧ v ≤ nI tp
  rotate_left
  · rw [b1_f hv]
    refine g_if_ne C 18 (gd DX10_load_0 5 rfl) (by decide) (fun c9 => ?_) (fun c9 => ?_)
    · exact absurd rfl c9
    · refine g_aload_n C (gd DX10_load_0 6 rfl) 0 rfl rfl ?_
      refine g_iconst (v := 1) C (gd DX10_load_0 7 rfl) (by decide) ?_
      refine g_cV1 (ci := 10) C [_] mX10_refuse lm_TestJudgeModel_331 (by exact hm.1) rfl rfl (e_m_refuse hm _) hfl (by first | decide | omega) (by decide) (by omega) (by omega) rfl rfl (Nat.le_of_ble_eq_true rfl) (gd DX10_load_0 8 rfl) ?_
      exact g_iret C (by omega) (by omega) (Or.inl ⟨hv, rfl, rfl⟩) (gd DX10_load_0 9 rfl)
  rw [b1_t hv]
  obtain ⟨n, hn31, rfl⟩ := nI_of (Int32.not_lt.mpr hv.1)
  have hn : n ≤ tp := (nI_leI hn31 (by omega)).mp hv.2
  obtain ⟨c, c1, c2, c3, c4⟩ := tok_c tx n
  have hc : ∀ j, j < c → cdT tx n j ≠ 0 → j + 1 < c := fun j hj e => by
    by_cases q : j + 1 < c
    · exact q
    · exact absurd (by rw [show c - 1 = j by omega] at c3; exact c3) e
  obtain ⟨r, hr, -⟩ := pTx_k hc (by omega) 502 0 pSz c1 (by omega) pSz_k
  refine g_if_ne C 18 (gd DX10_load_0 5 rfl) (by decide) (fun c9 => ?_) (fun c9 => ?_)
  rotate_left
  · exact absurd c9 (by decide)
  refine g_aload_n C (gd DX10_load_0 10 rfl) 0 rfl rfl ?_
  refine g_iload_n C (gd DX10_load_0 11 rfl) 1 rfl rfl ?_
  refine g_puti (ci := 10) (k := 17) C rfl (by decide) rfl lf_TestJudgeModel_155 hm.1 (Or.inl rfl) rfl (gd DX10_load_0 12 rfl) ?_
  refine g_aload_n C (gd DX10_load_0 13 rfl) 0 rfl rfl ?_
  refine g_iconst (v := 0) C (gd DX10_load_0 14 rfl) (by decide) ?_
  refine g_puti (ci := 10) (k := 10) C rfl (by decide) rfl lf_TestJudgeModel_148 hm.1 (Or.inl rfl) rfl (gd DX10_load_0 15 rfl) ?_
  refine g_aload_n C (gd DX10_load_0 16 rfl) 0 rfl rfl ?_
  refine g_iconst (v := 0) C (gd DX10_load_0 17 rfl) (by decide) ?_
  refine g_puti (ci := 10) (k := 19) C rfl (by decide) rfl lf_TestJudgeModel_158 hm.1 (Or.inl rfl) rfl (gd DX10_load_0 18 rfl) ?_
  refine g_aload_n C (gd DX10_load_0 19 rfl) 0 rfl rfl ?_
  refine g_iconst (v := 0) C (gd DX10_load_0 20 rfl) (by decide) ?_
  refine g_puti (ci := 10) (k := 23) C rfl (by decide) rfl lf_TestJudgeModel_209 hm.1 (Or.inl rfl) rfl (gd DX10_load_0 21 rfl) ?_
  refine g_aload_n C (gd DX10_load_0 22 rfl) 0 rfl rfl ?_
  refine g_iconst (v := -1) C (gd DX10_load_0 23 rfl) (by decide) ?_
  refine g_puti (ci := 10) (k := 24) C rfl (by decide) rfl lf_TestJudgeModel_212 hm.1 (Or.inl rfl) rfl (gd DX10_load_0 24 rfl) ?_
  refine g_aload_n C (gd DX10_load_0 25 rfl) 0 rfl rfl ?_
  refine g_iconst (v := 0) C (gd DX10_load_0 26 rfl) (by decide) ?_
  refine g_puti (ci := 10) (k := 29) C rfl (by decide) rfl lf_TestJudgeModel_222 hm.1 (Or.inl rfl) rfl (gd DX10_load_0 27 rfl) ?_
  refine g_aload_n C (gd DX10_load_0 28 rfl) 0 rfl rfl ?_
  refine g_iconst (v := 0) C (gd DX10_load_0 29 rfl) (by decide) ?_
  refine g_puti (ci := 10) (k := 30) C rfl (by decide) rfl lf_TestJudgeModel_228 hm.1 (Or.inl rfl) rfl (gd DX10_load_0 30 rfl) ?_
  refine g_aload_n C (gd DX10_load_0 31 rfl) 0 rfl rfl ?_
  refine g_iconst (v := 0) C (gd DX10_load_0 32 rfl) (by decide) ?_
  refine g_puti (ci := 10) (k := 31) C rfl (by decide) rfl lf_TestJudgeModel_231 hm.1 (Or.inl rfl) rfl (gd DX10_load_0 33 rfl) ?_
  refine g_aload_n C (gd DX10_load_0 34 rfl) 0 rfl rfl ?_
  refine g_iconst (v := 0) C (gd DX10_load_0 35 rfl) (by decide) ?_
  refine g_puti (ci := 10) (k := 32) C rfl (by decide) rfl lf_TestJudgeModel_319 hm.1 (Or.inl rfl) rfl (gd DX10_load_0 36 rfl) ?_
  refine g_aload_n C (gd DX10_load_0 37 rfl) 0 rfl rfl ?_
  -- the reading begins
  have st : ∀ g, (h : HS) = h → g = sI (sI (sI (sI (sI (sI (sI (sI (sI h m 17 (nI n)) m 10 0) m 19 0) m 23 0) m 24 (-1)) m 29 0) m 30 0) m 31 0) m 32 0 → (mSh m g ∧ mTx m g tx n ∧ hI g m 19 = nI (psT tx n 0)) ∧ (hI g m 10 = 0 ∧ hI g m 23 = 0 ∧ hI g m 24 = -1 ∧ hI g m 29 = 0 ∧ hI g m 30 = 0 ∧ hI g m 31 = 0 ∧ hI g m 32 = 0) ∧ (∀ b, b ≠ m → hI g b = hI h b) ∧ (∀ k, k ≠ 17 → k ≠ 10 → k ≠ 19 → k ≠ 23 → k ≠ 24 → k ≠ 29 → k ≠ 30 → k ≠ 31 → k ≠ 32 → hI g m k = hI h m k) ∧ g.2 = h.2 := by
    intro g _ hg
    have e : ∀ k, hI g m k = if k = 32 then 0 else if k = 31 then 0 else if k = 30 then 0 else if k = 29 then 0 else if k = 24 then -1 else if k = 23 then 0 else if k = 19 then 0 else if k = 10 then 0 else if k = 17 then nI n else hI h m k := fun k => by
      rw [hg]; simp only [hI_sI, true_and]
    have eo : ∀ b, b ≠ m → hI g b = hI h b := fun b hb => by
      rw [hg, hI_sI_ne hb, hI_sI_ne hb, hI_sI_ne hb, hI_sI_ne hb, hI_sI_ne hb, hI_sI_ne hb, hI_sI_ne hb, hI_sI_ne hb, hI_sI_ne hb]
    refine ⟨⟨by rw [hg]; exact hm, ⟨by omega, ?_, fun k hk => ?_⟩, ?_⟩, ⟨?_, ?_, ?_, ?_, ?_, ?_, ?_⟩, eo, fun k h1 h2 h3 h4 h5 h6 h7 h8 h9 => ?_, by rw [hg]; rfl⟩
    · rw [e]; rfl
    · rw [eo _ (by omega)]; exact htx k (by omega)
    · rw [e]; rfl
    · rw [e]; rfl
    · rw [e]; rfl
    · rw [e]; rfl
    · rw [e]; rfl
    · rw [e]; rfl
    · rw [e]; rfl
    · rw [e]; rfl
    · rw [e, if_neg h9, if_neg h8, if_neg h7, if_neg h6, if_neg h5, if_neg h4, if_neg h3, if_neg h2, if_neg h1]
  obtain ⟨⟨s1, s2, s3⟩, ⟨s4, s5, s6, s7, s8, s9, s10⟩, s11, s12, s13⟩ := st _ rfl rfl
  generalize hg : sI (sI (sI (sI (sI (sI (sI (sI (sI h m 17 (nI n)) m 10 0) m 19 0) m 23 0) m 24 (-1)) m 29 0) m 30 0) m 31 0) m 32 0 = g at s1 s2 s3 s4 s5 s6 s7 s8 s9 s10 s11 s12 s13 ⊢
  clear hg st
  refine g_callV (ci := 10) C [] mX10_next lm_TestJudgeModel_197 (by exact s1.1) rfl rfl (e_m_next si s1 s2 s3) hfl (by first | decide | omega) (by decide) (by omega) (by omega) rfl rfl (Nat.le_of_ble_eq_true rfl) (gd DX10_load_0 38 rfl) (fun r g1 hp => ?_)
  obtain ⟨rfl, a1, a2⟩ := hp
  have L0 : mLn m g1 tx n 0 pSz := ⟨(rdF.nx (f := 22) a1).sh s1, a2, ⟨⟨Nat.zero_le _, Nat.zero_le _, Nat.zero_le _⟩, ⟨by rw [a1.2.1 m 29 (by omega)]; exact s7, by rw [a1.2.1 m 30 (by omega)]; exact s8, by rw [a1.2.1 m 31 (by omega)]; exact s9⟩, pSz_k.2.1, ⟨fun k hk => absurd hk (Nat.not_lt_zero _), fun k hk => absurd hk (Nat.not_lt_zero _), fun k hk => absurd hk (Nat.not_lt_zero _)⟩, fun k hk => absurd hk (Nat.not_lt_zero _)⟩, by rw [a1.2.1 m 32 (by omega)]; exact s10, fun k hk => absurd hk (Nat.not_lt_zero _), pSz_k⟩
  -- behind the lines
  have done : ∀ g2, rdU m g g2 → mSh m g2 → ∀ good : Int32, (match r with | .inl x => good = 0 ∧ hI g2 m 23 = nI x.1 ∧ hI g2 m 24 = nI (plT tx n x.2) | .inr x => good = 1 ∧ hI g2 m 23 = 0 ∧ hI g2 m 24 = -1 ∧ mLn m g2 tx n x.1 x.2) → GW z w 4 (gQ z w 0 0 (fun r' h'' => (¬ (0 ≤ nI n ∧ nI n ≤ nI tp) ∧ r' = some (.int (-1)) ∧ h'' = sI (sI h m 1 0) m 11 1) ∨ ∃ n2, n2 ≤ tp ∧ nI n = nI n2 ∧ ∃ r, pTx tx n2 502 0 pSz = some r ∧ ldP m h tx n2 r r' h'')) 0 0 88 [(0, .ref m), (1, .int (nI n)), (2, .int good)] [] g2 := by
    intro g2 fr hm2 good hr2
    have b1' : g2.2.2 = h.2.2 := by rw [fr.1, s13]
    have b2' : ∀ b, b ≠ m → b ≠ m + 1 → hI g2 b = hI h b := fun b h1 h2 => (funext fun k => fr.2.1 b k (fun q => h1 q.1) (fun q => h2 q.1)).trans (s11 b h1)
    have b3' : ∀ k, k ≠ 17 → k ≠ 10 → ¬ (18 ≤ k ∧ k ≤ 32) → hI g2 m k = hI h m k := fun k h1 h2 h3 => (fr.2.1 m k (fun q => h3 q.2) (fun q => by have := q.1; omega)).trans (s12 k h1 h2 (by omega) (by omega) (by omega) (by omega) (by omega) (by omega) (by omega))
    have b4' : ∀ b, b ≠ m → b ≠ m + 4 → hL g2 b = hL h b := fun b h1 h2 => (funext fun k => fr.2.2 b k (fun q => h1 q.1) h2).trans (show hL g b = hL h b by show g.2.1 b = h.2.1 b; rw [s13])
    have b5' : ∀ j, j < 3377 → hI g2 (m + 1) j = hI h (m + 1) j := fun j hj => (fr.2.1 (m + 1) j (fun q => by have := q.1; omega) (fun q => by have := q.2; omega)).trans (by rw [s11 _ (by omega)])
    have b6' : hI g2 m 10 = 0 := (fr.2.1 m 10 (by omega) (by omega)).trans s4
    refine g_aload_n C (gd DX10_load_0 50 rfl) 0 rfl rfl ?_
    refine g_aload_n C (gd DX10_load_0 51 rfl) 0 rfl rfl ?_
    refine g_geti (ci := 10) (k := 23) C rfl (by decide) rfl lf_TestJudgeModel_209 hm2.1 (gd DX10_load_0 52 rfl) ?_
    refine g_puti (ci := 10) (k := 12) C rfl (by decide) rfl lf_TestJudgeModel_19 hm2.1 (Or.inl rfl) rfl (gd DX10_load_0 53 rfl) ?_
    refine g_aload_n C (gd DX10_load_0 54 rfl) 0 rfl rfl ?_
    refine g_aload_n C (gd DX10_load_0 55 rfl) 0 rfl rfl ?_
    refine g_geti (ci := 10) (k := 24) C rfl (by decide) rfl lf_TestJudgeModel_212 hm2.1 (gd DX10_load_0 56 rfl) ?_
    rw [hI_sI, if_neg (by omega)]
    refine g_puti (ci := 10) (k := 13) C rfl (by decide) rfl lf_TestJudgeModel_23 hm2.1 (Or.inl rfl) rfl (gd DX10_load_0 57 rfl) ?_
    refine g_iload_n C (gd DX10_load_0 58 rfl) 2 rfl rfl ?_
    rcases r with x | ⟨j, S⟩
    · obtain ⟨rfl, q1, q2⟩ := hr2
      rw [q1, q2]
      refine g_if_ne C 115 (gd DX10_load_0 59 rfl) (by decide) (fun c105 => ?_) (fun c105 => ?_)
      · exact absurd rfl c105
      · refine g_aload_n C (gd DX10_load_1 0 rfl) 0 rfl rfl ?_
        refine g_bipush (v := 9) C (gd DX10_load_1 1 rfl) (by decide) ?_
        refine g_cV1 (ci := 10) C [_] mX10_refuse lm_TestJudgeModel_331 (by exact hm2.1) rfl rfl (e_m_refuse (h := sI (sI g2 m 12 (nI x.1)) m 13 (nI (plT tx n x.2))) hm2 _) hfl (by first | decide | omega) (by decide) (by omega) (by omega) rfl rfl (Nat.le_of_ble_eq_true rfl) (gd DX10_load_1 2 rfl) ?_
        have e : ∀ k, hI (sI (sI (sI (sI g2 m 12 (nI x.1)) m 13 (nI (plT tx n x.2))) m 1 0) m 11 9) m k = if k = 11 then 9 else if k = 1 then 0 else if k = 13 then nI (plT tx n x.2) else if k = 12 then nI x.1 else hI g2 m k := fun k => by
          simp only [hI_sI, true_and]
        have eo : ∀ b, b ≠ m → hI (sI (sI (sI (sI g2 m 12 (nI x.1)) m 13 (nI (plT tx n x.2))) m 1 0) m 11 9) b = hI g2 b := fun b hb => by
          rw [hI_sI_ne hb, hI_sI_ne hb, hI_sI_ne hb, hI_sI_ne hb]
        exact g_iret C (by omega) (by omega) (Or.inr ⟨n, hn, rfl, .inl x, hr, ⟨⟨b1', fun b h1 h2 => (eo b h1).trans (b2' b h1 h2), fun k hk => by rw [e, if_neg (by omega), if_neg (by omega), if_neg (by omega), if_neg (by omega)]; exact b3' k (by omega) (by omega) (by omega), b4'⟩, by rw [e]; exact b6', by rw [e]; rfl⟩, rfl, by rw [e]; rfl, by rw [e]; rfl, by rw [e]; rfl, fun k h1 h2 => by rw [e, if_neg (by omega), if_neg (by omega), if_neg (by omega), if_neg (by omega)]; exact b3' k (by omega) (by omega) (by omega), fun j hj => by rw [eo _ (by omega)]; exact b5' j hj⟩) (gd DX10_load_1 3 rfl)
    obtain ⟨rfl, q1, q2, L2⟩ := hr2
    rw [q1, q2]
    obtain ⟨-, -, N2, n32, nF, sk⟩ := L2
    dsimp only at N2 n32 nF sk
    obtain ⟨⟨-, -, -⟩, ⟨r4, r5, r6⟩, -, -, r11⟩ := N2
    have hm3 : mSh m (sI (sI g2 m 12 0) m 13 (-1)) := hm2
    have x3 : ∀ k, hI (sI (sI g2 m 12 0) m 13 (-1)) m k = if k = 13 then -1 else if k = 12 then 0 else hI g2 m k := fun k => by
      simp only [hI_sI, true_and]
    have xo : ∀ b, b ≠ m → hI (sI (sI g2 m 12 0) m 13 (-1)) b = hI g2 b := fun b hb => by
      rw [hI_sI_ne hb, hI_sI_ne hb]
    have x2 : (sI (sI g2 m 12 0) m 13 (-1)).2 = g2.2 := rfl
    generalize sI (sI g2 m 12 0) m 13 (-1) = g3 at hm3 x3 xo x2 ⊢
    have stp : ∀ K, K ≤ 10 → ∀ g4, (g4.2 = g3.2 ∧ (∀ b, b ≠ m + 1 → hI g4 b = hI g3 b) ∧ ∀ q, Ag (gRec (hI g4 (m + 1)) q) (gRec (hI g3 (m + 1)) (if q < K then 11 + q else q))) → ((sF g4 (m + 1) (pRec (hI g4 (m + 1)) K (gRec (hI g4 (m + 1)) (11 + K)))).2 = g3.2 ∧ (∀ b, b ≠ m + 1 → hI (sF g4 (m + 1) (pRec (hI g4 (m + 1)) K (gRec (hI g4 (m + 1)) (11 + K)))) b = hI g3 b) ∧ ∀ q, Ag (gRec (hI (sF g4 (m + 1) (pRec (hI g4 (m + 1)) K (gRec (hI g4 (m + 1)) (11 + K)))) (m + 1)) q) (gRec (hI g3 (m + 1)) (if q < K + 1 then 11 + q else q))) := by
      intro K hK g4 ⟨y1, y2, y3⟩
      refine ⟨y1, fun b hb => (hI_sF_ne hb).trans (y2 b hb), fun q => ?_⟩
      by_cases e : q = K
      · subst e
        have := y3 (11 + q)
        rw [if_neg (by omega)] at this
        rw [if_pos (by omega)]
        exact (hRc_at (m := m)).tr this
      · have := y3 q
        rw [show (if q < K + 1 then 11 + q else q) = (if q < K then 11 + q else q) from by
          by_cases e2 : q < K
          · rw [if_pos e2, if_pos (by omega)]
          · rw [if_neg e2, if_neg (by omega)]]
        exact (hRc_o (m := m) e).tr this
    have last : ∀ g5, (g5.2 = g3.2 ∧ (∀ b, b ≠ m + 1 → hI g5 b = hI g3 b) ∧ ∀ q, Ag (gRec (hI g5 (m + 1)) q) (gRec (hI g3 (m + 1)) (if q < 10 then 11 + q else q))) → mSh m g5 → ∀ x, GW z w 4 (gQ z w 0 0 (fun r' h'' => (¬ (0 ≤ nI n ∧ nI n ≤ nI tp) ∧ r' = some (.int (-1)) ∧ h'' = sI (sI h m 1 0) m 11 1) ∨ ∃ n2, n2 ≤ tp ∧ nI n = nI n2 ∧ ∃ r, pTx tx n2 502 0 pSz = some r ∧ ldP m h tx n2 r r' h'')) 0 0 165 [(0, .ref m), (1, .int (nI n)), (2, .int 1), (3, .int x)] [] g5 := by
      intro g5 ⟨y1, y2, y3⟩ hm5 x
      have f5 : ∀ k, hI g5 m k = if k = 13 then -1 else if k = 12 then 0 else hI g2 m k := fun k => by rw [y2 m (by omega)]; exact x3 k
      refine g_aload_n C (gd DX10_load_1 34 rfl) 0 rfl rfl ?_
      refine g_aload_n C (gd DX10_load_1 35 rfl) 0 rfl rfl ?_
      refine g_geti (ci := 10) (k := 29) C rfl (by decide) rfl lf_TestJudgeModel_222 hm5.1 (gd DX10_load_1 36 rfl) ?_
      rw [f5 29, if_neg (by omega), if_neg (by omega), r4]
      refine g_puti (ci := 10) (k := 2) C rfl (by decide) rfl lf_TestJudgeModel_337 hm5.1 (Or.inl rfl) rfl (gd DX10_load_1 37 rfl) ?_
      refine g_aload_n C (gd DX10_load_1 38 rfl) 0 rfl rfl ?_
      refine g_aload_n C (gd DX10_load_1 39 rfl) 0 rfl rfl ?_
      refine g_geti (ci := 10) (k := 30) C rfl (by decide) rfl lf_TestJudgeModel_228 hm5.1 (gd DX10_load_1 40 rfl) ?_
      rw [hI_sI, if_neg (by omega), f5 30, if_neg (by omega), if_neg (by omega), r5]
      refine g_puti (ci := 10) (k := 3) C rfl (by decide) rfl lf_TestJudgeModel_340 hm5.1 (Or.inl rfl) rfl (gd DX10_load_1 41 rfl) ?_
      refine g_aload_n C (gd DX10_load_1 42 rfl) 0 rfl rfl ?_
      refine g_aload_n C (gd DX10_load_1 43 rfl) 0 rfl rfl ?_
      refine g_geti (ci := 10) (k := 31) C rfl (by decide) rfl lf_TestJudgeModel_231 hm5.1 (gd DX10_load_1 44 rfl) ?_
      rw [hI_sI, if_neg (by omega), hI_sI, if_neg (by omega), f5 31, if_neg (by omega), if_neg (by omega), r6]
      refine g_puti (ci := 10) (k := 4) C rfl (by decide) rfl lf_TestJudgeModel_109 hm5.1 (Or.inl rfl) rfl (gd DX10_load_1 45 rfl) ?_
      refine g_aload_n C (gd DX10_load_1 46 rfl) 0 rfl rfl ?_
      refine g_aload_n C (gd DX10_load_1 47 rfl) 0 rfl rfl ?_
      refine g_geti (ci := 10) (k := 32) C rfl (by decide) rfl lf_TestJudgeModel_319 hm5.1 (gd DX10_load_1 48 rfl) ?_
      rw [hI_sI, if_neg (by omega), hI_sI, if_neg (by omega), hI_sI, if_neg (by omega), f5 32, if_neg (by omega), if_neg (by omega), n32]
      refine g_puti (ci := 10) (k := 5) C rfl (by decide) rfl lf_TestJudgeModel_120 hm5.1 (Or.inl rfl) rfl (gd DX10_load_1 49 rfl) ?_
      refine g_aload_n C (gd DX10_load_1 50 rfl) 0 rfl rfl ?_
      refine g_iconst (v := 1) C (gd DX10_load_1 51 rfl) (by decide) ?_
      refine g_aload_n C (gd DX10_load_1 52 rfl) 0 rfl rfl ?_
      refine g_geti (ci := 10) (k := 5) C rfl (by decide) rfl lf_TestJudgeModel_120 hm5.1 (gd DX10_load_1 53 rfl) ?_
      rw [hI_sI, if_pos ⟨rfl, rfl⟩]
      refine g_ishl C (gd DX10_load_1 54 rfl) ?_
      refine g_iconst (v := 1) C (gd DX10_load_1 55 rfl) (by decide) ?_
      refine g_isub C (gd DX10_load_1 56 rfl) ?_
      refine g_puti (ci := 10) (k := 6) C rfl (by decide) rfl lf_TestJudgeModel_343 hm5.1 (Or.inl rfl) rfl (gd DX10_load_1 57 rfl) ?_
      refine g_aload_n C (gd DX10_load_1 58 rfl) 0 rfl rfl ?_
      refine g_iconst (v := 0) C (gd DX10_load_1 59 rfl) (by decide) ?_
      refine g_puti (ci := 10) (k := 7) C rfl (by decide) rfl lf_TestJudgeModel_346 hm5.1 (Or.inl rfl) rfl (gd DX10_load_2 0 rfl) ?_
      refine g_aload_n C (gd DX10_load_2 1 rfl) 0 rfl rfl ?_
      refine g_iconst (v := -1) C (gd DX10_load_2 2 rfl) (by decide) ?_
      refine g_puti (ci := 10) (k := 14) C rfl (by decide) rfl lf_TestJudgeModel_26 hm5.1 (Or.inl rfl) rfl (gd DX10_load_2 3 rfl) ?_
      refine g_aload_n C (gd DX10_load_2 4 rfl) 0 rfl rfl ?_
      refine g_aload_n C (gd DX10_load_2 5 rfl) 0 rfl rfl ?_
      refine g_geti (ci := 10) (k := 4) C rfl (by decide) rfl lf_TestJudgeModel_109 hm5.1 (gd DX10_load_2 6 rfl) ?_
      have z6 : ∀ G : HS, G = sI (sI (sI (sI (sI (sI (sI g5 m 2 (nI S.1.1)) m 3 (nI S.1.2.1)) m 4 (nI S.1.2.2.1)) m 5 (nI S.1.2.2.2)) m 6 ((1 : Int32) <<< (nI S.1.2.2.2 &&& 31) - 1)) m 7 0) m 14 (-1) → (∀ k, hI G m k = if k = 14 then (-1 : Int32) else if k = 7 then (0 : Int32) else if k = 6 then (1 : Int32) <<< (nI S.1.2.2.2 &&& 31) - 1 else if k = 5 then nI S.1.2.2.2 else if k = 4 then nI S.1.2.2.1 else if k = 3 then nI S.1.2.1 else if k = 2 then nI S.1.1 else hI g5 m k) ∧ (∀ b, b ≠ m → hI G b = hI g5 b) ∧ G.2 = g5.2 := by
        intro G hG
        refine ⟨fun k => by rw [hG]; simp only [hI_sI, true_and], fun b hb => ?_, by rw [hG]; rfl⟩
        rw [hG, hI_sI_ne hb, hI_sI_ne hb, hI_sI_ne hb, hI_sI_ne hb, hI_sI_ne hb, hI_sI_ne hb, hI_sI_ne hb]
      obtain ⟨z1, z2, z3⟩ := z6 _ rfl
      generalize hG : sI (sI (sI (sI (sI (sI (sI g5 m 2 (nI S.1.1)) m 3 (nI S.1.2.1)) m 4 (nI S.1.2.2.1)) m 5 (nI S.1.2.2.2)) m 6 ((1 : Int32) <<< (nI S.1.2.2.2 &&& 31) - 1)) m 7 0) m 14 (-1) = G at z1 z2 z3 ⊢
      clear z6
      have hmG : mSh m G := by rw [← hG]; exact hm5
      clear hG
      rw [z1 4]
      rw [if_neg (by omega), if_neg (by omega), if_neg (by omega), if_neg (by omega), if_pos rfl]
      refine g_cV1 (ci := 10) C [_] mX10_gives lm_TestJudgeModel_349 (by exact hmG.1) rfl rfl (e_m_gives hmG _) hfl (by first | decide | omega) (by decide) (by omega) (by omega) rfl rfl (Nat.le_of_ble_eq_true rfl) (gd DX10_load_2 7 rfl) ?_
      have e : ∀ k, hI (sI (sI G m 1 0) m 11 0) m k = if k = 11 then (0 : Int32) else if k = 1 then (0 : Int32) else hI G m k := fun k => by
        simp only [hI_sI, true_and]
      have eo : ∀ b, b ≠ m → hI (sI (sI G m 1 0) m 11 0) b = hI G b := fun b hb => by
        rw [hI_sI_ne hb, hI_sI_ne hb]
      have eg : ∀ k, k ≠ 1 → k ≠ 2 → k ≠ 3 → k ≠ 4 → k ≠ 5 → k ≠ 6 → k ≠ 7 → k ≠ 11 → k ≠ 14 → hI (sI (sI G m 1 0) m 11 0) m k = if k = 13 then (-1 : Int32) else if k = 12 then (0 : Int32) else hI g2 m k := fun k h1 h2 h3 h4 h5 h6 h7 h8 h9 => by
        rw [e, if_neg h8, if_neg h1, z1, if_neg h9, if_neg h7, if_neg h6, if_neg h5, if_neg h4, if_neg h3, if_neg h2, f5]
      have rcs : ∀ q, Ag (gRec (hI (sI (sI G m 1 0) m 11 0) (m + 1)) q) (gRec (hI g2 (m + 1)) (if q < 10 then 11 + q else q)) := fun q => by
        rw [eo _ (by omega), z2 _ (by omega), ← xo _ (by omega)]
        exact y3 q
      have ra : ∀ k, k < S.1.2.2.1 → Ag (gRec (hI (sI (sI G m 1 0) m 11 0) (m + 1)) k) (S.2.2.1 k).2 := fun k hk => by
        have h1 := rcs k
        have h8 : S.1.2.2.1 ≤ 8 := sk.1.2.2.1
        rw [if_pos (by omega)] at h1
        exact h1.tr (r11 k hk).1
      have rb : ∀ k, k < S.1.2.2.2 → Ag (gRec (hI (sI (sI G m 1 0) m 11 0) (m + 1)) (8 + k)) (S.2.2.2 k).2 := fun k hk => by
        have h1 := rcs (8 + k)
        have h8 : S.1.2.2.2 ≤ 2 := sk.1.2.2.2
        rw [if_pos (by omega)] at h1
        rw [show 11 + (8 + k) = 19 + k by omega] at h1
        exact h1.tr (nF k hk)
      exact g_iret C (by omega) (by omega) (Or.inr ⟨n, hn, rfl, .inr (j, S), hr, ⟨⟨by show G.2.2 = _; rw [z3, y1, x2]; exact b1', fun b h1 h2 => by rw [eo b h1, z2 b h1, y2 b h2, xo b h1]; exact b2' b h1 h2, fun k hk => by rw [eg k (by omega) (by omega) (by omega) (by omega) (by omega) (by omega) (by omega) (by omega) (by omega), if_neg (by omega), if_neg (by omega)]; exact b3' k (by omega) (by omega) (by omega), fun b h1 h2 => by show G.2.1 b = _; rw [z3, y1, x2]; exact b4' b h1 h2⟩, by rw [eg 10 (by omega) (by omega) (by omega) (by omega) (by omega) (by omega) (by omega) (by omega) (by omega)]; exact b6', by rw [e]; rfl⟩, rfl, by rw [e]; rfl, by rw [eg 12 (by omega) (by omega) (by omega) (by omega) (by omega) (by omega) (by omega) (by omega) (by omega)]; rfl, by rw [eg 13 (by omega) (by omega) (by omega) (by omega) (by omega) (by omega) (by omega) (by omega) (by omega)]; rfl, ⟨by rw [e, z1]; rfl, by rw [e, z1]; rfl, by rw [e, z1]; rfl, by rw [e, z1]; rfl, by rw [e, z1]; rfl, by rw [e, z1]; rfl, by rw [e, z1]; rfl⟩, ra, rb⟩) (gd DX10_load_2 8 rfl)
    have loop2 : ∀ y k g4, k + y = 2 → (g4.2 = g3.2 ∧ (∀ b, b ≠ m + 1 → hI g4 b = hI g3 b) ∧ ∀ q, Ag (gRec (hI g4 (m + 1)) q) (gRec (hI g3 (m + 1)) (if q < 8 + k then 11 + q else q))) → mSh m g4 → GW z w 4 (gQ z w 0 0 (fun r' h'' => (¬ (0 ≤ nI n ∧ nI n ≤ nI tp) ∧ r' = some (.int (-1)) ∧ h'' = sI (sI h m 1 0) m 11 1) ∨ ∃ n2, n2 ≤ tp ∧ nI n = nI n2 ∧ ∃ r, pTx tx n2 502 0 pSz = some r ∧ ldP m h tx n2 r r' h'')) 0 0 142 [(0, .ref m), (1, .int (nI n)), (2, .int 1), (3, .int (nI k))] [] g4 := by
      intro y
      induction y with
      | zero =>
        intro k g4 hk hy hm4
        have ek : k = 2 := hk
        subst ek
        refine g_iload_n C (gd DX10_load_1 21 rfl) 3 rfl rfl ?_
        refine g_iconst (v := 2) C (gd DX10_load_1 22 rfl) (by decide) ?_
        refine g_icmp_ge C 165 (gd DX10_load_1 23 rfl) (by decide) (fun c144 => ?_) (fun c144 => ?_)
        · exact last g4 hy hm4 _
        · exact absurd (show (nI 2 : Int32) ≥ 2 by decide) c144
      | succ y ih =>
        intro k g4 hk hy hm4
        refine g_iload_n C (gd DX10_load_1 21 rfl) 3 rfl rfl ?_
        refine g_iconst (v := 2) C (gd DX10_load_1 22 rfl) (by decide) ?_
        refine g_icmp_ge C 165 (gd DX10_load_1 23 rfl) (by decide) (fun c144 => ?_) (fun c144 => ?_)
        · exact absurd c144 (nI_ge (b := 2) (by omega) (by omega))
        · refine g_aload_n C (gd DX10_load_1 24 rfl) 0 rfl rfl ?_
          refine g_bipush (v := 19) C (gd DX10_load_1 25 rfl) (by decide) ?_
          refine g_iload_n C (gd DX10_load_1 26 rfl) 3 rfl rfl ?_
          refine g_iadd C (gd DX10_load_1 27 rfl) ?_
          rw [show (19 : Int32) + nI k = nI (11 + (8 + k)) from (nx_add (a := 19) rfl rfl).trans (by congr 1; omega)]
          refine g_bipush (v := 8) C (gd DX10_load_1 28 rfl) (by decide) ?_
          refine g_iload_n C (gd DX10_load_1 29 rfl) 3 rfl rfl ?_
          refine g_iadd C (gd DX10_load_1 30 rfl) ?_
          rw [show (8 : Int32) + nI k = nI (8 + k) from nx_add (a := 8) rfl rfl]
          refine g_cV0 (v := .null) (ci := 10) C [_, _] mX10_copies lm_TestJudgeModel_246 (by exact hm4.1) rfl rfl (e_m_copies hm4 (r := 11 + (8 + k)) (t := 8 + k) (by omega) (by omega) (by omega)) hfl (by first | decide | omega) (by decide) (by omega) (by omega) rfl rfl (Nat.le_of_ble_eq_true rfl) (gd DX10_load_1 31 rfl) ?_
          refine g_iinc (lv' := [(0, _), (1, _), (2, _), (3, _)]) C (gd DX10_load_1 32 rfl) 3 [1, 2, 3, 0] rfl rfl (by decide) rfl ?_
          refine g_goto (tgt := 142) C (gd DX10_load_1 33 rfl) (by decide) ?_
          exact GW.cast (by rw [inc1]) rfl rfl (ih (k + 1) _ (by omega) (stp (8 + k) (by omega) g4 hy) hm4)
    have loop1 : ∀ y k g4, k + y = 8 → (g4.2 = g3.2 ∧ (∀ b, b ≠ m + 1 → hI g4 b = hI g3 b) ∧ ∀ q, Ag (gRec (hI g4 (m + 1)) q) (gRec (hI g3 (m + 1)) (if q < k then 11 + q else q))) → mSh m g4 → GW z w 4 (gQ z w 0 0 (fun r' h'' => (¬ (0 ≤ nI n ∧ nI n ≤ nI tp) ∧ r' = some (.int (-1)) ∧ h'' = sI (sI h m 1 0) m 11 1) ∨ ∃ n2, n2 ≤ tp ∧ nI n = nI n2 ∧ ∃ r, pTx tx n2 502 0 pSz = some r ∧ ldP m h tx n2 r r' h'')) 0 0 117 [(0, .ref m), (1, .int (nI n)), (2, .int 1), (3, .int (nI k))] [] g4 := by
      intro y
      induction y with
      | zero =>
        intro k g4 hk hy hm4
        have ek : k = 8 := hk
        subst ek
        refine g_iload_n C (gd DX10_load_1 6 rfl) 3 rfl rfl ?_
        refine g_bipush (v := 8) C (gd DX10_load_1 7 rfl) (by decide) ?_
        refine g_icmp_ge C 140 (gd DX10_load_1 8 rfl) (by decide) (fun c120 => ?_) (fun c120 => ?_)
        · refine g_iconst (v := 0) C (gd DX10_load_1 19 rfl) (by decide) ?_
          refine g_istore_n (lv' := [(0, _), (1, _), (2, _), (3, _)]) C (gd DX10_load_1 20 rfl) [1, 2, 3, 0] rfl (by decide) rfl ?_
          exact loop2 2 0 g4 rfl hy hm4
        · exact absurd (show (nI 8 : Int32) ≥ 8 by decide) c120
      | succ y ih =>
        intro k g4 hk hy hm4
        refine g_iload_n C (gd DX10_load_1 6 rfl) 3 rfl rfl ?_
        refine g_bipush (v := 8) C (gd DX10_load_1 7 rfl) (by decide) ?_
        refine g_icmp_ge C 140 (gd DX10_load_1 8 rfl) (by decide) (fun c120 => ?_) (fun c120 => ?_)
        · exact absurd c120 (nI_ge (b := 8) (by omega) (by omega))
        · refine g_aload_n C (gd DX10_load_1 9 rfl) 0 rfl rfl ?_
          refine g_bipush (v := 11) C (gd DX10_load_1 10 rfl) (by decide) ?_
          refine g_iload_n C (gd DX10_load_1 11 rfl) 3 rfl rfl ?_
          refine g_iadd C (gd DX10_load_1 12 rfl) ?_
          rw [show (11 : Int32) + nI k = nI (11 + k) from nx_add (a := 11) rfl rfl]
          refine g_iconst (v := 0) C (gd DX10_load_1 13 rfl) (by decide) ?_
          refine g_iload_n C (gd DX10_load_1 14 rfl) 3 rfl rfl ?_
          refine g_iadd C (gd DX10_load_1 15 rfl) ?_
          rw [show (0 : Int32) + nI k = nI k from by rw [Int32.zero_add]]
          refine g_cV0 (v := .null) (ci := 10) C [_, _] mX10_copies lm_TestJudgeModel_246 (by exact hm4.1) rfl rfl (e_m_copies hm4 (r := 11 + k) (t := k) (by omega) (by omega) (by omega)) hfl (by first | decide | omega) (by decide) (by omega) (by omega) rfl rfl (Nat.le_of_ble_eq_true rfl) (gd DX10_load_1 16 rfl) ?_
          refine g_iinc (lv' := [(0, _), (1, _), (2, _), (3, _)]) C (gd DX10_load_1 17 rfl) 3 [1, 2, 3, 0] rfl rfl (by decide) rfl ?_
          refine g_goto (tgt := 117) C (gd DX10_load_1 18 rfl) (by decide) ?_
          exact GW.cast (by rw [inc1]) rfl rfl (ih (k + 1) _ (by omega) (stp k (by omega) g4 hy) hm4)
    refine g_if_ne C 115 (gd DX10_load_0 59 rfl) (by decide) (fun c105 => ?_) (fun c105 => ?_)
    rotate_left
    · exact absurd c105 (by decide)
    refine g_iconst (v := 0) C (gd DX10_load_1 4 rfl) (by decide) ?_
    refine g_istore_n (lv' := [(0, _), (1, _), (2, _), (3, _)]) C (gd DX10_load_1 5 rfl) [1, 2, 3, 0] rfl (by decide) rfl ?_
    exact loop1 8 0 g3 rfl ⟨rfl, fun _ _ => rfl, fun q => by rw [if_neg (by omega)]; exact Ag.rf _⟩ hm3
  have lines : ∀ F g2 j S, rdT m g g2 → mLn m g2 tx n j S → j < c → pTx tx n F j S = some r → GW z w 4 (gQ z w 0 0 (fun r' h'' => (¬ (0 ≤ nI n ∧ nI n ≤ nI tp) ∧ r' = some (.int (-1)) ∧ h'' = sI (sI h m 1 0) m 11 1) ∨ ∃ n2, n2 ≤ tp ∧ nI n = nI n2 ∧ ∃ r, pTx tx n2 502 0 pSz = some r ∧ ldP m h tx n2 r r' h'')) 0 0 69 [(0, .ref m), (1, .int (nI n)), (2, .int 1)] [] g2 := by
    intro F
    induction F with
    | zero => intro g2 j S _ _ _ e; rw [pTx] at e; cases e
    | succ F ih =>
      intro g2 j S fr L hj hz
      have hm2 := L.1
      have k23 : hI g2 m 23 = 0 := (fr.2.1 m 23 (by omega) (by omega)).trans s5
      have k24 : hI g2 m 24 = -1 := (fr.2.1 m 24 (by omega) (by omega)).trans s6
      rw [pTx] at hz
      refine g_iload_n C (gd DX10_load_0 41 rfl) 2 rfl rfl ?_
      refine g_if_eq C 88 (gd DX10_load_0 42 rfl) (by decide) (fun c70 => ?_) (fun c70 => ?_)
      · exact absurd c70 (by decide)
      refine g_aload_n C (gd DX10_load_0 43 rfl) 0 rfl rfl ?_
      refine g_geti (ci := 10) (k := 20) C rfl (by decide) rfl lf_TestJudgeModel_174 hm2.1 (gd DX10_load_0 44 rfl) ?_
      by_cases e0 : cdT tx n j = 0
      · rw [if_pos e0] at hz
        cases Option.some.inj hz
        refine g_if_eq C 88 (gd DX10_load_0 45 rfl) (by decide) (fun c77 => ?_) (fun c77 => ?_)
        · exact done g2 fr.u hm2 1 ⟨rfl, k23, k24, L⟩
        · exact absurd (L.2.1.2.2.2.en.mpr e0) c77
      · rw [if_neg e0] at hz
        refine g_if_eq C 88 (gd DX10_load_0 45 rfl) (by decide) (fun c77 => ?_) (fun c77 => ?_)
        · exact absurd (L.2.1.2.2.2.en.mp c77) e0
        obtain ⟨r2, hr2, ok2⟩ := pLn_k hc (by omega) hj L.2.2.2.2.2
        rw [hr2] at hz
        refine g_aload_n C (gd DX10_load_0 46 rfl) 0 rfl rfl ?_
        refine g_callV (ci := 10) C [] mX10_readLine lm_TestJudgeModel_334 (by exact hm2.1) rfl rfl (rl_line si hc (by omega) L hj hr2) hfl (by first | decide | omega) (by decide) (by omega) (by omega) rfl rfl (Nat.le_of_ble_eq_true rfl) (gd DX10_load_0 47 rfl) (fun r g3 hp => ?_)
        rcases r2 with x | ⟨j', S'⟩
        · obtain ⟨q1, rfl, q2, q3⟩ := hp
          cases Option.some.inj (show some (Sum.inl x) = some r from hz)
          show GW z w 4 _ 0 0 _ _ [.int 0] _
          refine g_istore_n (lv' := [(0, _), (1, _), (2, _)]) C (gd DX10_load_0 48 rfl) [1, 2, 0] rfl (by decide) rfl ?_
          refine g_goto (tgt := 69) C (gd DX10_load_0 49 rfl) (by decide) ?_
          refine g_iload_n C (gd DX10_load_0 41 rfl) 2 rfl rfl ?_
          refine g_if_eq C 88 (gd DX10_load_0 42 rfl) (by decide) (fun c70 => ?_) (fun c70 => ?_)
          · exact done g3 (fr.u.tr q1) (mSh_u q1 hm2) 0 ⟨rfl, q2, q3⟩
          · exact absurd rfl c70
        · obtain ⟨q1, rfl, L3⟩ := hp
          show GW z w 4 _ 0 0 _ _ [.int 1] _
          refine g_istore_n (lv' := [(0, _), (1, _), (2, _)]) C (gd DX10_load_0 48 rfl) [1, 2, 0] rfl (by decide) rfl ?_
          refine g_goto (tgt := 69) C (gd DX10_load_0 49 rfl) (by decide) ?_
          exact ih g3 j' S' (fr.tr q1) L3 ok2.2.1 hz
  show GW z w 4 _ 0 0 _ _ [] _
  refine g_iconst (v := 1) C (gd DX10_load_0 39 rfl) (by decide) ?_
  refine g_istore_n (lv' := [(0, _), (1, _), (2, _)]) C (gd DX10_load_0 40 rfl) [1, 2, 0] rfl (by decide) rfl ?_
  exact lines 502 g1 0 pSz a1.t L0 c1 hr
end M60
