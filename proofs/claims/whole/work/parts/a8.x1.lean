/-! The class's small methods -/
theorem le_m1 {p : Int32} {n : Nat} (hn : n < 100000) : p ≤ nI n - 1 ↔ p < nI n := by
  rw [Int32.le_iff_toInt_le, Int32.lt_iff_toInt_lt, nI_toInt (by omega)]
  have e : (nI n - 1).toInt = (n : Int) - 1 := by
    by_cases q : n = 0
    · subst q; decide
    · rw [show nI n - 1 = nI (n - 1) from nx_sub (b := 1) rfl rfl (by omega), nI_toInt (by omega)]
      omega
  rw [e]
  omega
theorem in_np {p : Int32} {n : Nat} (hn : n < 100000) : (0 ≤ p ∧ p ≤ nI n - 1) ↔ ¬ p < 0 ∧ p < nI n := by
  rw [le_m1 hn, Int32.not_lt]
theorem hasB_nt {v : Int32} {a : Nat} (ha : a < 32) : hasB (v ^^^ -1) (nI a) ↔ ¬ hasB v (nI a) := by
  rw [hasB_iff ha, hasB_iff ha, Int32.toBitVec_xor, BitVec.getLsbD_xor, show (-1 : Int32).toBitVec = BitVec.allOnes 32 from rfl, BitVec.getLsbD_allOnes, decide_eq_true ha]
  cases v.toBitVec.getLsbD a <;> simp
theorem allF_has : ∀ nt, nt ≤ 3 → ∀ a, a < 2 ^ nt → hasB (allF (nI nt)) (nI a) := by
  intro nt hnt
  rcases (show nt = 0 ∨ nt = 1 ∨ nt = 2 ∨ nt = 3 by omega) with rfl | rfl | rfl | rfl <;> (unfold hasB; decide)
theorem noAt {nt : Nat} (hnt : nt ≤ 3) (s : Int32) : s &&& (allF (nI nt) ^^^ -1) = 0 ↔ 0 ≤ s ∧ s ≤ allF (nI nt) := by
  constructor
  · intro e
    have hs : s = s &&& allF (nI nt) := hasB_ext fun a ha => by
      rw [hasB_and ha]
      refine ⟨fun q => ⟨q, ?_⟩, fun q => q.1⟩
      apply Classical.byContradiction
      intro n
      exact hasB_0 ha (e ▸ (hasB_and ha).mpr ⟨q, (hasB_nt ha).mpr n⟩)
    obtain ⟨m, hm, em⟩ := allF_n hnt
    rw [em] at hs ⊢
    obtain ⟨n, hn, e2⟩ := and_small (a := s) (rfl : nI m = nI m) (by omega)
    rw [hs, e2]
    exact ⟨(nI_leI (a := 0) (by omega) (by omega)).mpr (by omega), (nI_leI (by omega) (by omega)).mpr hn⟩
  · intro hs
    refine hasB_ext fun a ha => ?_
    rw [hasB_and ha, hasB_nt ha]
    refine ⟨fun q => absurd (allF_has nt hnt a (allF_b hnt hs ha q.1)) q.2, fun q => absurd q (hasB_0 ha)⟩
section X1
variable {w : gD} {x W : Nat} {h : HS}
theorem e_x_allow (hx : kvX x W h) (v : Int32) : EvF w 0 0 0 yX9_allow cX9_allow 2 (some .int) [.ref x, .int v] h (some (.int v)) (sI h x 3 0) := by
  refine g_start (by decide) (Nat.le_of_ble_eq_true rfl) [(0, _), (1, _)] rfl (fun z hfl C => ?_)
  refine g_aload_n C (gd DX9_allow_0 0 rfl) 0 rfl rfl ?_
  refine g_iconst (v := 0) C (gd DX9_allow_0 1 rfl) (by decide) ?_
  refine g_puti (ci := 9) (k := 3) C rfl (by decide) rfl lf_TestJudge_24 hx.1 (Or.inl rfl) rfl (gd DX9_allow_0 2 rfl) ?_
  refine g_iload_n C (gd DX9_allow_0 3 rfl) 1 rfl rfl ?_
  exact g_iret C (by omega) (by omega) ⟨rfl, rfl⟩ (gd DX9_allow_0 4 rfl)
theorem e_x_refuse (hx : kvX x W h) (v : Int32) : EvF w 0 0 0 yX9_refuse cX9_refuse 2 (some .int) [.ref x, .int v] h (some (.int (-1))) (sI h x 3 v) := by
  refine g_start (by decide) (Nat.le_of_ble_eq_true rfl) [(0, _), (1, _)] rfl (fun z hfl C => ?_)
  refine g_aload_n C (gd DX9_refuse_0 0 rfl) 0 rfl rfl ?_
  refine g_iload_n C (gd DX9_refuse_0 1 rfl) 1 rfl rfl ?_
  refine g_puti (ci := 9) (k := 3) C rfl (by decide) rfl lf_TestJudge_24 hx.1 (Or.inl rfl) rfl (gd DX9_refuse_0 2 rfl) ?_
  refine g_iconst (v := -1) C (gd DX9_refuse_0 3 rfl) (by decide) ?_
  exact g_iret C (by omega) (by omega) ⟨rfl, rfl⟩ (gd DX9_refuse_0 4 rfl)
theorem e_x_endWalk (hx : kvX x W h) : EvF w 0 0 0 yX9_endWalk cX9_endWalk 1 none [.ref x] h none (sI h x 12 (-1)) := by
  refine g_start (by decide) (Nat.le_of_ble_eq_true rfl) [(0, _)] rfl (fun z hfl C => ?_)
  refine g_aload_n C (gd DX9_endWalk_0 0 rfl) 0 rfl rfl ?_
  refine g_iconst (v := -1) C (gd DX9_endWalk_0 1 rfl) (by decide) ?_
  refine g_puti (ci := 9) (k := 12) C rfl (by decide) rfl lf_TestJudge_77 hx.1 (Or.inl rfl) rfl (gd DX9_endWalk_0 2 rfl) ?_
  exact g_vret C (by omega) (by omega) ⟨rfl, rfl⟩ (gd DX9_endWalk_0 3 rfl)
theorem e_x_bit {v : Int32} (hv : v = 0 ∨ v = 1) : EvF w 0 0 0 yX9_bit cX9_bit 1 (some .int) [.int v] h (some (.int v)) h := by
  refine g_start (by decide) (Nat.le_of_ble_eq_true rfl) [(0, _)] rfl (fun z hfl C => ?_)
  rcases hv with rfl | rfl
  · refine g_iload_n C (gd DX9_bit_0 0 rfl) 0 rfl rfl ?_
    refine g_if_eq C 8 (gd DX9_bit_0 1 rfl) (by decide) (fun c1 => ?_) (fun c1 => ?_)
    · refine g_iconst (v := 0) C (gd DX9_bit_0 4 rfl) (by decide) ?_
      exact g_iret C (by omega) (by omega) ⟨rfl, rfl⟩ (gd DX9_bit_0 5 rfl)
    · exact absurd rfl c1
  · refine g_iload_n C (gd DX9_bit_0 0 rfl) 0 rfl rfl ?_
    refine g_if_eq C 8 (gd DX9_bit_0 1 rfl) (by decide) (fun c1 => ?_) (fun c1 => ?_)
    · exact absurd c1 (by decide)
    · refine g_iconst (v := 1) C (gd DX9_bit_0 2 rfl) (by decide) ?_
      refine g_goto (tgt := 9) C (gd DX9_bit_0 3 rfl) (by decide) ?_
      exact g_iret C (by omega) (by omega) ⟨rfl, rfl⟩ (gd DX9_bit_0 5 rfl)
theorem e_x_lacks (hx : kvX x W h) {np : Nat} (hnp : np < 100000) (h2 : hI h W 2 = nI np) (p : Int32) : EvF w 0 0 0 yX9_lacks cX9_lacks 2 (some .boolean) [.ref x, .int p] h (some (.int (b1 (¬ (0 ≤ p ∧ p ≤ nI np - 1))))) h := by
  refine g_start (by decide) (Nat.le_of_ble_eq_true rfl) [(0, _), (1, _)] rfl (fun z hfl C => ?_)
  have k15 : ¬ (0 ≤ p ∧ p ≤ nI np - 1) → GW z w 2 (gQ z w 0 0 (fun r' h'' => r' = some (.int (b1 (¬ (0 ≤ p ∧ p ≤ nI np - 1)))) ∧ h'' = h)) 0 0 15 [(0, .ref x), (1, .int p)] [] h := by
    intro q
    refine g_iconst (v := 1) C (gd DX9_lacks_0 7 rfl) (by decide) ?_
    refine g_goto (tgt := 20) C (gd DX9_lacks_0 8 rfl) (by decide) ?_
    exact g_zret C (Or.inr rfl) (by omega) (by omega) ⟨by rw [b1_t q], rfl⟩ (gd DX9_lacks_0 10 rfl)
  refine g_iload_n C (gd DX9_lacks_0 0 rfl) 1 rfl rfl ?_
  refine g_if_lt C 15 (gd DX9_lacks_0 1 rfl) (by decide) (fun c1 => ?_) (fun c1 => ?_)
  · exact k15 (fun q => ((in_np hnp).mp q).1 c1)
  · refine g_iload_n C (gd DX9_lacks_0 2 rfl) 1 rfl rfl ?_
    refine g_aload_n C (gd DX9_lacks_0 3 rfl) 0 rfl rfl ?_
    refine g_getr (ci := 9) (k := 6) C rfl (by decide) rfl lf_TestJudge_36 hx.1 hx.2.2.2.1.1 (gd DX9_lacks_0 4 rfl) ?_
    refine g_geti (ci := 8) (k := 2) C rfl (by decide) rfl lf_TestJudge_125 hx.2.2.2.1.2.1 (gd DX9_lacks_0 5 rfl) ?_
    rw [h2]
    refine g_icmp_lt C 19 (gd DX9_lacks_0 6 rfl) (by decide) (fun c12 => ?_) (fun c12 => ?_)
    · refine g_iconst (v := 0) C (gd DX9_lacks_0 9 rfl) (by decide) ?_
      exact g_zret C (Or.inl rfl) (by omega) (by omega) ⟨by rw [b1_f (fun q => q ((in_np hnp).mpr ⟨c1, c12⟩))], rfl⟩ (gd DX9_lacks_0 10 rfl)
    · exact k15 (fun q => c12 ((in_np hnp).mp q).2)
theorem e_x_lacksFact (hx : kvX x W h) {np : Nat} (hnp : np < 100000) (h2 : hI h W 3 = nI np) (p : Int32) : EvF w 0 0 0 yX9_lacksFact cX9_lacksFact 2 (some .boolean) [.ref x, .int p] h (some (.int (b1 (¬ (0 ≤ p ∧ p ≤ nI np - 1))))) h := by
  refine g_start (by decide) (Nat.le_of_ble_eq_true rfl) [(0, _), (1, _)] rfl (fun z hfl C => ?_)
  have k15 : ¬ (0 ≤ p ∧ p ≤ nI np - 1) → GW z w 2 (gQ z w 0 0 (fun r' h'' => r' = some (.int (b1 (¬ (0 ≤ p ∧ p ≤ nI np - 1)))) ∧ h'' = h)) 0 0 15 [(0, .ref x), (1, .int p)] [] h := by
    intro q
    refine g_iconst (v := 1) C (gd DX9_lacksFact_0 7 rfl) (by decide) ?_
    refine g_goto (tgt := 20) C (gd DX9_lacksFact_0 8 rfl) (by decide) ?_
    exact g_zret C (Or.inr rfl) (by omega) (by omega) ⟨by rw [b1_t q], rfl⟩ (gd DX9_lacksFact_0 10 rfl)
  refine g_iload_n C (gd DX9_lacksFact_0 0 rfl) 1 rfl rfl ?_
  refine g_if_lt C 15 (gd DX9_lacksFact_0 1 rfl) (by decide) (fun c1 => ?_) (fun c1 => ?_)
  · exact k15 (fun q => ((in_np hnp).mp q).1 c1)
  · refine g_iload_n C (gd DX9_lacksFact_0 2 rfl) 1 rfl rfl ?_
    refine g_aload_n C (gd DX9_lacksFact_0 3 rfl) 0 rfl rfl ?_
    refine g_getr (ci := 9) (k := 6) C rfl (by decide) rfl lf_TestJudge_36 hx.1 hx.2.2.2.1.1 (gd DX9_lacksFact_0 4 rfl) ?_
    refine g_geti (ci := 8) (k := 3) C rfl (by decide) rfl lf_TestJudge_137 hx.2.2.2.1.2.1 (gd DX9_lacksFact_0 5 rfl) ?_
    rw [h2]
    refine g_icmp_lt C 19 (gd DX9_lacksFact_0 6 rfl) (by decide) (fun c12 => ?_) (fun c12 => ?_)
    · refine g_iconst (v := 0) C (gd DX9_lacksFact_0 9 rfl) (by decide) ?_
      exact g_zret C (Or.inl rfl) (by omega) (by omega) ⟨by rw [b1_f (fun q => q ((in_np hnp).mpr ⟨c1, c12⟩))], rfl⟩ (gd DX9_lacksFact_0 10 rfl)
    · exact k15 (fun q => c12 ((in_np hnp).mp q).2)
theorem e_x_lacksLetter (hx : kvX x W h) {nt na : Nat} (hnt : nt ≤ 3) (hna : na ≤ 3) (h0 : hI h W 0 = nI nt) (h1 : hI h W 1 = nI na) (a c : Int32) : EvF w 1 0 0 yX9_lacksLetter cX9_lacksLetter 3 (some .boolean) [.ref x, .int a, .int c] h (some (.int (b1 (¬ ((0 ≤ a ∧ a ≤ atF (nI nt) - 1) ∧ (0 ≤ c ∧ c ≤ nI na - 1)))))) h := by
  have hp2 : 2 ^ nt ≤ 8 := by rcases (show nt = 0 ∨ nt = 1 ∨ nt = 2 ∨ nt = 3 by omega) with rfl | rfl | rfl | rfl <;> decide
  refine g_start (by decide) (Nat.le_of_ble_eq_true rfl) [(0, _), (1, _), (2, _)] rfl (fun z hfl C => ?_)
  have k30 : ¬ ((0 ≤ a ∧ a ≤ atF (nI nt) - 1) ∧ (0 ≤ c ∧ c ≤ nI na - 1)) → GW z w 3 (gQ z w 0 0 (fun r' h'' => r' = some (.int (b1 (¬ ((0 ≤ a ∧ a ≤ atF (nI nt) - 1) ∧ (0 ≤ c ∧ c ≤ nI na - 1))))) ∧ h'' = h)) 0 0 30 [(0, .ref x), (1, .int a), (2, .int c)] [] h := by
    intro q
    refine g_iconst (v := 1) C (gd DX9_lacksLetter_0 14 rfl) (by decide) ?_
    refine g_goto (tgt := 35) C (gd DX9_lacksLetter_0 15 rfl) (by decide) ?_
    exact g_zret C (Or.inr rfl) (by omega) (by omega) ⟨by rw [b1_t q], rfl⟩ (gd DX9_lacksLetter_0 17 rfl)
  rw [atF_n hnt] at k30 ⊢
  refine g_iload_n C (gd DX9_lacksLetter_0 0 rfl) 1 rfl rfl ?_
  refine g_if_lt C 30 (gd DX9_lacksLetter_0 1 rfl) (by decide) (fun c1 => ?_) (fun c1 => ?_)
  · exact k30 (fun q => ((in_np (by omega)).mp q.1).1 c1)
  · refine g_iload_n C (gd DX9_lacksLetter_0 2 rfl) 1 rfl rfl ?_
    refine g_aload_n C (gd DX9_lacksLetter_0 3 rfl) 0 rfl rfl ?_
    refine g_getr (ci := 9) (k := 6) C rfl (by decide) rfl lf_TestJudge_36 hx.1 hx.2.2.2.1.1 (gd DX9_lacksLetter_0 4 rfl) ?_
    refine g_cV1 (ci := 8) C [] mX8_atomCount lm_TestJudge_140 (by exact hx.2.2.2.1.2.1) rfl rfl (e_w_atomCount hx.2.2.2.1.2) hfl (by first | decide | omega) (by decide) (by omega) (by omega) rfl rfl (Nat.le_of_ble_eq_true rfl) (gd DX9_lacksLetter_0 5 rfl) ?_
    rw [h0, atF_n hnt]
    refine g_icmp_ge C 30 (gd DX9_lacksLetter_0 6 rfl) (by decide) (fun c12 => ?_) (fun c12 => ?_)
    · exact k30 (fun q => absurd ((in_np (by omega)).mp q.1).2 (by first | exact Int32.not_lt.mpr c12 | exact c12))
    · refine g_iload_n C (gd DX9_lacksLetter_0 7 rfl) 2 rfl rfl ?_
      refine g_if_lt C 30 (gd DX9_lacksLetter_0 8 rfl) (by decide) (fun c16 => ?_) (fun c16 => ?_)
      · exact k30 (fun q => ((in_np (by omega)).mp q.2).1 c16)
      · refine g_iload_n C (gd DX9_lacksLetter_0 9 rfl) 2 rfl rfl ?_
        refine g_aload_n C (gd DX9_lacksLetter_0 10 rfl) 0 rfl rfl ?_
        refine g_getr (ci := 9) (k := 6) C rfl (by decide) rfl lf_TestJudge_36 hx.1 hx.2.2.2.1.1 (gd DX9_lacksLetter_0 11 rfl) ?_
        refine g_geti (ci := 8) (k := 1) C rfl (by decide) rfl lf_TestJudge_134 hx.2.2.2.1.2.1 (gd DX9_lacksLetter_0 12 rfl) ?_
        rw [h1]
        refine g_icmp_lt C 34 (gd DX9_lacksLetter_0 13 rfl) (by decide) (fun c27 => ?_) (fun c27 => ?_)
        · refine g_iconst (v := 0) C (gd DX9_lacksLetter_0 16 rfl) (by decide) ?_
          exact g_zret C (Or.inl rfl) (by omega) (by omega) ⟨by rw [b1_f (fun q => q ⟨(in_np (by omega)).mpr ⟨c1, by first | exact Int32.not_le.mp c12 | exact Decidable.of_not_not c12⟩, (in_np (by omega)).mpr ⟨c16, c27⟩⟩)], rfl⟩ (gd DX9_lacksLetter_0 17 rfl)
        · exact k30 (fun q => c27 ((in_np (by omega)).mp q.2).2)
theorem e_x_noAtoms (hx : kvX x W h) {nt : Nat} (hnt : nt ≤ 3) (h0 : hI h W 0 = nI nt) (s : Int32) : EvF w 1 0 0 yX9_noAtoms cX9_noAtoms 2 (some .boolean) [.ref x, .int s] h (some (.int (b1 (¬ (0 ≤ s ∧ s ≤ allF (nI nt)))))) h := by
  refine g_start (by decide) (Nat.le_of_ble_eq_true rfl) [(0, _), (1, _)] rfl (fun z hfl C => ?_)
  refine g_iload_n C (gd DX9_noAtoms_0 0 rfl) 1 rfl rfl ?_
  refine g_aload_n C (gd DX9_noAtoms_0 1 rfl) 0 rfl rfl ?_
  refine g_getr (ci := 9) (k := 6) C rfl (by decide) rfl lf_TestJudge_36 hx.1 hx.2.2.2.1.1 (gd DX9_noAtoms_0 2 rfl) ?_
  refine g_cV1 (ci := 8) C [] mX8_allAtoms lm_TestJudge_263 (by exact hx.2.2.2.1.2.1) rfl rfl (e_w_allAtoms hx.2.2.2.1.2) hfl (by first | decide | omega) (by decide) (by omega) (by omega) rfl rfl (Nat.le_of_ble_eq_true rfl) (gd DX9_noAtoms_0 3 rfl) ?_
  rw [h0]
  refine g_iconst (v := -1) C (gd DX9_noAtoms_0 4 rfl) (by decide) ?_
  refine g_ixor C (gd DX9_noAtoms_0 5 rfl) ?_
  refine g_iand C (gd DX9_noAtoms_0 6 rfl) ?_
  refine g_if_eq C 18 (gd DX9_noAtoms_0 7 rfl) (by decide) (fun c11 => ?_) (fun c11 => ?_)
  · refine g_iconst (v := 0) C (gd DX9_noAtoms_0 10 rfl) (by decide) ?_
    exact g_zret C (Or.inl rfl) (by omega) (by omega) ⟨by rw [b1_f (fun q => q ((noAt hnt s).mp c11))], rfl⟩ (gd DX9_noAtoms_0 11 rfl)
  · refine g_iconst (v := 1) C (gd DX9_noAtoms_0 8 rfl) (by decide) ?_
    refine g_goto (tgt := 19) C (gd DX9_noAtoms_0 9 rfl) (by decide) ?_
    exact g_zret C (Or.inr rfl) (by omega) (by omega) ⟨by rw [b1_t (show ¬ (0 ≤ s ∧ s ≤ allF (nI nt)) from fun q => c11 ((noAt hnt s).mpr q))], rfl⟩ (gd DX9_noAtoms_0 11 rfl)
end X1
