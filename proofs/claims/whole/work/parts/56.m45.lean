/-! actions: assume, drop, make; swaps -/
/-- the heap after an action was kept -/
def kpH (m : Nat) (h : HS) (a : Nat) : HS := sI (kH m h (kpK (if a = 8 then shF (hI h (m + 2)) 17206 else hI h (m + 2)) (hI h (m + 1)) (hI h m 4) (hI h m 6) (if a = 8 then 7 else a)) ((if a = 8 then 7 else a) + 1)) m 14 (-1)
theorem kpH_ne {m a b j : Nat} {h : HS} (h1 : b ≠ m + 2) (h2 : ¬ (b = m ∧ (j = 7 ∨ j = 14))) : hI (kpH m h a) b j = hI h b j := by
  unfold kpH
  rw [hI_sI, if_neg (by omega), kH_ne h1 (by omega)]
theorem kpH_1 {m a : Nat} {h : HS} : hI (kpH m h a) (m + 1) = hI h (m + 1) := funext fun j => kpH_ne (by omega) (by omega)
/-- what an action changes: what is kept, how many programs, what is assumed, the records -/
def mCh (m : Nat) (h h' : HS) (a : Nat) (np as : Int32) (Rec : Nat → Nat → Int32) : Prop := Fr3 h h' ∧ (∀ k, k ≤ 16 → k ≠ 1 → k ≠ 4 → k ≠ 6 → k ≠ 7 → k ≠ 11 → k ≠ 14 → hI h' m k = hI h m k) ∧ hI h' m 57 = hI h m 57 ∧ hI h' m 1 = 0 ∧ hI h' m 4 = np ∧ hI h' m 6 = as ∧ hI h' m 11 = 0 ∧ hI h' m 14 = -1 ∧ hI h' m 7 = nI ((if a = 8 then 7 else a) + 1) ∧ hI h' (m + 2) = kpK (if a = 8 then shF (hI h (m + 2)) 17206 else hI h (m + 2)) (hI h (m + 1)) (hI h m 4) (hI h m 6) (if a = 8 then 7 else a) ∧ (∀ r k, r < 11 → k < 307 → gRec (hI h' (m + 1)) r k = Rec r k) ∧ hI h' (m + 3) = hI h (m + 3) ∧ hI h' (m + 26) = hI h (m + 26)
theorem mCh.of {m a : Nat} {h X : HS} {np as : Int32} {Rec : Nat → Nat → Int32} (hf : Fr3 h X) (he : ∀ b j, b ≠ m + 1 → ¬ (b = m ∧ (j = 4 ∨ j = 6)) → hI X b j = hI (kpH m h a) b j) (h4 : hI X m 4 = np) (h6 : hI X m 6 = as) (hr : ∀ r k, r < 11 → k < 307 → gRec (hI X (m + 1)) r k = Rec r k) : mCh m h (sI (sI X m 1 0) m 11 0) a np as Rec := by
  have e0 : ∀ b j, ¬ (b = m ∧ (j = 1 ∨ j = 11)) → hI (sI (sI X m 1 0) m 11 0) b j = hI X b j := fun b j q => by rw [hI_sI, if_neg (by omega), hI_sI, if_neg (by omega)]
  refine ⟨hf, fun k k1 k2 k3 k4 k5 k6 k7 => ?_, ?_, ?_, ?_, ?_, ?_, ?_, ?_, ?_, fun r k hr1 hk => ?_, ?_, ?_⟩
  · rw [e0 _ _ (by omega), he _ _ (by omega) (by omega), kpH_ne (by omega) (by omega)]
  · rw [e0 _ _ (by omega), he _ _ (by omega) (by omega), kpH_ne (by omega) (by omega)]
  · rw [hI_sI, if_neg (by omega), hI_sI, if_pos ⟨rfl, rfl⟩]
  · rw [e0 _ _ (by omega), h4]
  · rw [e0 _ _ (by omega), h6]
  · rw [hI_sI, if_pos ⟨rfl, rfl⟩]
  · rw [e0 _ _ (by omega), he _ _ (by omega) (by omega), kpH, hI_sI, if_pos ⟨rfl, rfl⟩]
  · rw [e0 _ _ (by omega), he _ _ (by omega) (by omega), kpH, hI_sI, if_neg (by omega), kH_7]
  · funext j
    rw [e0 _ _ (by omega), he _ _ (by omega) (by omega), kpH, hI_sI, if_neg (by omega), kH_2]
  · rw [show hI (sI (sI X m 1 0) m 11 0) (m + 1) = hI X (m + 1) from funext fun j => e0 _ _ (by omega)]
    exact hr r k hr1 hk
  · funext j
    rw [e0 _ _ (by omega), he _ _ (by omega) (by omega), kpH_ne (by omega) (by omega)]
  · funext j
    rw [e0 _ _ (by omega), he _ _ (by omega) (by omega), kpH_ne (by omega) (by omega)]
theorem xor_fact {s f : Nat} (hs : s < 4) (hf : f < 2) : nI s ^^^ (1 : Int32) <<< (nI f &&& 31) = nI (s ^^^ 2 ^ f) := by
  rcases (show f = 0 ∨ f = 1 by omega) with rfl | rfl <;> rcases (show s = 0 ∨ s = 1 ∨ s = 2 ∨ s = 3 by omega) with rfl | rfl | rfl | rfl <;> decide
theorem xor_lt {s f : Nat} (hs : s < 4) (hf : f < 2) : s ^^^ 2 ^ f < 4 := by
  rcases (show f = 0 ∨ f = 1 by omega) with rfl | rfl <;> rcases (show s = 0 ∨ s = 1 ∨ s = 2 ∨ s = 3 by omega) with rfl | rfl | rfl | rfl <;> decide
theorem ite_iff {p q : Prop} [Decidable p] [Decidable q] {x y : Int32} (h : p ↔ q) : (if p then x else y) = if q then x else y := by
  by_cases e : p
  · rw [if_pos e, if_pos (h.mp e)]
  · rw [if_neg e, if_neg (fun z => e (h.mpr z))]
theorem mPr_0 (m : Nat) (h : HS) (r : Nat) : mPr m h r 0 = gRec (hI h (m + 1)) r 0 := by
  unfold mPr tr
  rw [if_pos (by omega)]
/-- one behind the other -/
def jnR (m : Nat) (h : HS) (r q : Nat) : Nat → Int32 := tr (rJoin (mPr m h r) (mPr m h q) (wt (mPr m h r)) (wt (mPr m h q)))
theorem jnR_ag {m : Nat} {h : HS} {r q a b : Nat} (ha : gRec (hI h (m + 1)) r 0 = nI a) (hb : gRec (hI h (m + 1)) q 0 = nI b) (la : a ≤ 6) (lb : b ≤ 6) {R : Nat → Int32} (hR : Ag R (rJoin (gRec (hI h (m + 1)) r) (gRec (hI h (m + 1)) q) a b)) : tr R = jnR m h r q := by
  unfold jnR
  rw [tr_ag hR, rJoin_ag (ag_tr (gRec (hI h (m + 1)) r)) (ag_tr (gRec (hI h (m + 1)) q)), show wt (mPr m h r) = a from wt_of ((mPr_0 m h r).trans ha) (by omega), show wt (mPr m h q) = b from wt_of ((mPr_0 m h q).trans hb) (by omega)]
  rfl
section M45
variable {w : gD} {m : Nat} {h : HS}
theorem r_keeps_ (hm : mSh m h) {a : Nat} (ha : a ≤ 8) (h7 : hI h m 7 = nI a) : EvF w 0 0 0 yX10_keeps_ cX10_keeps_ 2 none [.ref m] h none (kpH m h a) := e_m_keeps_ hm ha h7
theorem e_m_assume {nt na np nf a s : Nat} {fw : Nat → Nat} (ok : mOK m h nt na np nf fw) (ha : a ≤ 8) (h7 : hI h m 7 = nI a) (hs : s < 4) (h6 : hI h m 6 = nI s) (p v : Int32) :
    Ev w 2 0 0 yX10_assume cX10_assume 3 (some .int) [.ref m, .int p, .int v] h (fun r' h' => (¬ (0 ≤ p ∧ p ≤ nI nf - 1) ∧ r' = some (.int (-1)) ∧ pQ m h h' 2) ∨ ∃ f, f < nf ∧ p = nI f ∧ ((b1 (nI s >>> (nI f &&& 31) &&& 1 = 1) = v ∧ r' = some (.int (-1)) ∧ pQ m h h' 4) ∨ (¬ b1 (nI s >>> (nI f &&& 31) &&& 1 = 1) = v ∧ r' = some (.int (nI (pcf (s ^^^ 2 ^ f) (s ^^^ 2 ^ f)))) ∧ mCh m h h' a (nI np) (nI (s ^^^ 2 ^ f)) (gRec (hI h (m + 1)))))) := by
  obtain ⟨hm, hnt, hna, hnp, hF, hw⟩ := ok
  have hnf := hF.1
  refine g_start (by decide) (Nat.le_of_ble_eq_true rfl) [(0, _), (1, _), (2, _)] rfl (fun z hfl C => ?_)
  refine g_aload_n C (gd DX10_assume_0 0 rfl) 0 rfl rfl ?_
  refine g_iload_n C (gd DX10_assume_0 1 rfl) 1 rfl rfl ?_
  refine g_cV1 (ci := 10) C [_] mX10_isFact lm_TestJudgeModel_393 (by exact hm.1) rfl rfl (e_m_isFact hm _) hfl (by decide) (by decide) (by omega) (by omega) rfl rfl (Nat.le_of_ble_eq_true rfl) (gd DX10_assume_0 2 rfl) ?_
  rw [hF.2.1]
  by_cases hp : 0 ≤ p ∧ p ≤ nI nf - 1
  rotate_left
  · rw [b1_f hp]
    refine g_if_ne C 14 (gd DX10_assume_0 3 rfl) (by decide) (fun c5 => ?_) (fun c5 => ?_)
    · exact absurd rfl c5
    · refine g_aload_n C (gd DX10_assume_0 4 rfl) 0 rfl rfl ?_
      refine g_iconst (v := 2) C (gd DX10_assume_0 5 rfl) (by decide) ?_
      refine g_cV1 (ci := 10) C [_] mX10_refuse lm_TestJudgeModel_331 (by exact hm.1) rfl rfl (e_m_refuse hm _) hfl (by decide) (by decide) (by omega) (by omega) rfl rfl (Nat.le_of_ble_eq_true rfl) (gd DX10_assume_0 6 rfl) ?_
      exact g_iret C (by omega) (by omega) (Or.inl ⟨hp, rfl, (mKp.rf m h).q 2⟩) (gd DX10_assume_0 7 rfl)
  rw [b1_t hp]
  refine g_if_ne C 14 (gd DX10_assume_0 3 rfl) (by decide) (fun c5 => ?_) (fun c5 => ?_)
  rotate_left
  · exact absurd c5 (by decide)
  obtain ⟨f, hf, rfl⟩ := below_of (by omega) hp
  refine g_aload_n C (gd DX10_assume_0 8 rfl) 0 rfl rfl ?_
  refine g_geti (ci := 10) (k := 6) C rfl (by decide) rfl lf_TestJudgeModel_343 hm.1 (gd DX10_assume_0 9 rfl) ?_
  rw [h6]
  refine g_iload_n C (gd DX10_assume_0 10 rfl) 1 rfl rfl ?_
  refine g_cS1 C [_, _] mX10_has lm_TestJudgeModel_144 (e_m_has _ _) hfl (by decide) (by decide) (by omega) (by omega) rfl rfl (Nat.le_of_ble_eq_true rfl) (gd DX10_assume_0 11 rfl) ?_
  refine g_iload_n C (gd DX10_assume_0 12 rfl) 2 rfl rfl ?_
  refine g_icmp_ne C 32 (gd DX10_assume_0 13 rfl) (by decide) (fun c23 => ?_) (fun c23 => ?_)
  rotate_left
  · refine g_aload_n C (gd DX10_assume_0 14 rfl) 0 rfl rfl ?_
    refine g_iconst (v := 4) C (gd DX10_assume_0 15 rfl) (by decide) ?_
    refine g_cV1 (ci := 10) C [_] mX10_refuse lm_TestJudgeModel_331 (by exact hm.1) rfl rfl (e_m_refuse hm _) hfl (by decide) (by decide) (by omega) (by omega) rfl rfl (Nat.le_of_ble_eq_true rfl) (gd DX10_assume_0 16 rfl) ?_
    exact g_iret C (by omega) (by omega) (Or.inr ⟨f, hf, rfl, Or.inl ⟨c23, rfl, (mKp.rf m h).q 4⟩⟩) (gd DX10_assume_0 17 rfl)
  refine g_aload_n C (gd DX10_assume_0 18 rfl) 0 rfl rfl ?_
  refine g_cV0 (v := .null) (ci := 10) C [] mX10_keeps_ lm_TestJudgeModel_496 (by exact hm.1) rfl rfl (r_keeps_ hm ha h7) hfl (by decide) (by decide) (by omega) (by omega) rfl rfl (Nat.le_of_ble_eq_true rfl) (gd DX10_assume_0 19 rfl) ?_
  have hm2 : mSh m (kpH m h a) := hm
  refine g_aload_n C (gd DX10_assume_0 20 rfl) 0 rfl rfl ?_
  refine g_dup C (gd DX10_assume_0 21 rfl) rfl ?_
  refine g_geti (ci := 10) (k := 6) C rfl (by decide) rfl lf_TestJudgeModel_343 hm2.1 (gd DX10_assume_0 22 rfl) ?_
  rw [kpH_ne (by omega) (by omega), h6]
  refine g_iconst (v := 1) C (gd DX10_assume_0 23 rfl) (by decide) ?_
  refine g_iload_n C (gd DX10_assume_0 24 rfl) 1 rfl rfl ?_
  refine g_ishl C (gd DX10_assume_0 25 rfl) ?_
  refine g_ixor C (gd DX10_assume_0 26 rfl) ?_
  rw [xor_fact hs (by omega)]
  refine g_puti (ci := 10) (k := 6) C rfl (by decide) rfl lf_TestJudgeModel_343 hm2.1 (Or.inl rfl) rfl (gd DX10_assume_0 27 rfl) ?_
  have hm3 : mSh m (sI (kpH m h a) m 6 (nI (s ^^^ 2 ^ f))) := hm
  refine g_aload_n C (gd DX10_assume_0 28 rfl) 0 rfl rfl ?_
  refine g_aload_n C (gd DX10_assume_0 29 rfl) 0 rfl rfl ?_
  refine g_geti (ci := 10) (k := 6) C rfl (by decide) rfl lf_TestJudgeModel_343 hm3.1 (gd DX10_assume_0 30 rfl) ?_
  rw [show hI (sI (kpH m h a) m 6 (nI (s ^^^ 2 ^ f))) m 6 = nI (s ^^^ 2 ^ f) from by rw [hI_sI, if_pos ⟨rfl, rfl⟩]]
  have hlt := xor_lt hs (show f < 2 by omega)
  refine g_cS1 C [_] mX10_bits lm_TestJudgeModel_402 (e_m_bits (by omega)) hfl (by decide) (by decide) (by omega) (by omega) rfl rfl (Nat.le_of_ble_eq_true rfl) (gd DX10_assume_0 31 rfl) ?_
  refine g_cV1 (ci := 10) C [_] mX10_gives lm_TestJudgeModel_349 (by exact hm3.1) rfl rfl (e_m_gives hm3 _) hfl (by decide) (by decide) (by omega) (by omega) rfl rfl (Nat.le_of_ble_eq_true rfl) (gd DX10_assume_0 32 rfl) ?_
  exact g_iret C (by omega) (by omega) (Or.inr ⟨f, hf, rfl, Or.inr ⟨c23, rfl, mCh.of ⟨rfl, rfl, rfl, rfl⟩ (fun b j q1 q2 => by rw [hI_sI, if_neg (by omega)]) (by rw [hI_sI, if_neg (by omega), kpH_ne (by omega) (by omega)]; exact hnp.2) (by rw [hI_sI, if_pos ⟨rfl, rfl⟩]) (fun x k _ _ => by rw [show hI (sI (kpH m h a) m 6 (nI (s ^^^ 2 ^ f))) (m + 1) = hI h (m + 1) from by rw [hI_sI_ne (by omega), kpH_1]])⟩⟩) (gd DX10_assume_0 33 rfl)
theorem e_m_drop {nt na np nf a : Nat} {fw : Nat → Nat} (ok : mOK m h nt na np nf fw) (ha : a ≤ 8) (h7 : hI h m 7 = nI a) (p : Int32) :
    Ev w 2 0 0 yX10_drop cX10_drop 3 (some .int) [.ref m, .int p] h (fun r' h' => (¬ (0 ≤ p ∧ p ≤ nI np - 1) ∧ r' = some (.int (-1)) ∧ pQ m h h' 2) ∨ ∃ r, r < np ∧ p = nI r ∧ r' = some (.int (nI (np - 1))) ∧ mCh m h h' a (nI (np - 1)) (hI h m 6) (fun x k => if r ≤ x ∧ x + 1 < np then gRec (hI h (m + 1)) (x + 1) k else gRec (hI h (m + 1)) x k)) := by
  obtain ⟨hm, hnt, hna, hnp, hF, hw⟩ := ok
  refine g_start (by decide) (Nat.le_of_ble_eq_true rfl) [(0, _), (1, _)] rfl (fun z hfl C => ?_)
  refine g_aload_n C (gd DX10_drop_0 0 rfl) 0 rfl rfl ?_
  refine g_iload_n C (gd DX10_drop_0 1 rfl) 1 rfl rfl ?_
  refine g_cV1 (ci := 10) C [_] mX10_isProgram lm_TestJudgeModel_116 (by exact hm.1) rfl rfl (e_m_isProgram hm _) hfl (by decide) (by decide) (by omega) (by omega) rfl rfl (Nat.le_of_ble_eq_true rfl) (gd DX10_drop_0 2 rfl) ?_
  rw [hnp.2]
  by_cases hp : 0 ≤ p ∧ p ≤ nI np - 1
  rotate_left
  · rw [b1_f hp]
    refine g_if_ne C 14 (gd DX10_drop_0 3 rfl) (by decide) (fun c5 => ?_) (fun c5 => ?_)
    · exact absurd rfl c5
    · refine g_aload_n C (gd DX10_drop_0 4 rfl) 0 rfl rfl ?_
      refine g_iconst (v := 2) C (gd DX10_drop_0 5 rfl) (by decide) ?_
      refine g_cV1 (ci := 10) C [_] mX10_refuse lm_TestJudgeModel_331 (by exact hm.1) rfl rfl (e_m_refuse hm _) hfl (by decide) (by decide) (by omega) (by omega) rfl rfl (Nat.le_of_ble_eq_true rfl) (gd DX10_drop_0 6 rfl) ?_
      exact g_iret C (by omega) (by omega) (Or.inl ⟨hp, rfl, (mKp.rf m h).q 2⟩) (gd DX10_drop_0 7 rfl)
  rw [b1_t hp]
  refine g_if_ne C 14 (gd DX10_drop_0 3 rfl) (by decide) (fun c5 => ?_) (fun c5 => ?_)
  rotate_left
  · exact absurd c5 (by decide)
  obtain ⟨r, hr, rfl⟩ := below_of (by omega) hp
  have hnp8 := hnp.1
  generalize hQ : (gQ z w 0 0 _) = Q
  have loop : ∀ y i ρ, i + 1 + y = np → r ≤ i → (∀ x k, k < 307 → gRec ρ x k = if r ≤ x ∧ x < i then gRec (hI h (m + 1)) (x + 1) k else gRec (hI h (m + 1)) x k) → GW z w 3 Q 0 0 20 [(0, .ref m), (1, .int (nI r)), (2, .int (nI i))] [] (sF (kpH m h a) (m + 1) ρ) := by
    intro y
    induction y with
    | zero =>
      intro i ρ hi hri hρ
      have hm2 : mSh m (sF (kpH m h a) (m + 1) ρ) := hm
      have e4 : hI (sF (kpH m h a) (m + 1) ρ) m 4 = nI np := by rw [hI_sF_ne (by omega), kpH_ne (by omega) (by omega)]; exact hnp.2
      refine g_iload_n C (gd DX10_drop_0 12 rfl) 2 rfl rfl ?_
      refine g_iconst (v := 1) C (gd DX10_drop_0 13 rfl) (by decide) ?_
      refine g_iadd C (gd DX10_drop_0 14 rfl) ?_
      refine g_aload_n C (gd DX10_drop_0 15 rfl) 0 rfl rfl ?_
      refine g_geti (ci := 10) (k := 4) C rfl (by decide) rfl lf_TestJudgeModel_109 hm2.1 (gd DX10_drop_0 16 rfl) ?_
      rw [e4, show nI i + 1 = nI (i + 1) from inc1 i]
      refine g_icmp_ge C 48 (gd DX10_drop_0 17 rfl) (by decide) (fun c27 => ?_) (fun c27 => ?_)
      · refine g_aload_n C (gd DX10_drop_0 30 rfl) 0 rfl rfl ?_
        refine g_dup C (gd DX10_drop_0 31 rfl) rfl ?_
        refine g_geti (ci := 10) (k := 4) C rfl (by decide) rfl lf_TestJudgeModel_109 hm2.1 (gd DX10_drop_0 32 rfl) ?_
        rw [e4]
        refine g_iconst (v := 1) C (gd DX10_drop_0 33 rfl) (by decide) ?_
        refine g_isub C (gd DX10_drop_0 34 rfl) ?_
        refine g_puti (ci := 10) (k := 4) C rfl (by decide) rfl lf_TestJudgeModel_109 hm2.1 (Or.inl rfl) rfl (gd DX10_drop_0 35 rfl) ?_
        rw [show nI np - 1 = nI (np - 1) from nx_sub (b := 1) rfl rfl (by omega)]
        have hm3 : mSh m (sI (sF (kpH m h a) (m + 1) ρ) m 4 (nI (np - 1))) := hm
        refine g_aload_n C (gd DX10_drop_0 36 rfl) 0 rfl rfl ?_
        refine g_aload_n C (gd DX10_drop_0 37 rfl) 0 rfl rfl ?_
        refine g_geti (ci := 10) (k := 4) C rfl (by decide) rfl lf_TestJudgeModel_109 hm3.1 (gd DX10_drop_0 38 rfl) ?_
        rw [show hI (sI (sF (kpH m h a) (m + 1) ρ) m 4 (nI (np - 1))) m 4 = nI (np - 1) from by rw [hI_sI, if_pos ⟨rfl, rfl⟩]]
        refine g_cV1 (ci := 10) C [_] mX10_gives lm_TestJudgeModel_349 (by exact hm3.1) rfl rfl (e_m_gives hm3 _) hfl (by decide) (by decide) (by omega) (by omega) rfl rfl (Nat.le_of_ble_eq_true rfl) (gd DX10_drop_0 39 rfl) ?_
        rw [← hQ]
        exact g_iret C (by omega) (by omega) (Or.inr ⟨r, hr, rfl, rfl, mCh.of ⟨rfl, rfl, rfl, rfl⟩ (fun b j q1 q2 => by rw [hI_sI, if_neg (by omega), hI_sF_ne (by omega)]) (by rw [hI_sI, if_pos ⟨rfl, rfl⟩]) (by rw [hI_sI, if_neg (by omega), hI_sF_ne (by omega), kpH_ne (by omega) (by omega)]) (fun x k _ hk => by rw [hI_sI_ne (by omega), hI_sF_eq, hρ x k hk]; exact ite_iff (by omega))⟩) (gd DX10_drop_0 40 rfl)
      · exact absurd (nI_le (a := np) (b := i + 1) (by omega) (by omega)) c27
    | succ y ih =>
      intro i ρ hi hri hρ
      have hm2 : mSh m (sF (kpH m h a) (m + 1) ρ) := hm
      have e4 : hI (sF (kpH m h a) (m + 1) ρ) m 4 = nI np := by rw [hI_sF_ne (by omega), kpH_ne (by omega) (by omega)]; exact hnp.2
      refine g_iload_n C (gd DX10_drop_0 12 rfl) 2 rfl rfl ?_
      refine g_iconst (v := 1) C (gd DX10_drop_0 13 rfl) (by decide) ?_
      refine g_iadd C (gd DX10_drop_0 14 rfl) ?_
      refine g_aload_n C (gd DX10_drop_0 15 rfl) 0 rfl rfl ?_
      refine g_geti (ci := 10) (k := 4) C rfl (by decide) rfl lf_TestJudgeModel_109 hm2.1 (gd DX10_drop_0 16 rfl) ?_
      rw [e4, show nI i + 1 = nI (i + 1) from inc1 i]
      refine g_icmp_ge C 48 (gd DX10_drop_0 17 rfl) (by decide) (fun c27 => ?_) (fun c27 => ?_)
      · exact absurd c27 (nI_ge (a := i + 1) (b := np) (by omega) (by omega))
      · refine g_aload_n C (gd DX10_drop_0 18 rfl) 0 rfl rfl ?_
        refine g_iconst (v := 0) C (gd DX10_drop_0 19 rfl) (by decide) ?_
        refine g_iload_n C (gd DX10_drop_0 20 rfl) 2 rfl rfl ?_
        refine g_iadd C (gd DX10_drop_0 21 rfl) ?_
        refine g_iconst (v := 1) C (gd DX10_drop_0 22 rfl) (by decide) ?_
        refine g_iadd C (gd DX10_drop_0 23 rfl) ?_
        refine g_iconst (v := 0) C (gd DX10_drop_0 24 rfl) (by decide) ?_
        refine g_iload_n C (gd DX10_drop_0 25 rfl) 2 rfl rfl ?_
        refine g_iadd C (gd DX10_drop_0 26 rfl) ?_
        rw [show (0 : Int32) + nI i = nI i from by simp, show nI i + 1 = nI (i + 1) from inc1 i]
        refine g_cV0 (v := .null) (ci := 10) C [_, _] mX10_copies lm_TestJudgeModel_246 (by exact hm2.1) rfl rfl (r_copies (h := kpH m h a) hm (r := i + 1) (t := i) (by omega) (by omega) (by omega)) hfl (by decide) (by decide) (by omega) (by omega) rfl rfl (Nat.le_of_ble_eq_true rfl) (gd DX10_drop_0 27 rfl) ?_
        refine g_iinc (lv' := [(0, _), (1, _), (2, _)]) C (gd DX10_drop_0 28 rfl) 2 [1, 2, 0] rfl rfl (by decide) rfl ?_
        refine g_goto (tgt := 20) C (gd DX10_drop_0 29 rfl) (by decide) ?_
        refine GW.cast (by rw [inc1]) rfl rfl (ih (i + 1) _ (by omega) (by omega) (fun x k hk => ?_))
        by_cases e : x = i
        · rw [e, gRec_pRec hk, hρ _ _ hk, if_neg (by omega), if_pos (by omega)]
        · rw [gRec_pRec_ne hk e, hρ _ _ hk]
          exact ite_iff (by omega)
  refine g_aload_n C (gd DX10_drop_0 8 rfl) 0 rfl rfl ?_
  refine g_cV0 (v := .null) (ci := 10) C [] mX10_keeps_ lm_TestJudgeModel_496 (by exact hm.1) rfl rfl (r_keeps_ hm ha h7) hfl (by decide) (by decide) (by omega) (by omega) rfl rfl (Nat.le_of_ble_eq_true rfl) (gd DX10_drop_0 9 rfl) ?_
  have hm2 : mSh m (kpH m h a) := hm
  refine g_iload_n C (gd DX10_drop_0 10 rfl) 1 rfl rfl ?_
  refine g_istore_n (lv' := [(0, _), (1, _), (2, _)]) C (gd DX10_drop_0 11 rfl) [1, 2, 0] rfl (by decide) rfl ?_
  refine GW.cast rfl rfl (sF_self (kpH m h a) (m + 1)).symm (loop (np - 1 - r) r _ (by omega) (by omega) (fun x k _ => ?_))
  rw [kpH_1, if_neg (by omega)]
theorem e_m_swaps {nt na np nf : Nat} {fw : Nat → Nat} (ok : mOK m h nt na np nf fw) (p o : Int32) :
    Ev w 6 0 0 yX10_swaps cX10_swaps 3 (some .int) [.ref m, .int p, .int o] h (fun r' h' => (¬ ((0 ≤ p ∧ p ≤ nI np - 1) ∧ (0 ≤ o ∧ o ≤ nI np - 1)) ∧ r' = some (.int (-1)) ∧ pQ m h h' 2) ∨ ∃ r q, r < np ∧ q < np ∧ p = nI r ∧ o = nI q ∧ ((6 < wt (mPr m h r) + wt (mPr m h q) ∧ r' = some (.int (-1)) ∧ pQ m h h' 3) ∨ (wt (mPr m h r) + wt (mPr m h q) ≤ 6 ∧ (r' = some (.int 1) ∧ kEq (pP (hI h m 2) (hI h m 3) (hI h m 6) (mFc m h) nf (jnR m h r q) (jnR m h q r)) ∨ r' = some (.int 0) ∧ ¬ kEq (pP (hI h m 2) (hI h m 3) (hI h m 6) (mFc m h) nf (jnR m h r q) (jnR m h q r))) ∧ pQ m h h' 0))) := by
  obtain ⟨hm, hnt, hna, hnp, hF, hw⟩ := ok
  refine g_start (by decide) (Nat.le_of_ble_eq_true rfl) [(0, _), (1, _), (2, _)] rfl (fun z hfl C => ?_)
  refine g_aload_n C (gd DX10_swaps_0 0 rfl) 0 rfl rfl ?_
  refine g_iload_n C (gd DX10_swaps_0 1 rfl) 1 rfl rfl ?_
  refine g_iload_n C (gd DX10_swaps_0 2 rfl) 2 rfl rfl ?_
  refine g_cV1 (ci := 10) C [_, _] mX10_areTwo lm_TestJudgeModel_434 (by exact hm.1) rfl rfl (e_m_areTwo hm _ _) hfl (by decide) (by decide) (by omega) (by omega) rfl rfl (Nat.le_of_ble_eq_true rfl) (gd DX10_swaps_0 3 rfl) ?_
  rw [hnp.2]
  by_cases hp : (0 ≤ p ∧ p ≤ nI np - 1) ∧ (0 ≤ o ∧ o ≤ nI np - 1)
  rotate_left
  · rw [b1_f hp]
    refine g_if_ne C 15 (gd DX10_swaps_0 4 rfl) (by decide) (fun c6 => ?_) (fun c6 => ?_)
    · exact absurd rfl c6
    · refine g_aload_n C (gd DX10_swaps_0 5 rfl) 0 rfl rfl ?_
      refine g_iconst (v := 2) C (gd DX10_swaps_0 6 rfl) (by decide) ?_
      refine g_cV1 (ci := 10) C [_] mX10_refuse lm_TestJudgeModel_331 (by exact hm.1) rfl rfl (e_m_refuse hm _) hfl (by decide) (by decide) (by omega) (by omega) rfl rfl (Nat.le_of_ble_eq_true rfl) (gd DX10_swaps_0 7 rfl) ?_
      exact g_iret C (by omega) (by omega) (Or.inl ⟨hp, rfl, (mKp.rf m h).q 2⟩) (gd DX10_swaps_0 8 rfl)
  rw [b1_t hp]
  refine g_if_ne C 15 (gd DX10_swaps_0 4 rfl) (by decide) (fun c6 => ?_) (fun c6 => ?_)
  rotate_left
  · exact absurd c6 (by decide)
  obtain ⟨r, hr, rfl⟩ := below_of (by omega) hp.1
  obtain ⟨q, hq, rfl⟩ := below_of (by omega) hp.2
  obtain ⟨wr, lr, hwr⟩ := hw r hr
  obtain ⟨wo, lo, hwo⟩ := hw q hq
  have t1 : wt (mPr m h r) = wr := wt_of ((mPr_0 m h r).trans hwr) (by omega)
  have t2 : wt (mPr m h q) = wo := wt_of ((mPr_0 m h q).trans hwo) (by omega)
  have a1 : hI h (m + 1) (307 * r + 0) = nI wr := hwr
  have a2 : hI h (m + 1) (307 * q + 0) = nI wo := hwo
  refine g_aload_n C (gd DX10_swaps_0 9 rfl) 0 rfl rfl ?_
  refine g_iconst (v := 0) C (gd DX10_swaps_0 10 rfl) (by decide) ?_
  refine g_iload_n C (gd DX10_swaps_0 11 rfl) 1 rfl rfl ?_
  refine g_iadd C (gd DX10_swaps_0 12 rfl) ?_
  refine g_iconst (v := 0) C (gd DX10_swaps_0 13 rfl) (by decide) ?_
  rw [show (0 : Int32) + nI r = nI r from by simp]
  refine g_cV1 (ci := 10) C [_, _] mX10_at lm_TestJudgeModel_131 (by exact hm.1) rfl rfl (e_m_at hm (r_ix r 0) (by omega)) hfl (by decide) (by decide) (by omega) (by omega) rfl rfl (Nat.le_of_ble_eq_true rfl) (gd DX10_swaps_0 14 rfl) ?_
  refine g_aload_n C (gd DX10_swaps_0 15 rfl) 0 rfl rfl ?_
  refine g_iconst (v := 0) C (gd DX10_swaps_0 16 rfl) (by decide) ?_
  refine g_iload_n C (gd DX10_swaps_0 17 rfl) 2 rfl rfl ?_
  refine g_iadd C (gd DX10_swaps_0 18 rfl) ?_
  refine g_iconst (v := 0) C (gd DX10_swaps_0 19 rfl) (by decide) ?_
  rw [show (0 : Int32) + nI q = nI q from by simp]
  refine g_cV1 (ci := 10) C [_, _] mX10_at lm_TestJudgeModel_131 (by exact hm.1) rfl rfl (e_m_at hm (r_ix q 0) (by omega)) hfl (by decide) (by decide) (by omega) (by omega) rfl rfl (Nat.le_of_ble_eq_true rfl) (gd DX10_swaps_0 20 rfl) ?_
  rw [a1, a2]
  refine g_iadd C (gd DX10_swaps_0 21 rfl) ?_
  refine g_bipush (v := 6) C (gd DX10_swaps_0 22 rfl) (by decide) ?_
  rw [nx_add (a := wr) (b := wo) rfl rfl]
  refine g_icmp_le C 43 (gd DX10_swaps_0 23 rfl) (by decide) (fun c34 => ?_) (fun c34 => ?_)
  rotate_left
  · refine g_aload_n C (gd DX10_swaps_0 24 rfl) 0 rfl rfl ?_
    refine g_iconst (v := 3) C (gd DX10_swaps_0 25 rfl) (by decide) ?_
    refine g_cV1 (ci := 10) C [_] mX10_refuse lm_TestJudgeModel_331 (by exact hm.1) rfl rfl (e_m_refuse hm _) hfl (by decide) (by decide) (by omega) (by omega) rfl rfl (Nat.le_of_ble_eq_true rfl) (gd DX10_swaps_0 26 rfl) ?_
    exact g_iret C (by omega) (by omega) (Or.inr ⟨r, q, hr, hq, rfl, rfl, Or.inl ⟨by rw [t1, t2]; exact ge_f (a := 6) (b := wr + wo) c34 (by omega) (by omega), rfl, (mKp.rf m h).q 3⟩⟩) (gd DX10_swaps_0 27 rfl)
  have hle : wr + wo ≤ 6 := ge_t (a := 6) (b := wr + wo) c34 (by omega) (by omega)
  refine g_aload_n C (gd DX10_swaps_0 28 rfl) 0 rfl rfl ?_
  refine g_iconst (v := 0) C (gd DX10_swaps_0 29 rfl) (by decide) ?_
  refine g_iload_n C (gd DX10_swaps_0 30 rfl) 1 rfl rfl ?_
  refine g_iadd C (gd DX10_swaps_0 31 rfl) ?_
  refine g_iconst (v := 0) C (gd DX10_swaps_0 32 rfl) (by decide) ?_
  refine g_iload_n C (gd DX10_swaps_0 33 rfl) 2 rfl rfl ?_
  refine g_iadd C (gd DX10_swaps_0 34 rfl) ?_
  refine g_bipush (v := 91) C (gd DX10_swaps_0 35 rfl) (by decide) ?_
  rw [show (0 : Int32) + nI r = nI r from by simp, show (0 : Int32) + nI q = nI q from by simp]
  refine g_cV0 (v := .null) (ci := 10) C [_, _, _] mX10_joins lm_TestJudgeModel_261 (by exact hm.1) rfl rfl (e_m_joins hm (x := r) (y := q) (t := 91) (by omega) (by omega) (by omega) (by omega) (by omega) hwr hwo (by omega)) hfl (by decide) (by decide) (by omega) (by omega) rfl rfl (Nat.le_of_ble_eq_true rfl) (gd DX10_swaps_0 36 rfl) ?_
  generalize hρ0 : hI h (m + 1) = ρ0 at *
  generalize hρ1 : pRec ρ0 91 (rJoin (gRec ρ0 r) (gRec ρ0 q) wr wo) = ρ1
  have g1 : ∀ x, x ≠ 91 → Ag (gRec ρ1 x) (gRec ρ0 x) := fun x hx k hk => by rw [← hρ1, gRec_pRec_ne hk hx]
  have g91 : Ag (gRec ρ1 91) (rJoin (gRec ρ0 r) (gRec ρ0 q) wr wo) := fun k hk => by rw [← hρ1, gRec_pRec hk]
  have w1 : gRec ρ1 r 0 = nI wr := by rw [g1 r (by omega) 0 (by omega)]; exact hwr
  have w2 : gRec ρ1 q 0 = nI wo := by rw [g1 q (by omega) 0 (by omega)]; exact hwo
  refine g_aload_n C (gd DX10_swaps_0 37 rfl) 0 rfl rfl ?_
  refine g_iconst (v := 0) C (gd DX10_swaps_0 38 rfl) (by decide) ?_
  refine g_iload_n C (gd DX10_swaps_0 39 rfl) 2 rfl rfl ?_
  refine g_iadd C (gd DX10_swaps_0 40 rfl) ?_
  refine g_iconst (v := 0) C (gd DX10_swaps_0 41 rfl) (by decide) ?_
  refine g_iload_n C (gd DX10_swaps_0 42 rfl) 1 rfl rfl ?_
  refine g_iadd C (gd DX10_swaps_0 43 rfl) ?_
  refine g_bipush (v := 92) C (gd DX10_swaps_0 44 rfl) (by decide) ?_
  rw [show (0 : Int32) + nI r = nI r from by simp, show (0 : Int32) + nI q = nI q from by simp]
  refine g_cV0 (v := .null) (ci := 10) C [_, _, _] mX10_joins lm_TestJudgeModel_261 (by exact hm.1) rfl rfl (r_joins hm (x := q) (y := r) (t := 92) (by omega) (by omega) (by omega) (by omega) (by omega) w2 w1 (by omega)) hfl (by decide) (by decide) (by omega) (by omega) rfl rfl (Nat.le_of_ble_eq_true rfl) (gd DX10_swaps_0 45 rfl) ?_
  generalize hρ2 : pRec ρ1 92 (rJoin (gRec ρ1 q) (gRec ρ1 r) wo wr) = ρ2
  have k0 : ∀ x, x < 90 → Ag (gRec ρ2 x) (gRec ρ0 x) := fun x hx k hk => by rw [← hρ2, gRec_pRec_ne hk (by omega), g1 x (by omega) k hk]
  have k91 : Ag (gRec ρ2 91) (rJoin (gRec ρ0 r) (gRec ρ0 q) wr wo) := fun k hk => by rw [← hρ2, gRec_pRec_ne hk (by omega), g91 k hk]
  have k92 : Ag (gRec ρ2 92) (rJoin (gRec ρ0 q) (gRec ρ0 r) wo wr) := fun k hk => by rw [← hρ2, gRec_pRec hk, rJoin_ag (g1 q (by omega)) (g1 r (by omega))]
  have kk : mKp m h (sF h (m + 1) ρ2) := mKp.of ⟨rfl, rfl, rfl, rfl⟩ (fun b j _ _ _ q4 => by rw [hI_sF_ne q4]) (fun x k hx hk => by rw [hI_sF_eq, hρ0]; exact k0 x (by omega) k hk)
  have hF2 := hF.kp kk
  have e91 : gRec (hI (sF h (m + 1) ρ2) (m + 1)) 91 0 = nI (wr + wo) := by rw [hI_sF_eq, k91 0 (by omega), rJoin_0]
  have e92 : gRec (hI (sF h (m + 1) ρ2) (m + 1)) 92 0 = nI (wo + wr) := by rw [hI_sF_eq, k92 0 (by omega), rJoin_0]
  refine g_aload_n C (gd DX10_swaps_0 46 rfl) 0 rfl rfl ?_
  refine g_bipush (v := 91) C (gd DX10_swaps_0 47 rfl) (by decide) ?_
  refine g_bipush (v := 92) C (gd DX10_swaps_0 48 rfl) (by decide) ?_
  refine g_aload_n C (gd DX10_swaps_0 49 rfl) 0 rfl rfl ?_
  refine g_geti (ci := 10) (k := 6) C rfl (by decide) rfl lf_TestJudgeModel_343 hm.1 (gd DX10_swaps_0 50 rfl) ?_
  rw [show hI (sF h (m + 1) ρ2) m 6 = hI h m 6 from by rw [hI_sF_ne (by omega)]]
  refine g_callV (ci := 10) C [_, _, _] mX10_lays lm_TestJudgeModel_390 (by exact hm.1) rfl rfl (r_lays (h := sF h (m + 1) ρ2) (r := 91) (o := 92) hm hF2 (by omega) (by omega) (by omega) (by omega) (by omega) (by omega) (hI h m 6) (wr := wr + wo) (wo := wo + wr) (by omega) (by omega) e91 e92) hfl (by decide) (by decide) (by omega) (by omega) rfl rfl (Nat.le_of_ble_eq_true rfl) (gd DX10_swaps_0 51 rfl) (fun r h2 hp => ?_)
  obtain ⟨rfl, hl⟩ := hp
  have hk2 := kk.tr (mKp_lay hl)
  obtain ⟨N, hL, hU, hf, hrest⟩ := hl
  have g := hL.gok
  have hm2 : mSh m h2 := hm.fr hf
  have hLP := hL.ag (kOf_ag hF2 (hI h m 6) (by omega) (by omega) (by omega) (by omega) (show wr + wo ≤ 6 by omega) (show wo + wr ≤ 6 by omega) e91 e92)
  have eP : pP (hI (sF h (m + 1) ρ2) m 2) (hI (sF h (m + 1) ρ2) m 3) (hI h m 6) (mFc m (sF h (m + 1) ρ2)) nf (mPr m (sF h (m + 1) ρ2) 91) (mPr m (sF h (m + 1) ρ2) 92) = pP (hI h m 2) (hI h m 3) (hI h m 6) (mFc m h) nf (jnR m h r q) (jnR m h q r) := by
    have j1 : mPr m (sF h (m + 1) ρ2) 91 = jnR m h r q := by
      unfold mPr
      rw [hI_sF_eq]
      exact jnR_ag (by rw [hρ0]; exact hwr) (by rw [hρ0]; exact hwo) lr lo (by rw [hρ0]; exact k91)
    have j2 : mPr m (sF h (m + 1) ρ2) 92 = jnR m h q r := by
      unfold mPr
      rw [hI_sF_eq]
      exact jnR_ag (by rw [hρ0]; exact hwo) (by rw [hρ0]; exact hwr) lo lr (by rw [hρ0]; exact k92)
    unfold pP
    rw [j1, j2, kk.2.1 2 (by omega) (by omega) (by omega), kk.2.1 3 (by omega) (by omega) (by omega), fbA_cg (fun f hf => mFc_kp kk (by have := hF.1; omega)) nf (Nat.le_refl _)]
  rw [eP] at hLP
  show GW z w 3 _ 0 0 _ _ [] _
  refine g_aload_n C (gd DX10_swaps_0 52 rfl) 0 rfl rfl ?_
  refine g_aload_n C (gd DX10_swaps_0 53 rfl) 0 rfl rfl ?_
  refine g_callV (ci := 10) C [] mX10_parted lm_TestJudgeModel_431 (by exact hm2.1) rfl rfl (e_m_parted hm2 g.1 g.2.1) hfl (by decide) (by decide) (by omega) (by omega) rfl rfl (Nat.le_of_ble_eq_true rfl) (gd DX10_swaps_0 54 rfl) (fun r h2 hp => ?_)
  obtain ⟨rfl, hp⟩ := hp
  rcases hp with ⟨s, hs, rfl, hs2, -⟩ | ⟨rfl, hs2⟩
  · show GW z w 3 _ 0 0 _ _ [.int (nI s), .ref m] _
    have hg1 := g.1
    refine g_iconst (v := -1) C (gd DX10_swaps_0 55 rfl) (by decide) ?_
    refine g_icmp_ne C 92 (gd DX10_swaps_0 56 rfl) (by decide) (fun c85 => ?_) (fun c85 => ?_)
    · refine g_iconst (v := 0) C (gd DX10_swaps_0 59 rfl) (by decide) ?_
      refine g_cV1 (ci := 10) C [_] mX10_gives lm_TestJudgeModel_349 (by exact hm2.1) rfl rfl (e_m_gives hm2 _) hfl (by decide) (by decide) (by omega) (by omega) rfl rfl (Nat.le_of_ble_eq_true rfl) (gd DX10_swaps_1 0 rfl) ?_
      exact g_iret C (by omega) (by omega) (Or.inr ⟨r, q, hr, hq, rfl, rfl, Or.inr ⟨by omega, Or.inr ⟨rfl, fun x => hs2 (hLP.eq_iff.mp x s hs)⟩, hk2.q 0⟩⟩) (gd DX10_swaps_1 1 rfl)
    · exact absurd c85 (nI_m1 (by omega))
  · show GW z w 3 _ 0 0 _ _ [.int (-1), .ref m] _
    refine g_iconst (v := -1) C (gd DX10_swaps_0 55 rfl) (by decide) ?_
    refine g_icmp_ne C 92 (gd DX10_swaps_0 56 rfl) (by decide) (fun c85 => ?_) (fun c85 => ?_)
    · exact absurd rfl c85
    · refine g_iconst (v := 1) C (gd DX10_swaps_0 57 rfl) (by decide) ?_
      refine g_goto (tgt := 93) C (gd DX10_swaps_0 58 rfl) (by decide) ?_
      refine g_cV1 (ci := 10) C [_] mX10_gives lm_TestJudgeModel_349 (by exact hm2.1) rfl rfl (e_m_gives hm2 _) hfl (by decide) (by decide) (by omega) (by omega) rfl rfl (Nat.le_of_ble_eq_true rfl) (gd DX10_swaps_1 0 rfl) ?_
      exact g_iret C (by omega) (by omega) (Or.inr ⟨r, q, hr, hq, rfl, rfl, Or.inr ⟨by omega, Or.inl ⟨rfl, hLP.eq_iff.mpr hs2⟩, hk2.q 0⟩⟩) (gd DX10_swaps_1 1 rfl)
end M45
