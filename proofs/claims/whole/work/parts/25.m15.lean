/-! classes of states by how they go on: classAt, goAlike, hashOf, parts -/
theorem sI_sF_other {h : HS} {a b i : Nat} {f : Nat → Int32} {v : Int32} (hab : a ≠ b) : sI (sF h b f) a i v = sF (sI h a i v) b f := by
  unfold sI sF
  refine Prod.ext ?_ rfl
  funext c j
  show (if c = a ∧ j = i then v else if c = b then f j else h.1 c j) = if c = b then f j else if c = a ∧ j = i then v else h.1 c j
  by_cases e1 : c = b
  · subst e1
    rw [if_neg (fun z => hab z.1.symm)]
    simp
  · simp [e1]
theorem uNx_congr {m : Nat} {h h1 : HS} (e7 : hI h1 (m + 7) = hI h (m + 7)) (e13 : hI h1 (m + 13) = hI h (m + 13)) (e : Nat) : uNx m h1 e = uNx m h e := by unfold uNx; rw [e7, e13]
/-- the class behind a letter; none -/
def cAt (m : Nat) (h : HS) (s k : Nat) : Int32 := if uNx m h (24 * s + k) = -1 then -1 else hI h (m + 20) (uNx m h (24 * s + k)).toNatClampNeg
theorem cAt_congr {m : Nat} {h h1 : HS} (e7 : hI h1 (m + 7) = hI h (m + 7)) (e13 : hI h1 (m + 13) = hI h (m + 13)) (e20 : hI h1 (m + 20) = hI h (m + 20)) (s k : Nat) : cAt m h1 s k = cAt m h s k := by unfold cAt; rw [uNx_congr e7 e13, e20]
def alk (m : Nat) (h : HS) (s t : Nat) : Prop := hI h (m + 20) s = hI h (m + 20) t ∧ ∀ k, k < 24 → cAt m h s k = cAt m h t k
theorem alk_congr {m : Nat} {h h1 : HS} (e7 : hI h1 (m + 7) = hI h (m + 7)) (e13 : hI h1 (m + 13) = hI h (m + 13)) (e20 : hI h1 (m + 20) = hI h (m + 20)) (s t : Nat) : alk m h1 s t = alk m h s t := by
  unfold alk
  rw [e20]
  simp only [cAt_congr e7 e13 e20]
/-- what hashOf gathers -/
def hac (m : Nat) (h : HS) (s : Nat) : Nat → Int64
  | 0 => (hI h (m + 20) s).toInt64 + 7
  | k + 1 => hac m h s k * -7046029254386353131 + (cAt m h s k).toInt64
theorem hac_alk {m : Nat} {h : HS} {s t : Nat} (ha : alk m h s t) : ∀ k, k ≤ 24 → hac m h s k = hac m h t k := by
  intro k
  induction k with
  | zero => intro _; unfold hac; rw [ha.1]
  | succ k ih => intro hk; unfold hac; rw [ih (by omega), ha.2 k (by omega)]
theorem hac_congr {m : Nat} {h h1 : HS} (e7 : hI h1 (m + 7) = hI h (m + 7)) (e13 : hI h1 (m + 13) = hI h (m + 13)) (e20 : hI h1 (m + 20) = hI h (m + 20)) (s : Nat) : ∀ k, hac m h1 s k = hac m h s k := by
  intro k
  induction k with
  | zero => unfold hac; rw [e20]
  | succ k ih => unfold hac; rw [ih, cAt_congr e7 e13 e20]
/-- the graph that is laid: states, goOn -/
def GOk (m : Nat) (h : HS) (N : Nat) : Prop := N ≤ 16400 ∧ hI h m 42 = nI N ∧ ∀ e, e < 24 * N → hI h (m + 7) e = -1 ∨ ∃ j, j < N ∧ hI h (m + 7) e = nI j
theorem GOk.congr {m : Nat} {h h1 : HS} {N : Nat} (g : GOk m h N) (e42 : hI h1 m 42 = hI h m 42) (e7 : hI h1 (m + 7) = hI h (m + 7)) : GOk m h1 N := by
  unfold GOk
  rw [e42, e7]
  exact g
theorem uNx_cases {m : Nat} {h : HS} {N s k : Nat} (g : GOk m h N) (hs : s < N) (hk : k < 24) : uNx m h (24 * s + k) = -1 ∨ ∃ j, j < N ∧ uNx m h (24 * s + k) = nI j ∧ hI h (m + 7) (24 * s + k) = nI j ∧ ¬ hI h (m + 13) j = 0 := by
  unfold uNx
  rcases g.2.2 (24 * s + k) (by omega) with q | ⟨j, hj, q⟩
  · left; rw [if_pos q]
  · have hne : ¬ nI j = -1 := fun z => by
      have := congrArg Int32.toInt z
      rw [nI_toInt (by have := g.1; omega)] at this
      simp at this
    rw [q, if_neg hne, nI_clamp (by have := g.1; omega)]
    by_cases e : hI h (m + 13) j = 0
    · left; rw [if_pos e]
    · right; exact ⟨j, hj, by rw [if_neg e], rfl, e⟩
theorem nI_m1 {j : Nat} (h : j < 20000) : ¬ nI j = -1 := fun z => by
  have := congrArg Int32.toInt z
  rw [nI_toInt (by omega)] at this
  simp at this
section M15
variable {w : gD} {m : Nat} {h : HS}
theorem e_m_classAt (hm : mSh m h) {N s k : Nat} (g : GOk m h N) (hs : s < N) (hk : k < 24) : EvF w 1 0 0 yX10_classAt cX10_classAt 4 (some .int) [.ref m, .int (nI s), .int (nI k)] h (some (.int (cAt m h s k))) h := by
  refine g_start (by decide) (Nat.le_of_ble_eq_true rfl) [(0, _), (1, _), (2, _)] rfl (fun z hfl C => ?_)
  have hg1 := g.1
  refine g_aload_n C (gd DX10_classAt_0 0 rfl) 0 rfl rfl ?_
  refine g_iload_n C (gd DX10_classAt_0 1 rfl) 1 rfl rfl ?_
  refine g_iload_n C (gd DX10_classAt_0 2 rfl) 2 rfl rfl ?_
  refine g_cV1 (ci := 10) C [_, _] mX10_usefulNext lm_TestJudgeModel_399 (by exact hm.1) rfl rfl (e_m_usefulNext hm g.1 hs hk g.2.2) hfl (by decide) (by decide) (by omega) (by omega) rfl rfl (Nat.le_of_ble_eq_true rfl) (gd DX10_classAt_0 3 rfl) ?_
  refine g_istore_n (lv' := [(0, _), (1, _), (2, _), (3, _)]) C (gd DX10_classAt_0 4 rfl) [1, 2, 3, 0] rfl (by decide) rfl ?_
  refine g_iload_n C (gd DX10_classAt_0 5 rfl) 3 rfl rfl ?_
  refine g_iconst (v := -1) C (gd DX10_classAt_0 6 rfl) (by decide) ?_
  refine g_icmp_ne C 16 (gd DX10_classAt_0 7 rfl) (by decide) (fun c9 => ?_) (fun c9 => ?_)
  · rcases uNx_cases g hs hk with q | ⟨j, hj, q, -, -⟩
    · exact absurd q c9
    · rw [q]
      refine g_aload_n C (gd DX10_classAt_0 10 rfl) 0 rfl rfl ?_
      refine g_getr (ci := 10) (k := 49) C rfl (by decide) rfl lf_TestJudgeModel_81 hm.1 (hm.2 49 20 12 16500 rfl).1 (gd DX10_classAt_0 11 rfl) ?_
      refine g_iload_n C (gd DX10_classAt_0 12 rfl) 3 rfl rfl ?_
      refine g_iaj (j := j) C (hm.2 49 20 12 16500 rfl).2.1 (hm.2 49 20 12 16500 rfl).2.2 (by decide) rfl (by omega) (gd DX10_classAt_0 13 rfl) ?_
      exact g_iret C (by omega) (by omega) ⟨by rw [cAt, if_neg c9, q, nI_clamp (by omega)], rfl⟩ (gd DX10_classAt_0 14 rfl)
  · refine g_iconst (v := -1) C (gd DX10_classAt_0 8 rfl) (by decide) ?_
    refine g_goto (tgt := 22) C (gd DX10_classAt_0 9 rfl) (by decide) ?_
    exact g_iret C (by omega) (by omega) ⟨by rw [cAt, if_pos c9], rfl⟩ (gd DX10_classAt_0 14 rfl)
theorem e_m_goAlike (hm : mSh m h) {N s t : Nat} (g : GOk m h N) (hs : s < N) (ht : t < N) : Ev w 2 0 0 yX10_goAlike cX10_goAlike 4 (some .boolean) [.ref m, .int (nI s), .int (nI t)] h (fun r' h' => h' = h ∧ ((alk m h s t ∧ r' = some (.int 1)) ∨ (¬ alk m h s t ∧ r' = some (.int 0)))) := by
  refine g_start (by decide) (Nat.le_of_ble_eq_true rfl) [(0, _), (1, _), (2, _)] rfl (fun z hfl C => ?_)
  have hg1 := g.1
  have key : hI h (m + 20) s = hI h (m + 20) t → ∀ n k, k + n = 24 → (∀ j, j < k → cAt m h s j = cAt m h t j) → GW z w 4 (gQ z w 0 0 (fun r' h'' => h'' = h ∧ ((alk m h s t ∧ r' = some (.int 1)) ∨ (¬ alk m h s t ∧ r' = some (.int 0))))) 0 0 19 [(0, .ref m), (1, .int (nI s)), (2, .int (nI t)), (3, .int (nI k))] [] h := by
    intro hc n
    induction n with
    | zero =>
      intro k hk ha
      refine g_iload_n C (gd DX10_goAlike_0 13 rfl) 3 rfl rfl ?_
      refine g_bipush (v := 24) C (gd DX10_goAlike_0 14 rfl) (by decide) ?_
      refine g_icmp_ge C 48 (gd DX10_goAlike_0 15 rfl) (by decide) (fun c22 => ?_) (fun c22 => ?_)
      · refine g_iconst (v := 1) C (gd DX10_goAlike_0 29 rfl) (by decide) ?_
        exact g_zret C (by decide) (by omega) (by omega) ⟨rfl, Or.inl ⟨⟨hc, fun j hj => ha j (by omega)⟩, rfl⟩⟩ (gd DX10_goAlike_0 30 rfl)
      · exact absurd (nI_le (a := 24) (b := k) (by omega) (by omega)) c22
    | succ n ih =>
      intro k hk ha
      refine g_iload_n C (gd DX10_goAlike_0 13 rfl) 3 rfl rfl ?_
      refine g_bipush (v := 24) C (gd DX10_goAlike_0 14 rfl) (by decide) ?_
      refine g_icmp_ge C 48 (gd DX10_goAlike_0 15 rfl) (by decide) (fun c22 => ?_) (fun c22 => ?_)
      · exact absurd c22 (nI_ge (a := k) (b := 24) (by omega) (by omega))
      · refine g_aload_n C (gd DX10_goAlike_0 16 rfl) 0 rfl rfl ?_
        refine g_iload_n C (gd DX10_goAlike_0 17 rfl) 1 rfl rfl ?_
        refine g_iload_n C (gd DX10_goAlike_0 18 rfl) 3 rfl rfl ?_
        refine g_cV1 (ci := 10) C [_, _] mX10_classAt lm_TestJudgeModel_443 (by exact hm.1) rfl rfl (e_m_classAt hm g hs (by omega)) hfl (by decide) (by decide) (by omega) (by omega) rfl rfl (Nat.le_of_ble_eq_true rfl) (gd DX10_goAlike_0 19 rfl) ?_
        refine g_aload_n C (gd DX10_goAlike_0 20 rfl) 0 rfl rfl ?_
        refine g_iload_n C (gd DX10_goAlike_0 21 rfl) 2 rfl rfl ?_
        refine g_iload_n C (gd DX10_goAlike_0 22 rfl) 3 rfl rfl ?_
        refine g_cV1 (ci := 10) C [_, _] mX10_classAt lm_TestJudgeModel_443 (by exact hm.1) rfl rfl (e_m_classAt hm g ht (by omega)) hfl (by decide) (by decide) (by omega) (by omega) rfl rfl (Nat.le_of_ble_eq_true rfl) (gd DX10_goAlike_0 23 rfl) ?_
        refine g_icmp_eq C 42 (gd DX10_goAlike_0 24 rfl) (by decide) (fun c37 => ?_) (fun c37 => ?_)
        · refine g_iinc (lv' := [(0, _), (1, _), (2, _), (3, _)]) C (gd DX10_goAlike_0 27 rfl) 3 [1, 2, 3, 0] rfl rfl (by decide) rfl ?_
          refine g_goto (tgt := 19) C (gd DX10_goAlike_0 28 rfl) (by decide) ?_
          refine GW.cast (by rw [inc1]) rfl rfl (ih (k + 1) (by omega) (fun j hj => ?_))
          by_cases e : j = k
          · subst e; exact c37
          · exact ha j (by omega)
        · refine g_iconst (v := 0) C (gd DX10_goAlike_0 25 rfl) (by decide) ?_
          exact g_zret C (by decide) (by omega) (by omega) ⟨rfl, Or.inr ⟨fun q => c37 (q.2 k (by omega)), rfl⟩⟩ (gd DX10_goAlike_0 26 rfl)
  refine g_aload_n C (gd DX10_goAlike_0 0 rfl) 0 rfl rfl ?_
  refine g_getr (ci := 10) (k := 49) C rfl (by decide) rfl lf_TestJudgeModel_81 hm.1 (hm.2 49 20 12 16500 rfl).1 (gd DX10_goAlike_0 1 rfl) ?_
  refine g_iload_n C (gd DX10_goAlike_0 2 rfl) 1 rfl rfl ?_
  refine g_iaj (j := s) C (hm.2 49 20 12 16500 rfl).2.1 (hm.2 49 20 12 16500 rfl).2.2 (by decide) rfl (by omega) (gd DX10_goAlike_0 3 rfl) ?_
  refine g_aload_n C (gd DX10_goAlike_0 4 rfl) 0 rfl rfl ?_
  refine g_getr (ci := 10) (k := 49) C rfl (by decide) rfl lf_TestJudgeModel_81 hm.1 (hm.2 49 20 12 16500 rfl).1 (gd DX10_goAlike_0 5 rfl) ?_
  refine g_iload_n C (gd DX10_goAlike_0 6 rfl) 2 rfl rfl ?_
  refine g_iaj (j := t) C (hm.2 49 20 12 16500 rfl).2.1 (hm.2 49 20 12 16500 rfl).2.2 (by decide) rfl (by omega) (gd DX10_goAlike_0 7 rfl) ?_
  refine g_icmp_eq C 17 (gd DX10_goAlike_0 8 rfl) (by decide) (fun c12 => ?_) (fun c12 => ?_)
  · refine g_iconst (v := 0) C (gd DX10_goAlike_0 11 rfl) (by decide) ?_
    refine g_istore_n (lv' := [(0, _), (1, _), (2, _), (3, _)]) C (gd DX10_goAlike_0 12 rfl) [1, 2, 3, 0] rfl (by decide) rfl ?_
    exact key c12 24 0 rfl (fun j hj => by omega)
  · refine g_iconst (v := 0) C (gd DX10_goAlike_0 9 rfl) (by decide) ?_
    exact g_zret C (by decide) (by omega) (by omega) ⟨rfl, Or.inr ⟨fun q => c12 q.1, rfl⟩⟩ (gd DX10_goAlike_0 10 rfl)
theorem e_m_hashOf (hm : mSh m h) {N s : Nat} (g : GOk m h N) (hs : s < N) : EvF w 2 0 0 yX10_hashOf cX10_hashOf 5 (some .int) [.ref m, .int (nI s)] h (some (.int (nI (hsN (hac m h s 24))))) h := by
  refine g_start (by decide) (Nat.le_of_ble_eq_true rfl) [(0, _), (1, _)] rfl (fun z hfl C => ?_)
  have hg1 := g.1
  have key : ∀ n k, k + n = 24 → GW z w 5 (gQ z w 0 0 (fun r' h'' => r' = some (.int (nI (hsN (hac m h s 24)))) ∧ h'' = h)) 0 0 15 [(0, .ref m), (1, .int (nI s)), (2, .long (hac m h s k)), (4, .int (nI k))] [] h := by
    intro n
    induction n with
    | zero =>
      intro k hk
      refine g_iload C (gd DX10_hashOf_0 10 rfl) 3 rfl ?_
      refine g_bipush (v := 24) C (gd DX10_hashOf_0 11 rfl) (by decide) ?_
      refine g_icmp_ge C 43 (gd DX10_hashOf_0 12 rfl) (by decide) (fun c19 => ?_) (fun c19 => ?_)
      · refine g_lload_n C (gd DX10_hashOf_0 25 rfl) 2 rfl rfl ?_
        refine g_ldc2 (v := -7046029254386353131) C (gd DX10_hashOf_0 26 rfl) lK_TestJudgeModel_355 ?_
        refine g_lmul C (gd DX10_hashOf_0 27 rfl) ?_
        refine g_bipush (v := 49) C (gd DX10_hashOf_0 28 rfl) (by decide) ?_
        refine g_lushr C (gd DX10_hashOf_0 29 rfl) ?_
        refine g_l2i C (gd DX10_hashOf_0 30 rfl) ?_
        exact g_iret C (by omega) (by omega) ⟨by rw [show k = 24 by omega, ← hsL_eq]; rfl, rfl⟩ (gd DX10_hashOf_0 31 rfl)
      · exact absurd (nI_le (a := 24) (b := k) (by omega) (by omega)) c19
    | succ n ih =>
      intro k hk
      refine g_iload C (gd DX10_hashOf_0 10 rfl) 3 rfl ?_
      refine g_bipush (v := 24) C (gd DX10_hashOf_0 11 rfl) (by decide) ?_
      refine g_icmp_ge C 43 (gd DX10_hashOf_0 12 rfl) (by decide) (fun c19 => ?_) (fun c19 => ?_)
      · exact absurd c19 (nI_ge (a := k) (b := 24) (by omega) (by omega))
      · refine g_lload_n C (gd DX10_hashOf_0 13 rfl) 2 rfl rfl ?_
        refine g_ldc2 (v := -7046029254386353131) C (gd DX10_hashOf_0 14 rfl) lK_TestJudgeModel_355 ?_
        refine g_lmul C (gd DX10_hashOf_0 15 rfl) ?_
        refine g_aload_n C (gd DX10_hashOf_0 16 rfl) 0 rfl rfl ?_
        refine g_iload_n C (gd DX10_hashOf_0 17 rfl) 1 rfl rfl ?_
        refine g_iload C (gd DX10_hashOf_0 18 rfl) 3 rfl ?_
        refine g_cV1 (ci := 10) C [_, _] mX10_classAt lm_TestJudgeModel_443 (by exact hm.1) rfl rfl (e_m_classAt hm g hs (by omega)) hfl (by decide) (by decide) (by omega) (by omega) rfl rfl (Nat.le_of_ble_eq_true rfl) (gd DX10_hashOf_0 19 rfl) ?_
        refine g_i2l C (gd DX10_hashOf_0 20 rfl) ?_
        refine g_ladd C (gd DX10_hashOf_0 21 rfl) ?_
        refine g_lstore_n (lv' := [(0, _), (1, _), (2, _), (4, _)]) C (gd DX10_hashOf_0 22 rfl) [1, 2, 0, 3] rfl (by decide) rfl ?_
        refine g_iinc (lv' := [(0, _), (1, _), (2, _), (4, _)]) C (gd DX10_hashOf_0 23 rfl) 3 [1, 2, 3, 0] rfl rfl (by decide) rfl ?_
        refine g_goto (tgt := 15) C (gd DX10_hashOf_0 24 rfl) (by decide) ?_
        exact GW.cast (by rw [inc1, hac]) rfl rfl (ih (k + 1) (by omega))
  refine g_aload_n C (gd DX10_hashOf_0 0 rfl) 0 rfl rfl ?_
  refine g_getr (ci := 10) (k := 49) C rfl (by decide) rfl lf_TestJudgeModel_81 hm.1 (hm.2 49 20 12 16500 rfl).1 (gd DX10_hashOf_0 1 rfl) ?_
  refine g_iload_n C (gd DX10_hashOf_0 2 rfl) 1 rfl rfl ?_
  refine g_iaj (j := s) C (hm.2 49 20 12 16500 rfl).2.1 (hm.2 49 20 12 16500 rfl).2.2 (by decide) rfl (by omega) (gd DX10_hashOf_0 3 rfl) ?_
  refine g_i2l C (gd DX10_hashOf_0 4 rfl) ?_
  refine g_ldc2 (v := 7) C (gd DX10_hashOf_0 5 rfl) lK_TestJudgeModel_446 ?_
  refine g_ladd C (gd DX10_hashOf_0 6 rfl) ?_
  refine g_lstore_n (lv' := [(0, _), (1, _), (2, _)]) C (gd DX10_hashOf_0 7 rfl) [1, 2, 0] rfl (by decide) rfl ?_
  refine g_iconst (v := 0) C (gd DX10_hashOf_0 8 rfl) (by decide) ?_
  refine g_istore (lv' := [(0, _), (1, _), (2, _), (4, _)]) C (gd DX10_hashOf_0 9 rfl) [1, 2, 3, 0] (by decide) rfl ?_
  exact key 24 0 rfl
end M15
/-- the table T holds the states of a list, by the hashes H -/
def PT (H : Nat → Nat) (T : Nat → Int32) (rp : List Nat) : Prop := (∀ i, i < 32768 → T i ≠ 0 → ∃ r, r ∈ rp ∧ T i = nI (r + 1)) ∧ (∀ i i', i < 32768 → i' < 32768 → T i ≠ 0 → T i = T i' → i = i') ∧ (∀ r, r ∈ rp → ∃ d, T ((H r + d) % 32768) = nI (r + 1) ∧ ∀ d', d' < d → T ((H r + d') % 32768) ≠ 0) ∧ ∀ r, r ∈ rp → r < 16400
theorem PT_0 {H : Nat → Nat} {T : Nat → Int32} (hz : ∀ i, i < 32768 → T i = 0) : PT H T [] := ⟨fun i hi h => absurd (hz i hi) h, fun i _ hi _ h => absurd (hz i hi) h, fun r h => (List.not_mem_nil h).elim, fun r h => (List.not_mem_nil h).elim⟩
theorem PT.free {H : Nat → Nat} {T : Nat → Int32} {rp : List Nat} (h : PT H T rp) (s : Nat) (hs : s < 32768) : ∃ d, d < 32768 ∧ T ((s + d) % 32768) = 0 := by
  have hfree : ∃ i, i < 32768 ∧ T i = 0 := by
    rcases Classical.em (∃ i, i < 32768 ∧ T i = 0) with q | q
    · exact q
    · exfalso
      obtain ⟨h2, h3, -, h5⟩ := h
      have hne : ∀ i, i < 32768 → T i ≠ 0 := fun i hi e => q ⟨i, hi, e⟩
      have := pigeon (fun i => (T i).toNatClampNeg - 1) 32768 16400 (fun i hi => by
          obtain ⟨r, hr, e⟩ := h2 i hi (hne i hi)
          have := h5 r hr
          show (T i).toNatClampNeg - 1 < 16400
          rw [e, nI_clamp (by omega)]; omega) (fun i i' hi hi' e => by
          obtain ⟨j, hj, e1⟩ := h2 i hi (hne i hi)
          obtain ⟨j', hj', e2⟩ := h2 i' hi' (hne i' hi')
          have a1 := h5 j hj
          have a2 := h5 j' hj'
          rw [e1, e2, nI_clamp (by omega), nI_clamp (by omega)] at e
          exact h3 i i' hi hi' (hne i hi) (by rw [e1, e2]; congr 1; omega))
      omega
  obtain ⟨i, hi, e⟩ := hfree
  by_cases q : s ≤ i
  · exact ⟨i - s, by omega, by rw [show (s + (i - s)) % 32768 = i by omega]; exact e⟩
  · exact ⟨i + 32768 - s, by omega, by rw [show (s + (i + 32768 - s)) % 32768 = i by omega]; exact e⟩
theorem PT.none {H : Nat → Nat} {T : Nat → Int32} {rp : List Nat} (h : PT H T rp) {s d : Nat} {E : Nat → Prop} (hE : ∀ r, E r → H r = H s) (h0 : T ((H s + d) % 32768) = 0) (hd : ∀ d', d' < d → ∀ r, T ((H s + d') % 32768) = nI (r + 1) → r ∈ rp → ¬ E r) : ∀ r, r ∈ rp → ¬ E r := by
  intro r hr e
  obtain ⟨d1, g1, g2⟩ := h.2.2.1 r hr
  rw [hE r e] at g1 g2
  rcases Nat.lt_trichotomy d1 d with q | q | q
  · exact hd d1 q r g1 hr e
  · subst q; rw [h0] at g1; exact nI_s_ne (by have := h.2.2.2 r hr; omega) g1.symm
  · exact g2 d q h0
theorem PT.add {H : Nat → Nat} {T : Nat → Int32} {rp : List Nat} (h : PT H T rp) {s d : Nat} (hs : s < 16400) (hn : ¬ s ∈ rp) (h0 : T ((H s + d) % 32768) = 0) (hd : ∀ d', d' < d → T ((H s + d') % 32768) ≠ 0) : PT H (upd T ((H s + d) % 32768) (nI (s + 1))) (rp ++ [s]) := by
  obtain ⟨h2, h3, h4, h5⟩ := h
  have hi0 : (H s + d) % 32768 < 32768 := Nat.mod_lt _ (by omega)
  generalize hi : (H s + d) % 32768 = i0 at *
  refine ⟨fun i hi1 hne => ?_, fun i i' hi1 hi2 hne e => ?_, fun r hr => ?_, fun r hr => ?_⟩
  · by_cases q : i = i0
    · subst q; exact ⟨s, List.mem_append_right _ (List.mem_singleton.mpr rfl), by rw [upd, if_pos rfl]⟩
    · rw [upd, if_neg q] at hne ⊢
      obtain ⟨j, g1, g2⟩ := h2 i hi1 hne
      exact ⟨j, List.mem_append_left _ g1, g2⟩
  · unfold upd at hne e
    by_cases q : i = i0 <;> by_cases q' : i' = i0
    · rw [q, q']
    · rw [if_pos q, if_neg q'] at e
      obtain ⟨j, g1, g2⟩ := h2 i' hi2 (by rw [← e]; exact nI_s_ne (by omega))
      rw [g2] at e
      have := (nI_eq (by omega) (by have := h5 j g1; omega)).mp e
      exact absurd (by rw [show s = j by omega]; exact g1) hn
    · rw [if_neg q] at hne e
      rw [if_pos q'] at e
      obtain ⟨j, g1, g2⟩ := h2 i hi1 hne
      rw [g2] at e
      have := (nI_eq (by have := h5 j g1; omega) (by omega)).mp e
      exact absurd (by rw [show s = j by omega]; exact g1) hn
    · rw [if_neg q] at hne e
      rw [if_neg q'] at e
      exact h3 i i' hi1 hi2 hne e
  · rcases List.mem_append.mp hr with q | q
    · obtain ⟨d1, g1, g2⟩ := h4 r q
      refine ⟨d1, ?_, fun d' hd' => ?_⟩
      · unfold upd
        rw [if_neg (fun z => by rw [z, h0] at g1; exact nI_s_ne (by have := h5 r q; omega) g1.symm)]
        exact g1
      · unfold upd
        split
        · exact nI_s_ne (by omega)
        · exact g2 d' hd'
    · rw [List.mem_singleton.mp q]
      refine ⟨d, by rw [hi, upd, if_pos rfl], fun d' hd' => ?_⟩
      unfold upd
      split
      · exact nI_s_ne (by omega)
      · exact hd d' hd'
  · rcases List.mem_append.mp hr with q | q
    · exact h5 r q
    · rw [List.mem_singleton.mp q]; exact hs
