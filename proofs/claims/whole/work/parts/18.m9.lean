/-! stateOf: a table of keys by their hashes, places tried one behind the other -/
theorem pigeon (f : Nat → Nat) : ∀ N n, (∀ i, i < N → f i < n) → (∀ i j, i < N → j < N → f i = f j → i = j) → N ≤ n := by
  intro N
  induction N generalizing f with
  | zero => intro n _ _; exact Nat.zero_le n
  | succ N ih =>
    intro n h1 h2
    have hn : 0 < n := by have := h1 0 (by omega); omega
    -- take the value of the last one away
    have key := ih (fun i => if f i < f N then f i else f i - 1) (n - 1) (fun i hi => by
        have a1 := h1 i (by omega)
        have a2 := h1 N (by omega)
        have a3 : f i ≠ f N := fun e => by have := h2 i N (by omega) (by omega) e; omega
        split <;> omega) (fun i j hi hj e => by
        have a3 : f i ≠ f N := fun e => by have := h2 i N (by omega) (by omega) e; omega
        have a4 : f j ≠ f N := fun e => by have := h2 j N (by omega) (by omega) e; omega
        refine h2 i j (by omega) (by omega) ?_
        split at e <;> split at e <;> omega)
    omega
def hsL (key : Int64) : Int32 := (((key * -7046029254386353131).toUInt64 >>> ((49 : Int32).toInt64.toUInt64 &&& Int64.toUInt64 63)).toInt64).toInt32
def hsN (key : Int64) : Nat := ((key * -7046029254386353131).toUInt64 >>> ((49 : Int32).toInt64.toUInt64 &&& Int64.toUInt64 63)).toNat
theorem hsN_lt (key : Int64) : hsN key < 32768 := by
  unfold hsN
  generalize (key * -7046029254386353131).toUInt64 = u
  have e : ((49 : Int32).toInt64.toUInt64 &&& Int64.toUInt64 63) = 49 := by decide
  rw [e, UInt64.toNat_shiftRight]
  have := u.toNat_lt
  have e2 : (UInt64.toNat 49) % 64 = 49 := by decide
  rw [e2, Nat.shiftRight_eq_div_pow]
  omega
theorem u_nI (u : UInt64) (h : u.toNat < 32768) : u.toInt64.toInt32 = nI u.toNat := by
  apply Int32.toBitVec_inj.mp
  apply BitVec.eq_of_toNat_eq
  rw [pk_tn (by omega)]
  show (u.toInt64.toInt32).toBitVec.toNat = u.toNat
  rw [Int64.toBitVec_toInt32, UInt64.toBitVec_toInt64, BitVec.signExtend_eq_setWidth_of_le _ (by omega), BitVec.toNat_setWidth]
  show u.toNat % 2 ^ 32 = u.toNat
  omega
theorem hsL_eq (key : Int64) : hsL key = nI (hsN key) := u_nI _ (hsN_lt key)
/-- the table T holds the n keys K -/
def HT (T : Nat → Int32) (K : Nat → Int64) (n : Nat) : Prop :=
  n ≤ 16500 ∧ (∀ i, i < 32768 → T i ≠ 0 → ∃ j, j < n ∧ T i = nI (j + 1)) ∧ (∀ i i', i < 32768 → i' < 32768 → T i ≠ 0 → T i = T i' → i = i') ∧
  (∀ j, j < n → ∃ d, T ((hsN (K j) + d) % 32768) = nI (j + 1) ∧ ∀ d', d' < d → T ((hsN (K j) + d') % 32768) ≠ 0) ∧ ∀ j j', j < n → j' < n → K j = K j' → j = j'
theorem HT_0 (K : Nat → Int64) : HT (fun _ => 0) K 0 := ⟨by omega, fun _ _ h => absurd rfl h, fun _ _ _ _ h => absurd rfl h, fun _ h => by omega, fun _ _ h => by omega⟩
theorem nI_s_ne {j : Nat} (h : j < 20000) : nI (j + 1) ≠ 0 := nI_ne0 (by omega) (by omega)
theorem HT.free {T : Nat → Int32} {K : Nat → Int64} {n : Nat} (h : HT T K n) : ∃ i, i < 32768 ∧ T i = 0 := by
  rcases Classical.em (∃ i, i < 32768 ∧ T i = 0) with q | q
  · exact q
  · exfalso
    obtain ⟨h1, h2, h3, -, -⟩ := h
    have hne : ∀ i, i < 32768 → T i ≠ 0 := fun i hi e => q ⟨i, hi, e⟩
    have := pigeon (fun i => (T i).toNatClampNeg - 1) 32768 n (fun i hi => by
        obtain ⟨j, hj, e⟩ := h2 i hi (hne i hi)
        show (T i).toNatClampNeg - 1 < n
        rw [e, nI_clamp (by omega)]; omega) (fun i i' hi hi' e => by
        obtain ⟨j, hj, e1⟩ := h2 i hi (hne i hi)
        obtain ⟨j', hj', e2⟩ := h2 i' hi' (hne i' hi')
        rw [e1, e2, nI_clamp (by omega), nI_clamp (by omega)] at e
        exact h3 i i' hi hi' (hne i hi) (by rw [e1, e2]; congr 1; omega))
    omega
/-- a free place from a hash on -/
theorem HT.free2 {T : Nat → Int32} {K : Nat → Int64} {n : Nat} (h : HT T K n) (s : Nat) (hs : s < 32768) : ∃ d, d < 32768 ∧ T ((s + d) % 32768) = 0 := by
  obtain ⟨i, hi, e⟩ := h.free
  by_cases q : s ≤ i
  · exact ⟨i - s, by omega, by rw [show (s + (i - s)) % 32768 = i by omega]; exact e⟩
  · exact ⟨i + 32768 - s, by omega, by rw [show (s + (i + 32768 - s)) % 32768 = i by omega]; exact e⟩
theorem HT.none {T : Nat → Int32} {K : Nat → Int64} {n : Nat} (h : HT T K n) {key : Int64} {d : Nat} (h0 : T ((hsN key + d) % 32768) = 0) (hd : ∀ d', d' < d → ∀ j, T ((hsN key + d') % 32768) = nI (j + 1) → j < n → K j ≠ key) : ∀ j, j < n → K j ≠ key := by
  intro j hj e
  obtain ⟨d1, g1, g2⟩ := h.2.2.2.1 j hj
  rw [e] at g1 g2
  rcases Nat.lt_trichotomy d1 d with q | q | q
  · exact hd d1 q j g1 hj e
  · subst q; rw [h0] at g1; exact nI_s_ne (by have := h.1; omega) g1.symm
  · exact g2 d q h0
theorem HT.add {T : Nat → Int32} {K : Nat → Int64} {n : Nat} (h : HT T K n) (hn : n < 16500) {key : Int64} {d : Nat} (h0 : T ((hsN key + d) % 32768) = 0) (hd : ∀ d', d' < d → T ((hsN key + d') % 32768) ≠ 0) (hno : ∀ j, j < n → K j ≠ key) : HT (upd T ((hsN key + d) % 32768) (nI (n + 1))) (vp_updL K n key) (n + 1) := by
  obtain ⟨h1, h2, h3, h4, h5⟩ := h
  have hi0 : (hsN key + d) % 32768 < 32768 := Nat.mod_lt _ (by omega)
  generalize hi : (hsN key + d) % 32768 = i0 at *
  refine ⟨by omega, fun i hi1 hne => ?_, fun i i' hi1 hi2 hne e => ?_, fun j hj => ?_, fun j j' hj hj' e => ?_⟩
  · by_cases q : i = i0
    · subst q; exact ⟨n, by omega, by rw [upd, if_pos rfl]⟩
    · rw [upd, if_neg q] at hne ⊢
      obtain ⟨j, g1, g2⟩ := h2 i hi1 hne
      exact ⟨j, by omega, g2⟩
  · unfold upd at hne e
    by_cases q : i = i0 <;> by_cases q' : i' = i0
    · rw [q, q']
    · rw [if_pos q, if_neg q'] at e
      obtain ⟨j, g1, g2⟩ := h2 i' hi2 (by rw [← e]; exact nI_s_ne (by omega))
      rw [g2] at e
      have := (nI_eq (by omega) (by omega)).mp e
      omega
    · rw [if_neg q] at hne e
      rw [if_pos q'] at e
      obtain ⟨j, g1, g2⟩ := h2 i hi1 hne
      rw [g2] at e
      have := (nI_eq (by omega) (by omega)).mp e
      omega
    · rw [if_neg q] at hne e
      rw [if_neg q'] at e
      exact h3 i i' hi1 hi2 hne e
  · by_cases q : j = n
    · subst q
      refine ⟨d, ?_, fun d' hd' => ?_⟩
      · rw [vp_updL, if_pos rfl, hi, upd, if_pos rfl]
      · rw [vp_updL, if_pos rfl]
        have := hd d' hd'
        unfold upd
        split
        · exact nI_s_ne (by omega)
        · exact this
    · obtain ⟨d1, g1, g2⟩ := h4 j (by omega)
      refine ⟨d1, ?_, fun d' hd' => ?_⟩
      · rw [vp_updL, if_neg q]
        unfold upd
        rw [if_neg (fun z => by rw [z, h0] at g1; exact nI_s_ne (by omega) g1.symm)]
        exact g1
      · rw [vp_updL, if_neg q]
        unfold upd
        split
        · exact nI_s_ne (by omega)
        · exact g2 d' hd'
  · unfold vp_updL at e
    by_cases q : j = n <;> by_cases q' : j' = n
    · omega
    · rw [if_pos q, if_neg q'] at e
      exact absurd e.symm (hno j' (by omega))
    · rw [if_neg q, if_pos q'] at e
      exact absurd e (hno j (by omega))
    · rw [if_neg q, if_neg q'] at e
      exact h5 j j' (by omega) (by omega) e
/-- the heap behind a new state: n the number, i the table's place -/
def newS (h : HS) (m n i : Nat) (key : Int64) (fr by0 dp : Int32) : HS := sI (sI (sI (sI (sI (sL h (m + 5) n key) (m + 10) n fr) (m + 11) n by0) (m + 12) n dp) m 42 (nI (n + 1))) (m + 6) i (nI (n + 1))
theorem lcmp_eq {x y : Int64} : lg_cmp x y = 0 ↔ x = y := by
  unfold lg_cmp
  constructor
  · intro h
    split at h
    · exact absurd h (by decide)
    · split at h
      · assumption
      · exact absurd h (by decide)
  · intro h
    subst h
    simp
section M9
variable {w : gD} {m : Nat} {h : HS}
theorem e_m_stateOf (hm : mSh m h) {n : Nat} (hT0 : HT (hI h (m + 6)) (hL h (m + 5)) n) (hn : hI h m 42 = nI n) (key : Int64) (by0 : Int32) {fr : Int32} (hfr : fr = -1 ∨ ∃ f, f < 16500 ∧ fr = nI f) (hroom : n < 16500) :
    Ev w 0 0 0 yX10_stateOf cX10_stateOf 6 (some .int) [.ref m, .long key, .int fr, .int by0] h (fun r h' => (∃ j, j < n ∧ hL h (m + 5) j = key ∧ r = some (.int (nI j)) ∧ h' = h) ∨ ((∀ j, j < n → hL h (m + 5) j ≠ key) ∧ r = some (.int (nI n)) ∧ ∃ i, i < 32768 ∧ h' = newS h m n i key fr by0 (if fr = -1 then 0 else hI h (m + 12) fr.toNatClampNeg + 1) ∧ HT (upd (hI h (m + 6)) i (nI (n + 1))) (vp_updL (hL h (m + 5)) n key) (n + 1))) := by
  refine g_start (by decide) (Nat.le_of_ble_eq_true rfl) [(0, _), (1, _), (3, _), (4, _)] rfl (fun z hfl C => ?_)
  have hnl := hT0.1
  -- a free place is found: the state is new
  have new : ∀ d, hI h (m + 6) ((hsN key + d) % 32768) = 0 → (∀ d', d' < d → hI h (m + 6) ((hsN key + d') % 32768) ≠ 0) → (∀ d', d' < d → ∀ j, hI h (m + 6) ((hsN key + d') % 32768) = nI (j + 1) → j < n → hL h (m + 5) j ≠ key) → GW z w 6 (gQ z w 0 0 (fun r' h'' => (∃ j, j < n ∧ hL h (m + 5) j = key ∧ r' = some (.int (nI j)) ∧ h'' = h) ∨ ((∀ j, j < n → hL h (m + 5) j ≠ key) ∧ r' = some (.int (nI n)) ∧ ∃ i, i < 32768 ∧ h'' = newS h m n i key fr by0 (if fr = -1 then 0 else hI h (m + 12) fr.toNatClampNeg + 1) ∧ HT (upd (hI h (m + 6)) i (nI (n + 1))) (vp_updL (hL h (m + 5)) n key) (n + 1)))) 0 0 63 [(0, .ref m), (1, .long key), (3, .int fr), (4, .int by0), (5, .int (nI ((hsN key + d) % 32768)))] [] h := by
    intro d h0 hd hk
    have hi0 : (hsN key + d) % 32768 < 32768 := Nat.mod_lt _ (by omega)
    have hno := hT0.none h0 hk
    have hadd := hT0.add hroom h0 hd hno
    generalize hi : (hsN key + d) % 32768 = i0 at *
    have fin : ∀ dp : Int32, dp = (if fr = -1 then 0 else hI h (m + 12) fr.toNatClampNeg + 1) → GW z w 6 (gQ z w 0 0 (fun r' h'' => (∃ j, j < n ∧ hL h (m + 5) j = key ∧ r' = some (.int (nI j)) ∧ h'' = h) ∨ ((∀ j, j < n → hL h (m + 5) j ≠ key) ∧ r' = some (.int (nI n)) ∧ ∃ i, i < 32768 ∧ h'' = newS h m n i key fr by0 (if fr = -1 then 0 else hI h (m + 12) fr.toNatClampNeg + 1) ∧ HT (upd (hI h (m + 6)) i (nI (n + 1))) (vp_updL (hL h (m + 5)) n key) (n + 1)))) 0 0 119 [(0, .ref m), (1, .long key), (3, .int fr), (4, .int by0), (5, .int (nI i0))] [.int dp, .int (nI n), .ref (m + 12)] (sI (sI (sL h (m + 5) n key) (m + 10) n fr) (m + 11) n by0) := by
      intro dp hdp
      have h42 : ∀ v : Int32, hI (sI (sI (sI (sL h (m + 5) n key) (m + 10) n fr) (m + 11) n by0) (m + 12) n v) m 42 = nI n := fun v => by
        simp only [hI_sI, hI_sL]
        rw [if_neg (by omega), if_neg (by omega), if_neg (by omega), hn]
      refine g_isj (j := n) C (hm.2 40 12 12 16500 rfl).2.1 (hm.2 40 12 12 16500 rfl).2.2 (by decide) rfl (by omega) (gd DX10_stateOf_1 11 rfl) ?_
      refine g_aload_n C (gd DX10_stateOf_1 12 rfl) 0 rfl rfl ?_
      refine g_dup C (gd DX10_stateOf_1 13 rfl) rfl ?_
      refine g_geti (ci := 10) (k := 42) C rfl (by decide) rfl lf_TestJudgeModel_357 hm.1 (gd DX10_stateOf_1 14 rfl) ?_
      rw [h42]
      refine g_iconst (v := 1) C (gd DX10_stateOf_1 15 rfl) (by decide) ?_
      refine g_iadd C (gd DX10_stateOf_1 16 rfl) ?_
      refine g_puti (ci := 10) (k := 42) C rfl (by decide) rfl lf_TestJudgeModel_357 hm.1 (Or.inl rfl) rfl (gd DX10_stateOf_1 17 rfl) ?_
      refine g_aload_n C (gd DX10_stateOf_1 18 rfl) 0 rfl rfl ?_
      refine g_getr (ci := 10) (k := 34) C rfl (by decide) rfl lf_TestJudgeModel_37 hm.1 (hm.2 34 6 12 32768 rfl).1 (gd DX10_stateOf_1 19 rfl) ?_
      refine g_iload C (gd DX10_stateOf_1 20 rfl) 4 rfl ?_
      refine g_aload_n C (gd DX10_stateOf_1 21 rfl) 0 rfl rfl ?_
      refine g_geti (ci := 10) (k := 42) C rfl (by decide) rfl lf_TestJudgeModel_357 hm.1 (gd DX10_stateOf_1 22 rfl) ?_
      refine g_isj (j := i0) C (hm.2 34 6 12 32768 rfl).2.1 (hm.2 34 6 12 32768 rfl).2.2 (by decide) rfl (by omega) (gd DX10_stateOf_1 23 rfl) ?_
      refine g_aload_n C (gd DX10_stateOf_1 24 rfl) 0 rfl rfl ?_
      refine g_geti (ci := 10) (k := 42) C rfl (by decide) rfl lf_TestJudgeModel_357 hm.1 (gd DX10_stateOf_1 25 rfl) ?_
      refine g_iconst (v := 1) C (gd DX10_stateOf_1 26 rfl) (by decide) ?_
      refine g_isub C (gd DX10_stateOf_1 27 rfl) ?_
      rw [show hI (sI (sI (sI (sI (sL h (m + 5) n key) (m + 10) n fr) (m + 11) n by0) (m + 12) n dp) m 42 (nI n + 1)) m 42 = nI (n + 1) by rw [hI_sI, if_pos ⟨rfl, rfl⟩]; exact nI_1 n]
      rw [show hI (sI (sI (sI (sI (sI (sL h (m + 5) n key) (m + 10) n fr) (m + 11) n by0) (m + 12) n dp) m 42 (nI n + 1)) (m + 6) i0 (nI (n + 1))) m 42 = nI (n + 1) by rw [hI_sI, if_neg (by omega), hI_sI, if_pos ⟨rfl, rfl⟩]; exact nI_1 n]
      rw [nI_pred]
      exact g_iret C (by omega) (by omega) (Or.inr ⟨hno, rfl, i0, hi0, by rw [newS, ← hdp, show nI n + 1 = nI (n + 1) from nI_1 n], hadd⟩) (gd DX10_stateOf_1 28 rfl)
    refine g_aload_n C (gd DX10_stateOf_0 38 rfl) 0 rfl rfl ?_
    refine g_getr (ci := 10) (k := 33) C rfl (by decide) rfl lf_TestJudgeModel_33 hm.1 (hm.2 33 5 13 16500 rfl).1 (gd DX10_stateOf_0 39 rfl) ?_
    refine g_aload_n C (gd DX10_stateOf_0 40 rfl) 0 rfl rfl ?_
    refine g_geti (ci := 10) (k := 42) C rfl (by decide) rfl lf_TestJudgeModel_357 hm.1 (gd DX10_stateOf_0 41 rfl) ?_
    rw [hn]
    refine g_lload_n C (gd DX10_stateOf_0 42 rfl) 1 rfl rfl ?_
    refine g_lsj (j := n) C (hm.2 33 5 13 16500 rfl).2.1 (hm.2 33 5 13 16500 rfl).2.2 (by decide) rfl (by omega) (gd DX10_stateOf_0 43 rfl) ?_
    refine g_aload_n C (gd DX10_stateOf_0 44 rfl) 0 rfl rfl ?_
    refine g_getr (ci := 10) (k := 38) C rfl (by decide) rfl lf_TestJudgeModel_50 hm.1 (hm.2 38 10 12 16500 rfl).1 (gd DX10_stateOf_0 45 rfl) ?_
    refine g_aload_n C (gd DX10_stateOf_0 46 rfl) 0 rfl rfl ?_
    refine g_geti (ci := 10) (k := 42) C rfl (by decide) rfl lf_TestJudgeModel_357 hm.1 (gd DX10_stateOf_0 47 rfl) ?_
    rw [show hI (sL h (m + 5) n key) m 42 = nI n from hn]
    refine g_iload_n C (gd DX10_stateOf_0 48 rfl) 2 rfl rfl ?_
    refine g_isj (j := n) C (hm.2 38 10 12 16500 rfl).2.1 (hm.2 38 10 12 16500 rfl).2.2 (by decide) rfl (by omega) (gd DX10_stateOf_0 49 rfl) ?_
    refine g_aload_n C (gd DX10_stateOf_0 50 rfl) 0 rfl rfl ?_
    refine g_getr (ci := 10) (k := 39) C rfl (by decide) rfl lf_TestJudgeModel_53 hm.1 (hm.2 39 11 12 16500 rfl).1 (gd DX10_stateOf_0 51 rfl) ?_
    refine g_aload_n C (gd DX10_stateOf_0 52 rfl) 0 rfl rfl ?_
    refine g_geti (ci := 10) (k := 42) C rfl (by decide) rfl lf_TestJudgeModel_357 hm.1 (gd DX10_stateOf_0 53 rfl) ?_
    rw [show hI (sI (sL h (m + 5) n key) (m + 10) n fr) m 42 = nI n by rw [hI_sI, if_neg (by omega)]; exact hn]
    refine g_iload C (gd DX10_stateOf_0 54 rfl) 3 rfl ?_
    refine g_isj (j := n) C (hm.2 39 11 12 16500 rfl).2.1 (hm.2 39 11 12 16500 rfl).2.2 (by decide) rfl (by omega) (gd DX10_stateOf_0 55 rfl) ?_
    refine g_aload_n C (gd DX10_stateOf_0 56 rfl) 0 rfl rfl ?_
    refine g_getr (ci := 10) (k := 40) C rfl (by decide) rfl lf_TestJudgeModel_56 hm.1 (hm.2 40 12 12 16500 rfl).1 (gd DX10_stateOf_0 57 rfl) ?_
    refine g_aload_n C (gd DX10_stateOf_0 58 rfl) 0 rfl rfl ?_
    refine g_geti (ci := 10) (k := 42) C rfl (by decide) rfl lf_TestJudgeModel_357 hm.1 (gd DX10_stateOf_0 59 rfl) ?_
    rw [show hI (sI (sI (sL h (m + 5) n key) (m + 10) n fr) (m + 11) n by0) m 42 = nI n by rw [hI_sI, if_neg (by omega), hI_sI, if_neg (by omega)]; exact hn]
    refine g_iload_n C (gd DX10_stateOf_1 0 rfl) 2 rfl rfl ?_
    refine g_iconst (v := -1) C (gd DX10_stateOf_1 1 rfl) (by decide) ?_
    refine g_icmp_ne C 111 (gd DX10_stateOf_1 2 rfl) (by decide) (fun c104 => ?_) (fun c104 => ?_)
    · rcases hfr with q | ⟨f, hf, q⟩
      · exact absurd q c104
      · subst q
        refine g_aload_n C (gd DX10_stateOf_1 5 rfl) 0 rfl rfl ?_
        refine g_getr (ci := 10) (k := 40) C rfl (by decide) rfl lf_TestJudgeModel_56 hm.1 (hm.2 40 12 12 16500 rfl).1 (gd DX10_stateOf_1 6 rfl) ?_
        refine g_iload_n C (gd DX10_stateOf_1 7 rfl) 2 rfl rfl ?_
        refine g_iaj (j := f) C (hm.2 40 12 12 16500 rfl).2.1 (hm.2 40 12 12 16500 rfl).2.2 (by decide) rfl (by omega) (gd DX10_stateOf_1 8 rfl) ?_
        refine g_iconst (v := 1) C (gd DX10_stateOf_1 9 rfl) (by decide) ?_
        refine g_iadd C (gd DX10_stateOf_1 10 rfl) ?_
        refine fin _ ?_
        rw [if_neg c104, nI_clamp (by omega), hI_sI, if_neg (by omega), hI_sI, if_neg (by omega)]
        rfl
    · refine g_iconst (v := 0) C (gd DX10_stateOf_1 3 rfl) (by decide) ?_
      refine g_goto (tgt := 119) C (gd DX10_stateOf_1 4 rfl) (by decide) ?_
      exact fin 0 (by rw [if_pos c104])
  have loop : ∀ k d, (∃ e, e < d + k ∧ hI h (m + 6) ((hsN key + e) % 32768) = 0) → (∀ d', d' < d → hI h (m + 6) ((hsN key + d') % 32768) ≠ 0) → (∀ d', d' < d → ∀ j, hI h (m + 6) ((hsN key + d') % 32768) = nI (j + 1) → j < n → hL h (m + 5) j ≠ key) → GW z w 6 (gQ z w 0 0 (fun r' h'' => (∃ j, j < n ∧ hL h (m + 5) j = key ∧ r' = some (.int (nI j)) ∧ h'' = h) ∨ ((∀ j, j < n → hL h (m + 5) j ≠ key) ∧ r' = some (.int (nI n)) ∧ ∃ i, i < 32768 ∧ h'' = newS h m n i key fr by0 (if fr = -1 then 0 else hI h (m + 12) fr.toNatClampNeg + 1) ∧ HT (upd (hI h (m + 6)) i (nI (n + 1))) (vp_updL (hL h (m + 5)) n key) (n + 1)))) 0 0 11 [(0, .ref m), (1, .long key), (3, .int fr), (4, .int by0), (5, .int (nI ((hsN key + d) % 32768)))] [] h := by
    intro k
    induction k with
    | zero =>
      intro d he hd hk
      obtain ⟨e, e1, e2⟩ := he
      exact absurd e2 (hd e (by omega))
    | succ k ih =>
      intro d he hd hk
      have hi0 : (hsN key + d) % 32768 < 32768 := Nat.mod_lt _ (by omega)
      refine g_aload_n C (gd DX10_stateOf_0 7 rfl) 0 rfl rfl ?_
      refine g_getr (ci := 10) (k := 34) C rfl (by decide) rfl lf_TestJudgeModel_37 hm.1 (hm.2 34 6 12 32768 rfl).1 (gd DX10_stateOf_0 8 rfl) ?_
      refine g_iload C (gd DX10_stateOf_0 9 rfl) 4 rfl ?_
      refine g_iaj (j := ((hsN key + d) % 32768)) C (hm.2 34 6 12 32768 rfl).2.1 (hm.2 34 6 12 32768 rfl).2.2 (by decide) rfl (by omega) (gd DX10_stateOf_0 10 rfl) ?_
      refine g_if_eq C 63 (gd DX10_stateOf_0 11 rfl) (by decide) (fun c18 => ?_) (fun c18 => ?_)
      · exact new d c18 hd hk
      · obtain ⟨j, hj, ej⟩ := hT0.2.1 _ hi0 c18
        refine g_aload_n C (gd DX10_stateOf_0 12 rfl) 0 rfl rfl ?_
        refine g_getr (ci := 10) (k := 33) C rfl (by decide) rfl lf_TestJudgeModel_33 hm.1 (hm.2 33 5 13 16500 rfl).1 (gd DX10_stateOf_0 13 rfl) ?_
        refine g_aload_n C (gd DX10_stateOf_0 14 rfl) 0 rfl rfl ?_
        refine g_getr (ci := 10) (k := 34) C rfl (by decide) rfl lf_TestJudgeModel_37 hm.1 (hm.2 34 6 12 32768 rfl).1 (gd DX10_stateOf_0 15 rfl) ?_
        refine g_iload C (gd DX10_stateOf_0 16 rfl) 4 rfl ?_
        refine g_iaj (j := ((hsN key + d) % 32768)) C (hm.2 34 6 12 32768 rfl).2.1 (hm.2 34 6 12 32768 rfl).2.2 (by decide) rfl (by omega) (gd DX10_stateOf_0 17 rfl) ?_
        rw [ej]
        refine g_iconst (v := 1) C (gd DX10_stateOf_0 18 rfl) (by decide) ?_
        refine g_isub C (gd DX10_stateOf_0 19 rfl) ?_
        rw [nI_pred]
        refine g_laj (j := j) C (hm.2 33 5 13 16500 rfl).2.1 (hm.2 33 5 13 16500 rfl).2.2 (by decide) rfl (by omega) (gd DX10_stateOf_0 20 rfl) ?_
        refine g_lload_n C (gd DX10_stateOf_0 21 rfl) 1 rfl rfl ?_
        refine g_lcmp C (gd DX10_stateOf_0 22 rfl) ?_
        refine g_if_ne C 50 (gd DX10_stateOf_0 23 rfl) (by decide) (fun c37 => ?_) (fun c37 => ?_)
        · have hne : hL h (m + 5) j ≠ key := fun q => c37 (lcmp_eq.mpr q)
          refine g_iload C (gd DX10_stateOf_0 31 rfl) 4 rfl ?_
          refine g_iconst (v := 1) C (gd DX10_stateOf_0 32 rfl) (by decide) ?_
          refine g_iadd C (gd DX10_stateOf_0 33 rfl) ?_
          refine g_sipush (v := 32767) C (gd DX10_stateOf_0 34 rfl) (by decide) ?_
          refine g_iand C (gd DX10_stateOf_0 35 rfl) ?_
          refine g_istore (lv' := [(0, _), (1, _), (3, _), (4, _), (5, _)]) C (gd DX10_stateOf_0 36 rfl) [1, 2, 3, 4, 0] (by decide) rfl ?_
          refine g_goto (tgt := 11) C (gd DX10_stateOf_0 37 rfl) (by decide) ?_
          refine GW.cast (by rw [nI_1, show (32767 : Int32) = nI 32767 from rfl, pk_andN (by omega) 15 (by decide), show ((hsN key + d) % 32768 + 1) % 2 ^ 15 = (hsN key + (d + 1)) % 32768 by omega]) rfl rfl (ih (d + 1) (by obtain ⟨e, e1, e2⟩ := he; exact ⟨e, by omega, e2⟩) (fun d' hd' => ?_) (fun d' hd' j' e' hj' => ?_))
          · by_cases q : d' = d
            · subst q; exact c18
            · exact hd d' (by omega)
          · by_cases q : d' = d
            · subst q
              rw [ej] at e'
              have := (nI_eq (by omega) (by omega)).mp e'
              rw [show j' = j by omega]
              exact hne
            · exact hk d' (by omega) j' e' hj'
        · have heq : hL h (m + 5) j = key := lcmp_eq.mp c37
          refine g_aload_n C (gd DX10_stateOf_0 24 rfl) 0 rfl rfl ?_
          refine g_getr (ci := 10) (k := 34) C rfl (by decide) rfl lf_TestJudgeModel_37 hm.1 (hm.2 34 6 12 32768 rfl).1 (gd DX10_stateOf_0 25 rfl) ?_
          refine g_iload C (gd DX10_stateOf_0 26 rfl) 4 rfl ?_
          refine g_iaj (j := ((hsN key + d) % 32768)) C (hm.2 34 6 12 32768 rfl).2.1 (hm.2 34 6 12 32768 rfl).2.2 (by decide) rfl (by omega) (gd DX10_stateOf_0 27 rfl) ?_
          rw [ej]
          refine g_iconst (v := 1) C (gd DX10_stateOf_0 28 rfl) (by decide) ?_
          refine g_isub C (gd DX10_stateOf_0 29 rfl) ?_
          rw [nI_pred]
          exact g_iret C (by omega) (by omega) (Or.inl ⟨j, hj, heq, rfl, rfl⟩) (gd DX10_stateOf_0 30 rfl)
  refine g_lload_n C (gd DX10_stateOf_0 0 rfl) 1 rfl rfl ?_
  refine g_ldc2 (v := -7046029254386353131) C (gd DX10_stateOf_0 1 rfl) lK_TestJudgeModel_355 ?_
  refine g_lmul C (gd DX10_stateOf_0 2 rfl) ?_
  refine g_bipush (v := 49) C (gd DX10_stateOf_0 3 rfl) (by decide) ?_
  refine g_lushr C (gd DX10_stateOf_0 4 rfl) ?_
  refine g_l2i C (gd DX10_stateOf_0 5 rfl) ?_
  refine g_istore (lv' := [(0, _), (1, _), (3, _), (4, _), (5, _)]) C (gd DX10_stateOf_0 6 rfl) [1, 2, 3, 4, 0] (by decide) rfl ?_
  obtain ⟨e, e1, e2⟩ := hT0.free2 (hsN key) (hsN_lt key)
  refine GW.cast (by rw [show (hsN key + 0) % 32768 = hsN key by have := hsN_lt key; omega, ← hsL_eq]; rfl) rfl rfl (loop 32768 0 ⟨e, by omega, e2⟩ (fun _ q => by omega) (fun _ q => by omega))
end M9
