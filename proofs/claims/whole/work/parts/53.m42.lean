/-! the calls print and swaps -/
theorem digs_len (n : Nat) : (digs n).length ≤ 3 := by
  unfold digs
  split <;> split <;> simp
theorem prL_app (m : Nat) : ∀ (L L' : List Nat) (h : HS) (k : Nat), prL m h k (L ++ L') = prL m (prL m h k L) (k + L.length) L' := by
  intro L
  induction L with
  | nil => intro L' h k; rfl
  | cons c L ih =>
    intro L' h k
    show prL m (pD m h k (nI c)) (k + 1) (L ++ L') = _
    rw [ih]
    show _ = prL m (prL m (pD m h k (nI c)) (k + 1) L) (k + (L.length + 1)) L'
    rw [show k + 1 + L.length = k + (L.length + 1) by omega]
theorem prL_57 (m : Nat) : ∀ (L : List Nat) (h : HS) (k : Nat), hI h m 57 = nI k → hI (prL m h k L) m 57 = nI (k + L.length) := by
  intro L
  induction L with
  | nil => intro h k e; exact e
  | cons c L ih =>
    intro h k e
    show hI (prL m (pD m h k (nI c)) (k + 1) L) m 57 = _
    rw [ih _ (k + 1) pD_57, show k + 1 + L.length = k + (c :: L).length by simp; omega]
theorem pD_ne {m b j n : Nat} {h : HS} {c : Int32} (h1 : b ≠ m + 26) (h2 : ¬ (b = m ∧ j = 57)) : hI (pD m h n c) b j = hI h b j := by
  unfold pD
  rw [hI_sI, if_neg h2, hI_sI, if_neg (fun q => h1 q.1)]
theorem prL_ne {m b j : Nat} (h1 : b ≠ m + 26) (h2 : ¬ (b = m ∧ j = 57)) : ∀ (L : List Nat) (h : HS) (k : Nat), hI (prL m h k L) b j = hI h b j := by
  intro L
  induction L with
  | nil => intro h k; rfl
  | cons c L ih =>
    intro h k
    show hI (prL m (pD m h k (nI c)) (k + 1) L) b j = _
    rw [ih, pD_ne h1 h2]
theorem prL_fr (m : Nat) : ∀ (L : List Nat) (h : HS) (k : Nat), Fr3 h (prL m h k L) := by
  intro L
  induction L with
  | nil => intro h k; exact Fr3.rf h
  | cons c L ih => intro h k; exact Fr3.tr (h1 := pD m h k (nI c)) ⟨rfl, rfl, rfl, rfl⟩ (ih _ _)
theorem mKp.pd {m n : Nat} {h h' : HS} (k : mKp m h h') (c : Int32) : mKp m (pD m h n c) (pD m h' n c) := by
  obtain ⟨k1, k2, k3, k4, k5, k6, k7⟩ := k
  refine ⟨k1, fun j j1 j2 j3 => ?_, ?_, fun r j hr hj => ?_, ?_, ?_, ?_⟩
  · rw [pD_ne (by omega) (by omega), pD_ne (by omega) (by omega)]; exact k2 j j1 j2 j3
  · rw [pD_57, pD_57]
  · unfold gRec
    rw [pD_ne (by omega) (by omega), pD_ne (by omega) (by omega)]
    exact k4 r j hr hj
  · funext j; rw [pD_ne (by omega) (by omega), pD_ne (by omega) (by omega), k5]
  · funext j; rw [pD_ne (by omega) (by omega), pD_ne (by omega) (by omega), k6]
  · funext j
    unfold pD
    simp only [hI_sI, k7]
theorem mKp.px {m : Nat} : ∀ (L : List Nat) {h h' : HS} (n : Nat), mKp m h h' → mKp m (prL m h n L) (prL m h' n L) := by
  intro L
  induction L with
  | nil => intro h h' n k; exact k
  | cons c L ih => intro h h' n k; exact ih (n + 1) (k.pd (nI c))
theorem mKp.o {m : Nat} {h h' : HS} (k : mKp m h h') (v : Int32) : mKp m (sI h m 57 v) (sI h' m 57 v) := by
  obtain ⟨k1, k2, k3, k4, k5, k6, k7⟩ := k
  refine ⟨k1, fun j j1 j2 j3 => ?_, ?_, fun r j hr hj => ?_, ?_, ?_, ?_⟩
  · rw [hI_sI, if_neg (by omega), hI_sI, if_neg (by omega)]; exact k2 j j1 j2 j3
  · rw [hI_sI, if_pos ⟨rfl, rfl⟩, hI_sI, if_pos ⟨rfl, rfl⟩]
  · unfold gRec
    rw [hI_sI, if_neg (by omega), hI_sI, if_neg (by omega)]
    exact k4 r j hr hj
  · funext j; rw [hI_sI, if_neg (by omega), hI_sI, if_neg (by omega), k5]
  · funext j; rw [hI_sI, if_neg (by omega), hI_sI, if_neg (by omega), k6]
  · funext j; rw [hI_sI, if_neg (by omega), hI_sI, if_neg (by omega), k7]
/-- what is printed of a rest's letters, of a rest, of all -/
def pxK (T : Nat → Nat → Int32) (i : Nat) : Nat → List Nat
  | 0 => []
  | k + 1 => pxK T i k ++ (if T i k = -1 then [] else [32] ++ (digs (k / 3) ++ ([97 + k % 3] ++ digs (T i k).toNatClampNeg)))
def pxR (E : Nat → Int32) (T : Nat → Nat → Int32) (i : Nat) : List Nat := digs i ++ ([58] ++ (digs (E i).toNatClampNeg ++ (pxK T i 24 ++ [59])))
def pxA (E : Nat → Int32) (T : Nat → Nat → Int32) : Nat → List Nat
  | 0 => []
  | i + 1 => pxA E T i ++ pxR E T i
theorem pxK_len (T : Nat → Nat → Int32) (i : Nat) : ∀ k, (pxK T i k).length ≤ 8 * k := by
  intro k
  induction k with
  | zero => exact Nat.le_refl _
  | succ k ih =>
    unfold pxK
    have h1 := digs_len (k / 3)
    have h2 := digs_len (T i k).toNatClampNeg
    split
    · simp; omega
    · simp only [List.length_append, List.length_cons, List.length_nil]; omega
theorem pxA_len (E : Nat → Int32) (T : Nat → Nat → Int32) : ∀ i, (pxA E T i).length ≤ 200 * i := by
  intro i
  induction i with
  | zero => exact Nat.le_refl _
  | succ i ih =>
    unfold pxA pxR
    have h1 := digs_len i
    have h2 := digs_len (E i).toNatClampNeg
    have h3 := pxK_len T i 24
    simp only [List.length_append, List.length_cons, List.length_nil]; omega
theorem rsU.px {m N : Nat} {h h0 h1 h2 h3 : HS} {R : List (Nat × Nat)} {T : Nat → Nat → Int32} (u : rsU m h h1 N R T h2) (k : mKp m h0 h3) (e : ∀ b j, b ≠ m + 26 → ¬ (b = m ∧ j = 57) → hI h3 b j = hI h2 b j) : rsU m h0 h1 N R T h3 := by
  obtain ⟨u1, u2, u3, u4, u5, u6, u7⟩ := u
  have row : ∀ b, b ≠ m + 26 → b ≠ m → hI h3 b = hI h2 b := fun b b1 b2 => funext fun j => e b j b1 (fun q => b2 q.1)
  have ru : uNx m h3 = uNx m h2 := by funext x; unfold uNx; rw [row (m + 7) (by omega) (by omega), row (m + 13) (by omega) (by omega)]
  refine ⟨k, u2.congr (e m 42 (by omega) (by omega)) (row _ (by omega) (by omega)), by rw [e m 54 (by omega) (by omega)]; exact u3, fun i q hq => ?_, by rw [row (m + 8) (by omega) (by omega)]; exact u5, ?_, ?_⟩
  · rw [row (m + 23) (by omega) (by omega), row (m + 24) (by omega) (by omega)]; exact u4 i q hq
  · rw [row (m + 13) (by omega) (by omega), row (m + 20) (by omega) (by omega)]; exact u6
  · rw [ru, row (m + 22) (by omega) (by omega), row (m + 20) (by omega) (by omega)]; exact u7
section M42
variable {w : gD} {m : Nat} {h : HS}
theorem r_nextRest3 {nf r N : Nat} {h0 h0' h1 : HS} {R : List (Nat × Nat)} {T : Nat → Nat → Int32} (hm : mSh m h) (t : rsT m h0 nf r h1 N R T) (u : rsU m h0' h1 N R T h) {i k : Nat} (hi : i < R.length) (hk : k < 24) :
    EvF w 1 0 0 yX10_nextRest cX10_nextRest 4 (some .int) [.ref m, .int (nI i), .int (nI k)] h (some (.int (T i k))) h := by
  obtain ⟨t1, t2, t3, t4, t5⟩ := t
  obtain ⟨u1, u2, u3, u4, u5, u6, u7⟩ := u
  obtain ⟨q, hq⟩ : ∃ q, R[i]? = some q := ⟨_, List.getElem?_eq_getElem hi⟩
  rw [← u7 i q k hq hk]
  exact e_m_nextRest hm u2 (by omega) (u4 i q hq).1 (t5 i q hq).1 hk u6
theorem e_m_print {nt na np nf : Nat} {fw : Nat → Nat} (ok : mOK m h nt na np nf fw) (p : Int32) :
    Ev w 8 0 0 yX10_print cX10_print 4 (some .int) [.ref m, .int p] h (fun r' h' => (¬ (0 ≤ p ∧ p ≤ nI np - 1) ∧ r' = some (.int (-1)) ∧ pQ m h h' 2) ∨ ∃ r, r < np ∧ p = nI r ∧ ∃ h1 N R T, rsT m h nf r h1 N R T ∧ ((60 < R.length ∧ r' = some (.int (-1)) ∧ pQ m h h' 3) ∨ (R.length ≤ 60 ∧ ∃ E, (∀ (i : Nat) (q : Nat × Nat), R[i]? = some q → E i = hI h1 (m + 8) q.1) ∧ r' = some (.int (nI (pxA E T R.length).length)) ∧ pQ m (prL m (sI h m 57 0) 0 (pxA E T R.length)) h' 0))) := by
  have ok0 := ok
  obtain ⟨hm, hnt, hna, hnp, hF, hw⟩ := ok
  refine g_start (by decide) (Nat.le_of_ble_eq_true rfl) [(0, _), (1, _)] rfl (fun z hfl C => ?_)
  refine g_aload_n C (gd DX10_print_0 0 rfl) 0 rfl rfl ?_
  refine g_iload_n C (gd DX10_print_0 1 rfl) 1 rfl rfl ?_
  refine g_cV1 (ci := 10) C [_] mX10_isProgram lm_TestJudgeModel_116 (by exact hm.1) rfl rfl (e_m_isProgram hm _) hfl (by decide) (by decide) (by omega) (by omega) rfl rfl (Nat.le_of_ble_eq_true rfl) (gd DX10_print_0 2 rfl) ?_
  rw [hnp.2]
  by_cases hp : 0 ≤ p ∧ p ≤ nI np - 1
  rotate_left
  · rw [b1_f hp]
    refine g_if_ne C 14 (gd DX10_print_0 3 rfl) (by decide) (fun c5 => ?_) (fun c5 => ?_)
    · exact absurd rfl c5
    · refine g_aload_n C (gd DX10_print_0 4 rfl) 0 rfl rfl ?_
      refine g_iconst (v := 2) C (gd DX10_print_0 5 rfl) (by decide) ?_
      refine g_cV1 (ci := 10) C [_] mX10_refuse lm_TestJudgeModel_331 (by exact hm.1) rfl rfl (e_m_refuse hm _) hfl (by decide) (by decide) (by omega) (by omega) rfl rfl (Nat.le_of_ble_eq_true rfl) (gd DX10_print_0 6 rfl) ?_
      exact g_iret C (by omega) (by omega) (Or.inl ⟨hp, rfl, (mKp.rf m h).q 2⟩) (gd DX10_print_0 7 rfl)
  rw [b1_t hp]
  refine g_if_ne C 14 (gd DX10_print_0 3 rfl) (by decide) (fun c5 => ?_) (fun c5 => ?_)
  rotate_left
  · exact absurd c5 (by decide)
  obtain ⟨r, hr, rfl⟩ := below_of (by omega) hp
  refine g_aload_n C (gd DX10_print_0 8 rfl) 0 rfl rfl ?_
  refine g_iload_n C (gd DX10_print_0 9 rfl) 1 rfl rfl ?_
  refine g_callV (ci := 10) C [_] mX10_laysRests lm_TestJudgeModel_463 (by exact hm.1) rfl rfl (r_laysRests ok0 hr) hfl (by decide) (by decide) (by omega) (by omega) rfl rfl (Nat.le_of_ble_eq_true rfl) (gd DX10_print_0 10 rfl) (fun r h2 hp => ?_)
  obtain ⟨rfl, h1, N, R, T, ht, hu⟩ := hp
  have hm2 : mSh m h2 := hm.fr hu.1.1
  have hRl := ht.2.2.1
  have hN0 := hu.2.1.1
  show GW z w 4 _ 0 0 _ _ [] _
  refine g_aload_n C (gd DX10_print_0 11 rfl) 0 rfl rfl ?_
  refine g_geti (ci := 10) (k := 54) C rfl (by decide) rfl lf_TestJudgeModel_457 hm2.1 (gd DX10_print_0 12 rfl) ?_
  rw [hu.2.2.1]
  refine g_bipush (v := 60) C (gd DX10_print_0 13 rfl) (by decide) ?_
  refine g_icmp_le C 34 (gd DX10_print_0 14 rfl) (by decide) (fun c25 => ?_) (fun c25 => ?_)
  rotate_left
  · have h60 : 60 < R.length := by
      apply Classical.byContradiction
      intro q
      exact c25 ((nI_leI (b := 60) (by omega) (by decide)).mpr (by omega))
    refine g_aload_n C (gd DX10_print_0 15 rfl) 0 rfl rfl ?_
    refine g_iconst (v := 3) C (gd DX10_print_0 16 rfl) (by decide) ?_
    refine g_cV1 (ci := 10) C [_] mX10_refuse lm_TestJudgeModel_331 (by exact hm2.1) rfl rfl (e_m_refuse hm2 _) hfl (by decide) (by decide) (by omega) (by omega) rfl rfl (Nat.le_of_ble_eq_true rfl) (gd DX10_print_0 17 rfl) ?_
    exact g_iret C (by omega) (by omega) (Or.inr ⟨r, hr, rfl, h1, N, R, T, ht, Or.inl ⟨h60, rfl, hu.1.q 3⟩⟩) (gd DX10_print_0 18 rfl)
  have h60 : R.length ≤ 60 := (nI_leI (b := 60) (by omega) (by decide)).mp c25
  let E : Nat → Int32 := fun i => match R[i]? with
    | none => 0
    | some q => hI h1 (m + 8) q.1
  have hE : ∀ (i : Nat) (q : Nat × Nat), R[i]? = some q → E i = hI h1 (m + 8) q.1 := fun i q hq => by simp only [E, hq]
  have hEn : ∀ i, i < R.length → ∃ x, x < 256 ∧ E i = nI x := fun i hi => by
    obtain ⟨q, hq⟩ : ∃ q, R[i]? = some q := ⟨_, List.getElem?_eq_getElem hi⟩
    rw [hE i q hq]
    exact ht.1.1.e1n hnt.1 hnt.2 q.1 (ht.2.2.2.2 i q hq).1
  have hTn : ∀ i k, i < R.length → k < 24 → T i k = -1 ∨ ∃ x, x < 60 ∧ T i k = nI x := fun i k hi hk => by
    obtain ⟨q, hq⟩ : ∃ q, R[i]? = some q := ⟨_, List.getElem?_eq_getElem hi⟩
    rcases ht.2.2.2.1 i q k hq hk with ⟨-, e⟩ | ⟨t, j, p, -, e1, -, e2⟩
    · exact Or.inl e
    · have := (List.getElem?_eq_some_iff.mp e1).1
      exact Or.inr ⟨j, by omega, e2⟩
  have px : ∀ (L : List Nat), (mSh m (prL m (sI h2 m 57 0) 0 L) ∧ hI (prL m (sI h2 m 57 0) 0 L) m 57 = nI L.length) ∧ rsU m (prL m (sI h2 m 57 0) 0 L) h1 N R T (prL m (sI h2 m 57 0) 0 L) := by
    intro L
    refine ⟨⟨mSh.fr (h := sI h2 m 57 0) hm2 (prL_fr m L _ 0), ?_⟩, hu.px (mKp.rf m _) (fun b j b1 b2 => by rw [prL_ne b1 b2, hI_sI, if_neg b2])⟩
    have := prL_57 m L (sI h2 m 57 0) 0 (by rw [hI_sI, if_pos ⟨rfl, rfl⟩]; rfl)
    rw [this, Nat.zero_add]
  have ap : ∀ (L L' : List Nat), prL m (prL m (sI h2 m 57 0) 0 L) L.length L' = prL m (sI h2 m 57 0) 0 (L ++ L') := fun L L' => by
    have := prL_app m L L' (sI h2 m 57 0) 0
    rw [Nat.zero_add] at this
    exact this.symm
  have ap1 : ∀ (L : List Nat) (c : Nat), pD m (prL m (sI h2 m 57 0) 0 L) L.length (nI c) = prL m (sI h2 m 57 0) 0 (L ++ [c]) := fun L c => ap L [c]
  generalize hQ : (gQ z w 0 0 _) = Q
  have loop : ∀ y i, i + y = R.length → GW z w 4 Q 0 0 41 [(0, .ref m), (1, .int (nI r)), (2, .int (nI i))] [] (prL m (sI h2 m 57 0) 0 (pxA E T i)) := by
    intro y
    induction y with
    | zero =>
      intro i hi
      obtain ⟨⟨hm3, h57⟩, hu3⟩ := px (pxA E T i)
      refine g_iload_n C (gd DX10_print_0 24 rfl) 2 rfl rfl ?_
      refine g_aload_n C (gd DX10_print_0 25 rfl) 0 rfl rfl ?_
      refine g_geti (ci := 10) (k := 54) C rfl (by decide) rfl lf_TestJudgeModel_457 hm3.1 (gd DX10_print_0 26 rfl) ?_
      rw [hu3.2.2.1]
      refine g_icmp_ge C 147 (gd DX10_print_0 27 rfl) (by decide) (fun c46 => ?_) (fun c46 => ?_)
      · rw [show i = R.length by omega] at *
        refine g_aload_n C (gd DX10_print_1 23 rfl) 0 rfl rfl ?_
        refine g_aload_n C (gd DX10_print_1 24 rfl) 0 rfl rfl ?_
        refine g_geti (ci := 10) (k := 57) C rfl (by decide) rfl lf_TestJudgeModel_503 hm3.1 (gd DX10_print_1 25 rfl) ?_
        rw [h57]
        refine g_cV1 (ci := 10) C [_] mX10_gives lm_TestJudgeModel_349 (by exact hm3.1) rfl rfl (e_m_gives hm3 _) hfl (by decide) (by decide) (by omega) (by omega) rfl rfl (Nat.le_of_ble_eq_true rfl) (gd DX10_print_1 26 rfl) ?_
        rw [← hQ]
        exact g_iret C (by omega) (by omega) (Or.inr ⟨r, hr, rfl, h1, N, R, T, ht, Or.inr ⟨h60, E, hE, rfl, (mKp.px _ 0 (hu.1.o 0)).q 0⟩⟩) (gd DX10_print_1 27 rfl)
      · exact absurd (nI_le (a := R.length) (b := i) (by omega) (by omega)) c46
    | succ y ih =>
      intro i hi
      have hiR : i < R.length := by omega
      obtain ⟨q, hq⟩ : ∃ q, R[i]? = some q := ⟨_, List.getElem?_eq_getElem hiR⟩
      have hq1 := (ht.2.2.2.2 i q hq).1
      obtain ⟨x, hx, ex⟩ := hEn i hiR
      have hl0 := pxA_len E T i
      have hl1 := digs_len i
      have hl2 := digs_len x
      have letters : ∀ y k, k + y = 24 → GW z w 4 Q 0 0 77 [(0, .ref m), (1, .int (nI r)), (2, .int (nI i)), (3, .int (nI k))] [] (prL m (sI h2 m 57 0) 0 (pxA E T i ++ (digs i ++ ([58] ++ (digs x ++ pxK T i k))))) := by
        intro y
        induction y with
        | zero =>
          intro k hk
          generalize hLL : pxA E T i ++ (digs i ++ ([58] ++ (digs x ++ pxK T i k))) = L
          have hlen : L.length ≤ 200 * i + 199 := by
            have h3 := pxK_len T i k
            rw [← hLL]
            simp only [List.length_append, List.length_cons, List.length_nil]; omega
          obtain ⟨⟨hm3, h57⟩, hu3⟩ := px L
          refine g_iload_n C (gd DX10_print_0 45 rfl) 3 rfl rfl ?_
          refine g_bipush (v := 24) C (gd DX10_print_0 46 rfl) (by decide) ?_
          refine g_icmp_ge C 135 (gd DX10_print_0 47 rfl) (by decide) (fun c80 => ?_) (fun c80 => ?_)
          · refine g_aload_n C (gd DX10_print_1 18 rfl) 0 rfl rfl ?_
            refine g_bipush (v := 59) C (gd DX10_print_1 19 rfl) (by decide) ?_
            refine g_cV0 (v := .null) (ci := 10) C [_] mX10_prints lm_TestJudgeModel_506 (by exact hm3.1) rfl rfl (e_m_prints hm3 (by omega) h57 _) hfl (by decide) (by decide) (by omega) (by omega) rfl rfl (Nat.le_of_ble_eq_true rfl) (gd DX10_print_1 20 rfl) ?_
            refine g_iinc (lv' := [(0, _), (1, _), (2, _), (3, _)]) C (gd DX10_print_1 21 rfl) 2 [1, 2, 0, 3] rfl rfl (by decide) rfl ?_
            refine g_goto (tgt := 41) C (gd DX10_print_1 22 rfl) (by decide) ?_
            refine GW.sub [0, 1, 2] rfl (Nat.le_refl _) (Nat.le_refl _) (lv' := [(0, _), (1, _), (2, _)]) ?_
            refine GW.cast (by rw [inc1]) rfl ?_ (ih (i + 1) (by omega))
            show pD m _ L.length (nI 59) = _
            rw [ap1, ← hLL]
            congr 1
            rw [show k = 24 by omega]
            show _ = pxA E T i ++ pxR E T i
            unfold pxR
            rw [ex, nI_clamp (by omega)]
            simp only [List.append_assoc]
          · exact absurd (nI_le (a := 24) (b := k) (by omega) (by omega)) c80
        | succ y ihk =>
          intro k hk
          generalize hLL : pxA E T i ++ (digs i ++ ([58] ++ (digs x ++ pxK T i k))) = L
          have hlen : L.length ≤ 200 * i + 7 + 8 * k := by
            have h3 := pxK_len T i k
            rw [← hLL]
            simp only [List.length_append, List.length_cons, List.length_nil]; omega
          obtain ⟨⟨hm3, h57⟩, hu3⟩ := px L
          have nx : ∀ L', L' = pxA E T i ++ (digs i ++ ([58] ++ (digs x ++ pxK T i (k + 1)))) → GW z w 4 Q 0 0 129 [(0, .ref m), (1, .int (nI r)), (2, .int (nI i)), (3, .int (nI k))] [] (prL m (sI h2 m 57 0) 0 L') := by
            intro L' hL'
            refine g_iinc (lv' := [(0, _), (1, _), (2, _), (3, _)]) C (gd DX10_print_1 16 rfl) 3 [1, 2, 3, 0] rfl rfl (by decide) rfl ?_
            refine g_goto (tgt := 77) C (gd DX10_print_1 17 rfl) (by decide) ?_
            exact GW.cast (by rw [inc1]) rfl (by rw [hL']) (ihk (k + 1) (by omega))
          refine g_iload_n C (gd DX10_print_0 45 rfl) 3 rfl rfl ?_
          refine g_bipush (v := 24) C (gd DX10_print_0 46 rfl) (by decide) ?_
          refine g_icmp_ge C 135 (gd DX10_print_0 47 rfl) (by decide) (fun c80 => ?_) (fun c80 => ?_)
          · exact absurd c80 (nI_ge (a := k) (b := 24) (by omega) (by omega))
          · refine g_aload_n C (gd DX10_print_0 48 rfl) 0 rfl rfl ?_
            refine g_iload_n C (gd DX10_print_0 49 rfl) 2 rfl rfl ?_
            refine g_iload_n C (gd DX10_print_0 50 rfl) 3 rfl rfl ?_
            refine g_cV1 (ci := 10) C [_, _] mX10_nextRest lm_TestJudgeModel_472 (by exact hm3.1) rfl rfl (r_nextRest3 hm3 ht hu3 hiR (by omega : k < 24)) hfl (by decide) (by decide) (by omega) (by omega) rfl rfl (Nat.le_of_ble_eq_true rfl) (gd DX10_print_0 51 rfl) ?_
            refine g_iconst (v := -1) C (gd DX10_print_0 52 rfl) (by decide) ?_
            refine g_icmp_ne C 96 (gd DX10_print_0 53 rfl) (by decide) (fun c90 => ?_) (fun c90 => ?_)
            · obtain ⟨t, ht1, et⟩ : ∃ t, t < 60 ∧ T i k = nI t := by
                rcases hTn i k hiR (by omega) with q | q
                · exact absurd q c90
                · exact q
              have hd1 := digs_len (k / 3)
              refine g_aload_n C (gd DX10_print_0 55 rfl) 0 rfl rfl ?_
              refine g_bipush (v := 32) C (gd DX10_print_0 56 rfl) (by decide) ?_
              refine g_cV0 (v := .null) (ci := 10) C [_] mX10_prints lm_TestJudgeModel_506 (by exact hm3.1) rfl rfl (e_m_prints hm3 (by omega) h57 _) hfl (by decide) (by decide) (by omega) (by omega) rfl rfl (Nat.le_of_ble_eq_true rfl) (gd DX10_print_0 57 rfl) ?_
              refine GW.cast rfl rfl (ap1 L 32) ?_
              obtain ⟨⟨hm4, h57b⟩, hu4⟩ := px (L ++ [32])
              have e1 : (L ++ [32]).length = L.length + 1 := by simp
              refine g_aload_n C (gd DX10_print_0 58 rfl) 0 rfl rfl ?_
              refine g_iload_n C (gd DX10_print_0 59 rfl) 3 rfl rfl ?_
              refine g_iconst (v := 3) C (gd DX10_print_1 0 rfl) (by decide) ?_
              refine g_idiv C (gd DX10_print_1 1 rfl) (by decide) ?_
              rw [show nI k / 3 = nI (k / 3) from nx_div (a := k) (b := 3) rfl rfl (by omega) (by decide) (by decide)]
              refine g_cV0 (v := .null) (ci := 10) C [_] mX10_printsNumber lm_TestJudgeModel_509 (by exact hm4.1) rfl rfl (e_m_printsNumber hm4 (by omega : k / 3 < 1000) (by omega) h57b) hfl (by decide) (by decide) (by omega) (by omega) rfl rfl (Nat.le_of_ble_eq_true rfl) (gd DX10_print_1 2 rfl) ?_
              refine GW.cast rfl rfl (ap (L ++ [32]) (digs (k / 3))) ?_
              obtain ⟨⟨hm5, h57c⟩, hu5⟩ := px ((L ++ [32]) ++ digs (k / 3))
              have e2 : ((L ++ [32]) ++ digs (k / 3)).length ≤ L.length + 4 := by simp; omega
              refine g_aload_n C (gd DX10_print_1 3 rfl) 0 rfl rfl ?_
              refine g_bipush (v := 97) C (gd DX10_print_1 4 rfl) (by decide) ?_
              refine g_iload_n C (gd DX10_print_1 5 rfl) 3 rfl rfl ?_
              refine g_iconst (v := 3) C (gd DX10_print_1 6 rfl) (by decide) ?_
              refine g_irem C (gd DX10_print_1 7 rfl) (by decide) ?_
              refine g_iadd C (gd DX10_print_1 8 rfl) ?_
              rw [show (97 : Int32) + (nI k - nI k / 3 * 3) = nI (97 + k % 3) from nx_add (a := 97) rfl (nx_rem rfl rfl (by omega) (by decide) (by decide))]
              refine g_cV0 (v := .null) (ci := 10) C [_] mX10_prints lm_TestJudgeModel_506 (by exact hm5.1) rfl rfl (e_m_prints hm5 (by omega) h57c _) hfl (by decide) (by decide) (by omega) (by omega) rfl rfl (Nat.le_of_ble_eq_true rfl) (gd DX10_print_1 9 rfl) ?_
              refine GW.cast rfl rfl (ap1 _ (97 + k % 3)) ?_
              obtain ⟨⟨hm6, h57d⟩, hu6⟩ := px (((L ++ [32]) ++ digs (k / 3)) ++ [97 + k % 3])
              have e3 : (((L ++ [32]) ++ digs (k / 3)) ++ [97 + k % 3]).length ≤ L.length + 5 := by simp; omega
              refine g_aload_n C (gd DX10_print_1 10 rfl) 0 rfl rfl ?_
              refine g_aload_n C (gd DX10_print_1 11 rfl) 0 rfl rfl ?_
              refine g_iload_n C (gd DX10_print_1 12 rfl) 2 rfl rfl ?_
              refine g_iload_n C (gd DX10_print_1 13 rfl) 3 rfl rfl ?_
              refine g_cV1 (ci := 10) C [_, _] mX10_nextRest lm_TestJudgeModel_472 (by exact hm6.1) rfl rfl (r_nextRest3 hm6 ht hu6 hiR (by omega : k < 24)) hfl (by decide) (by decide) (by omega) (by omega) rfl rfl (Nat.le_of_ble_eq_true rfl) (gd DX10_print_1 14 rfl) ?_
              rw [et]
              refine g_cV0 (v := .null) (ci := 10) C [_] mX10_printsNumber lm_TestJudgeModel_509 (by exact hm6.1) rfl rfl (e_m_printsNumber hm6 (by omega : t < 1000) (by omega) h57d) hfl (by decide) (by decide) (by omega) (by omega) rfl rfl (Nat.le_of_ble_eq_true rfl) (gd DX10_print_1 15 rfl) ?_
              refine GW.cast rfl rfl (ap _ (digs t)) ?_
              refine nx _ ?_
              rw [← hLL]
              show _ = pxA E T i ++ (digs i ++ ([58] ++ (digs x ++ (pxK T i k ++ (if T i k = -1 then [] else [32] ++ (digs (k / 3) ++ ([97 + k % 3] ++ digs (T i k).toNatClampNeg)))))))
              rw [if_neg c90, et, nI_clamp (by omega)]
              simp only [List.append_assoc]
            · refine g_goto (tgt := 129) C (gd DX10_print_0 54 rfl) (by decide) ?_
              refine nx L ?_
              rw [← hLL]
              show _ = pxA E T i ++ (digs i ++ ([58] ++ (digs x ++ (pxK T i k ++ (if T i k = -1 then [] else [32] ++ (digs (k / 3) ++ ([97 + k % 3] ++ digs (T i k).toNatClampNeg)))))))
              rw [if_pos c90, List.append_nil]
      obtain ⟨⟨hm3, h57⟩, hu3⟩ := px (pxA E T i)
      refine g_iload_n C (gd DX10_print_0 24 rfl) 2 rfl rfl ?_
      refine g_aload_n C (gd DX10_print_0 25 rfl) 0 rfl rfl ?_
      refine g_geti (ci := 10) (k := 54) C rfl (by decide) rfl lf_TestJudgeModel_457 hm3.1 (gd DX10_print_0 26 rfl) ?_
      rw [hu3.2.2.1]
      refine g_icmp_ge C 147 (gd DX10_print_0 27 rfl) (by decide) (fun c46 => ?_) (fun c46 => ?_)
      · exact absurd c46 (nI_ge (a := i) (b := R.length) (by omega) (by omega))
      · refine g_aload_n C (gd DX10_print_0 28 rfl) 0 rfl rfl ?_
        refine g_iload_n C (gd DX10_print_0 29 rfl) 2 rfl rfl ?_
        refine g_cV0 (v := .null) (ci := 10) C [_] mX10_printsNumber lm_TestJudgeModel_509 (by exact hm3.1) rfl rfl (e_m_printsNumber hm3 (by omega : i < 1000) (by omega) h57) hfl (by decide) (by decide) (by omega) (by omega) rfl rfl (Nat.le_of_ble_eq_true rfl) (gd DX10_print_0 30 rfl) ?_
        refine GW.cast rfl rfl (ap _ (digs i)) ?_
        obtain ⟨⟨hm4, h57b⟩, hu4⟩ := px (pxA E T i ++ digs i)
        have e1 : (pxA E T i ++ digs i).length ≤ 200 * i + 3 := by simp; omega
        refine g_aload_n C (gd DX10_print_0 31 rfl) 0 rfl rfl ?_
        refine g_bipush (v := 58) C (gd DX10_print_0 32 rfl) (by decide) ?_
        refine g_cV0 (v := .null) (ci := 10) C [_] mX10_prints lm_TestJudgeModel_506 (by exact hm4.1) rfl rfl (e_m_prints hm4 (by omega) h57b _) hfl (by decide) (by decide) (by omega) (by omega) rfl rfl (Nat.le_of_ble_eq_true rfl) (gd DX10_print_0 33 rfl) ?_
        refine GW.cast rfl rfl (ap1 _ 58) ?_
        obtain ⟨⟨hm5, h57c⟩, hu5⟩ := px ((pxA E T i ++ digs i) ++ [58])
        have e2 : ((pxA E T i ++ digs i) ++ [58]).length ≤ 200 * i + 4 := by simp; omega
        refine g_aload_n C (gd DX10_print_0 34 rfl) 0 rfl rfl ?_
        refine g_aload_n C (gd DX10_print_0 35 rfl) 0 rfl rfl ?_
        refine g_getr (ci := 10) (k := 36) C rfl (by decide) rfl lf_TestJudgeModel_44 hm5.1 (hm5.2 36 8 12 16500 rfl).1 (gd DX10_print_0 36 rfl) ?_
        refine g_aload_n C (gd DX10_print_0 37 rfl) 0 rfl rfl ?_
        refine g_getr (ci := 10) (k := 52) C rfl (by decide) rfl lf_TestJudgeModel_90 hm5.1 (hm5.2 52 23 12 16500 rfl).1 (gd DX10_print_0 38 rfl) ?_
        refine g_iload_n C (gd DX10_print_0 39 rfl) 2 rfl rfl ?_
        refine g_iaj (j := i) C (hm5.2 52 23 12 16500 rfl).2.1 (hm5.2 52 23 12 16500 rfl).2.2 (by decide) rfl (by omega) (gd DX10_print_0 40 rfl) ?_
        rw [(hu5.2.2.2.1 i q hq).1]
        refine g_iaj (j := q.1) C (hm5.2 36 8 12 16500 rfl).2.1 (hm5.2 36 8 12 16500 rfl).2.2 (by decide) rfl (by omega) (gd DX10_print_0 41 rfl) ?_
        rw [hu5.2.2.2.2.1, ← hE i q hq, ex]
        refine g_cV0 (v := .null) (ci := 10) C [_] mX10_printsNumber lm_TestJudgeModel_509 (by exact hm5.1) rfl rfl (e_m_printsNumber hm5 (by omega : x < 1000) (by omega) h57c) hfl (by decide) (by decide) (by omega) (by omega) rfl rfl (Nat.le_of_ble_eq_true rfl) (gd DX10_print_0 42 rfl) ?_
        refine GW.cast rfl rfl (ap _ (digs x)) ?_
        refine g_iconst (v := 0) C (gd DX10_print_0 43 rfl) (by decide) ?_
        refine g_istore_n (lv' := [(0, _), (1, _), (2, _), (3, _)]) C (gd DX10_print_0 44 rfl) [1, 2, 3, 0] rfl (by decide) rfl ?_
        refine GW.cast rfl rfl ?_ (letters 24 0 (by omega))
        congr 1
        show _ = pxA E T i ++ (digs i ++ ([58] ++ (digs x ++ [])))
        simp only [List.append_assoc, List.append_nil]
  refine g_aload_n C (gd DX10_print_0 19 rfl) 0 rfl rfl ?_
  refine g_iconst (v := 0) C (gd DX10_print_0 20 rfl) (by decide) ?_
  refine g_puti (ci := 10) (k := 57) C rfl (by decide) rfl lf_TestJudgeModel_503 hm2.1 (Or.inl rfl) rfl (gd DX10_print_0 21 rfl) ?_
  refine g_iconst (v := 0) C (gd DX10_print_0 22 rfl) (by decide) ?_
  refine g_istore_n (lv' := [(0, _), (1, _), (2, _)]) C (gd DX10_print_0 23 rfl) [1, 2, 0] rfl (by decide) rfl ?_
  exact loop R.length 0 (by omega)
end M42
