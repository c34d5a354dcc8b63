/-! counts: how many strings of a length -/
/-- a long row whole -/
def sG (h : HS) (a : Nat) (f : Nat → Int64) : HS := (h.1, fun b j => if b = a then f j else h.2.1 b j, h.2.2)
def hW2 (m : Nat) (h : HS) (A B : Nat → Int64) : HS := sG (sG h (m + 15) A) (m + 16) B
theorem hL_sG (h : HS) (a : Nat) (f : Nat → Int64) (b j : Nat) : hL (sG h a f) b j = if b = a then f j else hL h b j := rfl
theorem hW2_I (m : Nat) (h : HS) (A B : Nat → Int64) : hI (hW2 m h A B) = hI h := rfl
theorem hW2_15 (m : Nat) (h : HS) (A B : Nat → Int64) (j : Nat) : hL (hW2 m h A B) (m + 15) j = A j := by
  unfold hW2
  rw [hL_sG, if_neg (by omega), hL_sG, if_pos rfl]
theorem hW2_16 (m : Nat) (h : HS) (A B : Nat → Int64) (j : Nat) : hL (hW2 m h A B) (m + 16) j = B j := by
  unfold hW2
  rw [hL_sG, if_pos rfl]
theorem hW2_s15 (m : Nat) (h : HS) (A B : Nat → Int64) (k : Nat) (v : Int64) : sL (hW2 m h A B) (m + 15) k v = hW2 m h (vp_updL A k v) B := by
  refine Prod.ext rfl (Prod.ext (funext fun b => funext fun j => ?_) rfl)
  show hL _ b j = hL _ b j
  unfold hW2
  simp only [hL_sL, hL_sG, vp_updL]
  by_cases e1 : b = m + 16
  · simp only [if_pos e1, if_neg (show ¬ (b = m + 15 ∧ j = k) by omega)]
  · by_cases e2 : b = m + 15
    · by_cases e3 : j = k
      · simp only [if_neg e1, if_pos e2, if_pos e3, if_pos (show b = m + 15 ∧ j = k from ⟨e2, e3⟩)]
      · simp only [if_neg e1, if_pos e2, if_neg e3, if_neg (show ¬ (b = m + 15 ∧ j = k) from fun q => e3 q.2)]
    · simp only [if_neg e1, if_neg e2, if_neg (show ¬ (b = m + 15 ∧ j = k) from fun q => e2 q.1)]
theorem hW2_s16 (m : Nat) (h : HS) (A B : Nat → Int64) (k : Nat) (v : Int64) : sL (hW2 m h A B) (m + 16) k v = hW2 m h A (vp_updL B k v) := by
  refine Prod.ext rfl (Prod.ext (funext fun b => funext fun j => ?_) rfl)
  show hL _ b j = hL _ b j
  unfold hW2
  simp only [hL_sL, hL_sG, vp_updL]
  by_cases e1 : b = m + 16
  · by_cases e3 : j = k
    · simp only [if_pos e1, if_pos e3, if_pos (show b = m + 16 ∧ j = k from ⟨e1, e3⟩)]
    · simp only [if_pos e1, if_neg e3, if_neg (show ¬ (b = m + 16 ∧ j = k) from fun q => e3 q.2)]
  · simp only [if_neg e1, if_neg (show ¬ (b = m + 16 ∧ j = k) from fun q => e1 q.1)]
theorem hW2_self (m : Nat) (h : HS) : hW2 m h (hL h (m + 15)) (hL h (m + 16)) = h := by
  refine Prod.ext rfl (Prod.ext (funext fun b => funext fun j => ?_) rfl)
  show hL _ b j = hL _ b j
  unfold hW2
  simp only [hL_sG]
  by_cases e1 : b = m + 16
  · simp only [if_pos e1]; rw [e1]
  · by_cases e2 : b = m + 15
    · simp only [if_neg e1, if_pos e2]; rw [e2]
    · simp only [if_neg e1, if_neg e2]
/-- the ways one step on, the first e letters worked off -/
def wE (go : Nat → Int32) (W : Nat → Int64) : Nat → Nat → Int64
  | 0 => fun _ => 0
  | e + 1 => if W (e / 24) ≤ 0 then wE go W e else if go e = -1 then wE go W e else vp_updL (wE go W e) (go e).toNatClampNeg (wE go W e (go e).toNatClampNeg + W (e / 24))
/-- the ways to the states, by i acts -/
def wN (go : Nat → Int32) (N : Nat) : Nat → Nat → Int64
  | 0 => fun s => if s = 0 then 1 else 0
  | i + 1 => wE go (wN go N i) (24 * N)
def bitN (v : Int32) : Int32 := nI (pcf v.toNatClampNeg v.toNatClampNeg)
/-- the strings that end in the first s states -/
def wS (W : Nat → Int64) (en : Nat → Int32) : Nat → Int64
  | 0 => 0
  | s + 1 => wS W en s + W s * (bitN (en s)).toInt64
theorem wE_stay {go : Nat → Int32} {W : Nat → Int64} {s : Nat} (hs : W s ≤ 0) : ∀ y k, k + y = 24 → wE go W (24 * s + 24) = wE go W (24 * s + k) := by
  intro y
  induction y with
  | zero => intro k hk; rw [show k = 24 by omega]
  | succ y ih =>
    intro k hk
    rw [ih (k + 1) (by omega), show 24 * s + (k + 1) = (24 * s + k) + 1 by omega, wE, show (24 * s + k) / 24 = s by omega, if_pos hs]
theorem wE_congr {go : Nat → Int32} {W W' : Nat → Int64} {N : Nat} (h : ∀ s, s < N → W s = W' s) : ∀ e, e ≤ 24 * N → wE go W e = wE go W' e := by
  intro e
  induction e with
  | zero => intro _; rfl
  | succ e ih => intro he; rw [wE, wE, ih (by omega), h (e / 24) (by omega)]
theorem wS_congr {W W' : Nat → Int64} {en : Nat → Int32} {N : Nat} (h : ∀ s, s < N → W s = W' s) : ∀ s, s ≤ N → wS W en s = wS W' en s := by
  intro s
  induction s with
  | zero => intro _; rfl
  | succ s ih => intro hs; rw [wS, wS, ih (by omega), h s (by omega)]
theorem lcmp_le {x : Int64} : lg_cmp x 0 ≤ 0 ↔ x ≤ 0 := by
  unfold lg_cmp
  by_cases h1 : (0 : Int64) < x
  · rw [if_pos (show x > 0 from h1)]
    exact ⟨fun q => absurd q (by decide), fun q => absurd h1 (Int64.not_lt.mpr q)⟩
  · rw [if_neg (show ¬ x > 0 from h1)]
    refine ⟨fun _ => Int64.not_lt.mp h1, fun _ => ?_⟩
    split <;> decide
section M34
variable {w : gD} {m : Nat} {h : HS}
theorem e_m_counts (hm : mSh m h) {N n : Nat} (g : GOk m h N) (hN1 : 0 < N) (hn : n < 100000) (b : Int32) (he : ∀ t, t < N → ∃ x, x < 65536 ∧ (if b = 0 then hI h (m + 8) t else hI h (m + 8) t &&& hI h (m + 9) t) = nI x) :
    Ev w 1 0 0 yX10_counts cX10_counts 6 (some .long) [.ref m, .int (nI n), .int b] h (fun r' h' => ∃ A B, h' = hW2 m h A B ∧ r' = some (.long (wS (wN (hI h (m + 7)) N n) (fun t => if b = 0 then hI h (m + 8) t else hI h (m + 8) t &&& hI h (m + 9) t) N))) := by
  refine g_start (by decide) (Nat.le_of_ble_eq_true rfl) [(0, _), (1, _), (2, _)] rfl (fun z hfl C => ?_)
  obtain ⟨hN0, hst, hgo⟩ := g
  generalize hen : (fun t => if b = 0 then hI h (m + 8) t else hI h (m + 8) t &&& hI h (m + 9) t) = en at *
  have he' : ∀ t, t < N → ∃ x, x < 65536 ∧ en t = nI x := fun t ht => by rw [← hen]; exact he t ht
  have sum : ∀ y s A B, s + y = N → (∀ t, t < N → A t = wN (hI h (m + 7)) N n t) → GW z w 6 (gQ z w 0 0 (fun r' h'' => ∃ A B, h'' = hW2 m h A B ∧ r' = some (.long (wS (wN (hI h (m + 7)) N n) en N)))) 0 0 198 [(0, .ref m), (1, .int (nI n)), (2, .int b), (3, .long (wS (wN (hI h (m + 7)) N n) en s)), (5, .int (nI s))] [] (hW2 m h A B) := by
    intro y
    induction y with
    | zero =>
      intro s A B hs hA
      refine g_iload C (gd DX10_counts_1 47 rfl) 4 rfl ?_
      refine g_aload_n C (gd DX10_counts_1 48 rfl) 0 rfl rfl ?_
      refine g_geti (ci := 10) (k := 42) C rfl (by decide) rfl lf_TestJudgeModel_357 hm.1 (gd DX10_counts_1 49 rfl) ?_
      rw [hW2_I, hst]
      refine g_icmp_ge C 257 (gd DX10_counts_1 50 rfl) (by decide) (fun c204 => ?_) (fun c204 => ?_)
      · refine g_lload_n C (gd DX10_counts_2 19 rfl) 3 rfl rfl ?_
        rw [show s = N by omega]
        exact g_lret C (by omega) (by omega) ⟨A, B, rfl, rfl⟩ (gd DX10_counts_2 20 rfl)
      · exact absurd (nI_le (a := N) (b := s) (by omega) (by omega)) c204
    | succ y ih =>
      intro s A B hs hA
      obtain ⟨x, hx, ex⟩ := he' s (by omega)
      have fin : ∀ v, v = en s → GW z w 6 (gQ z w 0 0 (fun r' h'' => ∃ A B, h'' = hW2 m h A B ∧ r' = some (.long (wS (wN (hI h (m + 7)) N n) en N)))) 0 0 244 [(0, .ref m), (1, .int (nI n)), (2, .int b), (3, .long (wS (wN (hI h (m + 7)) N n) en s)), (5, .int (nI s))] [.int v, .long (A s), .long (wS (wN (hI h (m + 7)) N n) en s)] (hW2 m h A B) := by
        intro v hv
        rw [hv, ex]
        refine g_cS1 C [_] mX10_bits lm_TestJudgeModel_402 (e_m_bits hx) hfl (by decide) (by decide) (by omega) (by omega) rfl rfl (Nat.le_of_ble_eq_true rfl) (gd DX10_counts_2 12 rfl) ?_
        refine g_i2l C (gd DX10_counts_2 13 rfl) ?_
        refine g_lmul C (gd DX10_counts_2 14 rfl) ?_
        refine g_ladd C (gd DX10_counts_2 15 rfl) ?_
        refine g_lstore_n (lv' := [(0, _), (1, _), (2, _), (3, _), (5, _)]) C (gd DX10_counts_2 16 rfl) [1, 2, 3, 0, 4] rfl (by decide) rfl ?_
        refine g_iinc (lv' := [(0, _), (1, _), (2, _), (3, _), (5, _)]) C (gd DX10_counts_2 17 rfl) 4 [1, 2, 3, 4, 0] rfl rfl (by decide) rfl ?_
        refine g_goto (tgt := 198) C (gd DX10_counts_2 18 rfl) (by decide) ?_
        refine GW.cast ?_ rfl rfl (ih (s + 1) A B (by omega) hA)
        rw [inc1, wS, hA s (by omega), bitN, ex, nI_clamp (by omega)]
      refine g_iload C (gd DX10_counts_1 47 rfl) 4 rfl ?_
      refine g_aload_n C (gd DX10_counts_1 48 rfl) 0 rfl rfl ?_
      refine g_geti (ci := 10) (k := 42) C rfl (by decide) rfl lf_TestJudgeModel_357 hm.1 (gd DX10_counts_1 49 rfl) ?_
      rw [hW2_I, hst]
      refine g_icmp_ge C 257 (gd DX10_counts_1 50 rfl) (by decide) (fun c204 => ?_) (fun c204 => ?_)
      · exact absurd c204 (nI_ge (a := s) (b := N) (by omega) (by omega))
      · refine g_lload_n C (gd DX10_counts_1 51 rfl) 3 rfl rfl ?_
        refine g_aload_n C (gd DX10_counts_1 52 rfl) 0 rfl rfl ?_
        refine g_getr (ci := 10) (k := 44) C rfl (by decide) rfl lf_TestJudgeModel_66 hm.1 (hm.2 44 15 13 16500 rfl).1 (gd DX10_counts_1 53 rfl) ?_
        refine g_iload C (gd DX10_counts_1 54 rfl) 4 rfl ?_
        refine g_laj (j := s) C (hm.2 44 15 13 16500 rfl).2.1 (hm.2 44 15 13 16500 rfl).2.2 (by decide) rfl (by omega) (gd DX10_counts_1 55 rfl) ?_
        rw [hW2_15]
        refine g_iload_n C (gd DX10_counts_1 56 rfl) 2 rfl rfl ?_
        refine g_if_eq C 237 (gd DX10_counts_1 57 rfl) (by decide) (fun c216 => ?_) (fun c216 => ?_)
        · refine g_aload_n C (gd DX10_counts_2 8 rfl) 0 rfl rfl ?_
          refine g_getr (ci := 10) (k := 36) C rfl (by decide) rfl lf_TestJudgeModel_44 hm.1 (hm.2 36 8 12 16500 rfl).1 (gd DX10_counts_2 9 rfl) ?_
          refine g_iload C (gd DX10_counts_2 10 rfl) 4 rfl ?_
          refine g_iaj (j := s) C (hm.2 36 8 12 16500 rfl).2.1 (hm.2 36 8 12 16500 rfl).2.2 (by decide) rfl (by omega) (gd DX10_counts_2 11 rfl) ?_
          exact fin _ (by rw [← hen]; exact (if_pos c216).symm)
        · refine g_aload_n C (gd DX10_counts_1 58 rfl) 0 rfl rfl ?_
          refine g_getr (ci := 10) (k := 36) C rfl (by decide) rfl lf_TestJudgeModel_44 hm.1 (hm.2 36 8 12 16500 rfl).1 (gd DX10_counts_1 59 rfl) ?_
          refine g_iload C (gd DX10_counts_2 0 rfl) 4 rfl ?_
          refine g_iaj (j := s) C (hm.2 36 8 12 16500 rfl).2.1 (hm.2 36 8 12 16500 rfl).2.2 (by decide) rfl (by omega) (gd DX10_counts_2 1 rfl) ?_
          refine g_aload_n C (gd DX10_counts_2 2 rfl) 0 rfl rfl ?_
          refine g_getr (ci := 10) (k := 37) C rfl (by decide) rfl lf_TestJudgeModel_47 hm.1 (hm.2 37 9 12 16500 rfl).1 (gd DX10_counts_2 3 rfl) ?_
          refine g_iload C (gd DX10_counts_2 4 rfl) 4 rfl ?_
          refine g_iaj (j := s) C (hm.2 37 9 12 16500 rfl).2.1 (hm.2 37 9 12 16500 rfl).2.2 (by decide) rfl (by omega) (gd DX10_counts_2 5 rfl) ?_
          refine g_iand C (gd DX10_counts_2 6 rfl) ?_
          refine g_goto (tgt := 244) C (gd DX10_counts_2 7 rfl) (by decide) ?_
          exact fin _ (by rw [← hen]; exact (if_neg c216).symm)
  have copy : ∀ i, (∀ A B, (∀ t, t < N → A t = wN (hI h (m + 7)) N (i + 1) t) → GW z w 6 (gQ z w 0 0 (fun r' h'' => ∃ A B, h'' = hW2 m h A B ∧ r' = some (.long (wS (wN (hI h (m + 7)) N n) en N)))) 0 0 33 [(0, .ref m), (1, .int (nI n)), (2, .int b), (3, .int (nI (i + 1)))] [] (hW2 m h A B)) → ∀ y s A B, s + y = N → (∀ t, t < s → A t = wN (hI h (m + 7)) N (i + 1) t) → (∀ t, t < N → B t = wN (hI h (m + 7)) N (i + 1) t) → GW z w 6 (gQ z w 0 0 (fun r' h'' => ∃ A B, h'' = hW2 m h A B ∧ r' = some (.long (wS (wN (hI h (m + 7)) N n) en N)))) 0 0 158 [(0, .ref m), (1, .int (nI n)), (2, .int b), (3, .int (nI i)), (4, .int (nI s))] [] (hW2 m h A B) := by
    intro i hnx y
    induction y with
    | zero =>
      intro s A B hs hA hB
      refine g_iload C (gd DX10_counts_1 27 rfl) 4 rfl ?_
      refine g_aload_n C (gd DX10_counts_1 28 rfl) 0 rfl rfl ?_
      refine g_geti (ci := 10) (k := 42) C rfl (by decide) rfl lf_TestJudgeModel_357 hm.1 (gd DX10_counts_1 29 rfl) ?_
      rw [hW2_I, hst]
      refine g_icmp_ge C 187 (gd DX10_counts_1 30 rfl) (by decide) (fun c164 => ?_) (fun c164 => ?_)
      · refine g_iinc (lv' := [(0, _), (1, _), (2, _), (3, _), (4, _)]) C (gd DX10_counts_1 41 rfl) 3 [1, 2, 3, 0, 4] rfl rfl (by decide) rfl ?_
        refine g_goto (tgt := 33) C (gd DX10_counts_1 42 rfl) (by decide) ?_
        refine GW.sub [0, 1, 2, 3] rfl (Nat.le_refl _) (Nat.le_refl _) (lv' := [(0, _), (1, _), (2, _), (3, _)]) ?_
        refine GW.cast (by rw [inc1]) rfl rfl (hnx A B (fun t ht => hA t (by omega)))
      · exact absurd (nI_le (a := N) (b := s) (by omega) (by omega)) c164
    | succ y ih =>
      intro s A B hs hA hB
      refine g_iload C (gd DX10_counts_1 27 rfl) 4 rfl ?_
      refine g_aload_n C (gd DX10_counts_1 28 rfl) 0 rfl rfl ?_
      refine g_geti (ci := 10) (k := 42) C rfl (by decide) rfl lf_TestJudgeModel_357 hm.1 (gd DX10_counts_1 29 rfl) ?_
      rw [hW2_I, hst]
      refine g_icmp_ge C 187 (gd DX10_counts_1 30 rfl) (by decide) (fun c164 => ?_) (fun c164 => ?_)
      · exact absurd c164 (nI_ge (a := s) (b := N) (by omega) (by omega))
      · refine g_aload_n C (gd DX10_counts_1 31 rfl) 0 rfl rfl ?_
        refine g_getr (ci := 10) (k := 44) C rfl (by decide) rfl lf_TestJudgeModel_66 hm.1 (hm.2 44 15 13 16500 rfl).1 (gd DX10_counts_1 32 rfl) ?_
        refine g_iload C (gd DX10_counts_1 33 rfl) 4 rfl ?_
        refine g_aload_n C (gd DX10_counts_1 34 rfl) 0 rfl rfl ?_
        refine g_getr (ci := 10) (k := 45) C rfl (by decide) rfl lf_TestJudgeModel_69 hm.1 (hm.2 45 16 13 16500 rfl).1 (gd DX10_counts_1 35 rfl) ?_
        refine g_iload C (gd DX10_counts_1 36 rfl) 4 rfl ?_
        refine g_laj (j := s) C (hm.2 45 16 13 16500 rfl).2.1 (hm.2 45 16 13 16500 rfl).2.2 (by decide) rfl (by omega) (gd DX10_counts_1 37 rfl) ?_
        rw [hW2_16]
        refine g_lsj (j := s) C (hm.2 44 15 13 16500 rfl).2.1 (hm.2 44 15 13 16500 rfl).2.2 (by decide) rfl (by omega) (gd DX10_counts_1 38 rfl) ?_
        rw [hW2_s15]
        refine g_iinc (lv' := [(0, _), (1, _), (2, _), (3, _), (4, _)]) C (gd DX10_counts_1 39 rfl) 4 [1, 2, 3, 4, 0] rfl rfl (by decide) rfl ?_
        refine g_goto (tgt := 158) C (gd DX10_counts_1 40 rfl) (by decide) ?_
        refine GW.cast (by rw [inc1]) rfl rfl (ih (s + 1) _ B (by omega) (fun t ht => ?_) hB)
        by_cases e : t = s
        · rw [e, pk_uLs, hB s (by omega)]
        · rw [pk_uLn e]; exact hA t (by omega)
  have work : ∀ i, (∀ A B, (∀ t, t < N → A t = wN (hI h (m + 7)) N (i + 1) t) → GW z w 6 (gQ z w 0 0 (fun r' h'' => ∃ A B, h'' = hW2 m h A B ∧ r' = some (.long (wS (wN (hI h (m + 7)) N n) en N)))) 0 0 33 [(0, .ref m), (1, .int (nI n)), (2, .int b), (3, .int (nI (i + 1)))] [] (hW2 m h A B)) → ∀ A, (∀ t, t < N → A t = wN (hI h (m + 7)) N i t) → ∀ y s B, s + y = N → (∀ t, t < N → B t = wE (hI h (m + 7)) (wN (hI h (m + 7)) N i) (24 * s) t) → GW z w 6 (gQ z w 0 0 (fun r' h'' => ∃ A B, h'' = hW2 m h A B ∧ r' = some (.long (wS (wN (hI h (m + 7)) N n) en N)))) 0 0 67 [(0, .ref m), (1, .int (nI n)), (2, .int b), (3, .int (nI i)), (4, .int (nI s))] [] (hW2 m h A B) := by
    intro i hnx A hA y
    induction y with
    | zero =>
      intro s B hs hB
      refine g_iload C (gd DX10_counts_0 37 rfl) 4 rfl ?_
      refine g_aload_n C (gd DX10_counts_0 38 rfl) 0 rfl rfl ?_
      refine g_geti (ci := 10) (k := 42) C rfl (by decide) rfl lf_TestJudgeModel_357 hm.1 (gd DX10_counts_0 39 rfl) ?_
      rw [hW2_I, hst]
      refine g_icmp_ge C 155 (gd DX10_counts_0 40 rfl) (by decide) (fun c73 => ?_) (fun c73 => ?_)
      · refine g_iconst (v := 0) C (gd DX10_counts_1 25 rfl) (by decide) ?_
        refine g_istore (lv' := [(0, _), (1, _), (2, _), (3, _), (4, _)]) C (gd DX10_counts_1 26 rfl) [1, 2, 3, 4, 0] (by decide) rfl ?_
        refine copy i hnx N 0 A B (by omega) (fun t ht => by omega) (fun t ht => ?_)
        rw [hB t ht, wN, show s = N by omega]
      · exact absurd (nI_le (a := N) (b := s) (by omega) (by omega)) c73
    | succ y ih =>
      intro s B hs hB
      have inner : ∀ y k B, k + y = 24 → (∀ t, t < N → B t = wE (hI h (m + 7)) (wN (hI h (m + 7)) N i) (24 * s + k) t) → GW z w 6 (gQ z w 0 0 (fun r' h'' => ∃ A B, h'' = hW2 m h A B ∧ r' = some (.long (wS (wN (hI h (m + 7)) N n) en N)))) 0 0 79 [(0, .ref m), (1, .int (nI n)), (2, .int b), (3, .int (nI i)), (4, .int (nI s)), (5, .int (nI k))] [] (hW2 m h A B) := by
        intro y
        induction y with
        | zero =>
          intro k B hk hB
          refine g_iload C (gd DX10_counts_0 43 rfl) 5 rfl ?_
          refine g_bipush (v := 24) C (gd DX10_counts_0 44 rfl) (by decide) ?_
          refine g_icmp_ge C 149 (gd DX10_counts_0 45 rfl) (by decide) (fun c83 => ?_) (fun c83 => ?_)
          · refine GW.sub [0, 1, 2, 3, 4, 5] rfl (Nat.le_refl _) (Nat.le_refl _) (lv' := [(0, _), (1, _), (2, _), (3, _), (4, _), (5, _)]) ?_
            refine g_iinc (lv' := [(0, _), (1, _), (2, _), (3, _), (4, _), (5, _)]) C (gd DX10_counts_1 23 rfl) 4 [1, 2, 3, 4, 0, 5] rfl rfl (by decide) rfl ?_
            refine g_goto (tgt := 67) C (gd DX10_counts_1 24 rfl) (by decide) ?_
            refine GW.sub [0, 1, 2, 3, 4] rfl (Nat.le_refl _) (Nat.le_refl _) (lv' := [(0, _), (1, _), (2, _), (3, _), (4, _)]) ?_
            refine GW.cast (by rw [inc1]) rfl rfl (ih (s + 1) B (by omega) (fun t ht => ?_))
            rw [hB t ht, show 24 * (s + 1) = 24 * s + k by omega]
          · exact absurd (nI_le (a := 24) (b := k) (by omega) (by omega)) c83
        | succ y ihy =>
          intro k B hk hB
          have hAs := hA s (by omega)
          refine g_iload C (gd DX10_counts_0 43 rfl) 5 rfl ?_
          refine g_bipush (v := 24) C (gd DX10_counts_0 44 rfl) (by decide) ?_
          refine g_icmp_ge C 149 (gd DX10_counts_0 45 rfl) (by decide) (fun c83 => ?_) (fun c83 => ?_)
          · exact absurd c83 (nI_ge (a := k) (b := 24) (by omega) (by omega))
          · refine g_aload_n C (gd DX10_counts_0 46 rfl) 0 rfl rfl ?_
            refine g_getr (ci := 10) (k := 44) C rfl (by decide) rfl lf_TestJudgeModel_66 hm.1 (hm.2 44 15 13 16500 rfl).1 (gd DX10_counts_0 47 rfl) ?_
            refine g_iload C (gd DX10_counts_0 48 rfl) 4 rfl ?_
            refine g_laj (j := s) C (hm.2 44 15 13 16500 rfl).2.1 (hm.2 44 15 13 16500 rfl).2.2 (by decide) rfl (by omega) (gd DX10_counts_0 49 rfl) ?_
            rw [hW2_15]
            refine g_lconst (v := 0) C (gd DX10_counts_0 50 rfl) (by decide) ?_
            refine g_lcmp C (gd DX10_counts_0 51 rfl) ?_
            refine g_if_le C 149 (gd DX10_counts_0 52 rfl) (by decide) (fun c95 => ?_) (fun c95 => ?_)
            · rw [lcmp_le, hAs] at c95
              refine GW.sub [0, 1, 2, 3, 4, 5] rfl (Nat.le_refl _) (Nat.le_refl _) (lv' := [(0, _), (1, _), (2, _), (3, _), (4, _), (5, _)]) ?_
              refine g_iinc (lv' := [(0, _), (1, _), (2, _), (3, _), (4, _), (5, _)]) C (gd DX10_counts_1 23 rfl) 4 [1, 2, 3, 4, 0, 5] rfl rfl (by decide) rfl ?_
              refine g_goto (tgt := 67) C (gd DX10_counts_1 24 rfl) (by decide) ?_
              refine GW.sub [0, 1, 2, 3, 4] rfl (Nat.le_refl _) (Nat.le_refl _) (lv' := [(0, _), (1, _), (2, _), (3, _), (4, _)]) ?_
              refine GW.cast (by rw [inc1]) rfl rfl (ih (s + 1) B (by omega) (fun t ht => ?_))
              rw [hB t ht, show 24 * (s + 1) = 24 * s + 24 by omega, wE_stay c95 (y + 1) k hk]
            · rw [lcmp_le, hAs] at c95
              refine g_aload_n C (gd DX10_counts_0 53 rfl) 0 rfl rfl ?_
              refine g_getr (ci := 10) (k := 35) C rfl (by decide) rfl lf_TestJudgeModel_41 hm.1 (hm.2 35 7 12 396000 rfl).1 (gd DX10_counts_0 54 rfl) ?_
              refine g_bipush (v := 24) C (gd DX10_counts_0 55 rfl) (by decide) ?_
              refine g_iload C (gd DX10_counts_0 56 rfl) 4 rfl ?_
              refine g_imul C (gd DX10_counts_0 57 rfl) ?_
              refine g_iload C (gd DX10_counts_0 58 rfl) 5 rfl ?_
              refine g_iadd C (gd DX10_counts_0 59 rfl) ?_
              refine g_iaj (j := ((24 * s) + k)) C (hm.2 35 7 12 396000 rfl).2.1 (hm.2 35 7 12 396000 rfl).2.2 (by decide) (nx_add (nx_mul rfl rfl) rfl) (by omega) (gd DX10_counts_1 0 rfl) ?_
              rw [hW2_I]
              refine g_iconst (v := -1) C (gd DX10_counts_1 1 rfl) (by decide) ?_
              refine g_icmp_eq C 143 (gd DX10_counts_1 2 rfl) (by decide) (fun c112 => ?_) (fun c112 => ?_)
              · refine g_iinc (lv' := [(0, _), (1, _), (2, _), (3, _), (4, _), (5, _)]) C (gd DX10_counts_1 21 rfl) 5 [1, 2, 3, 4, 5, 0] rfl rfl (by decide) rfl ?_
                refine g_goto (tgt := 79) C (gd DX10_counts_1 22 rfl) (by decide) ?_
                refine GW.cast (by rw [inc1]) rfl rfl (ihy (k + 1) B (by omega) (fun t ht => ?_))
                rw [hB t ht, show 24 * s + (k + 1) = (24 * s + k) + 1 by omega, wE, show (24 * s + k) / 24 = s by omega, if_neg c95, if_pos c112]
              · obtain ⟨j, hj, ej⟩ : ∃ j, j < N ∧ hI h (m + 7) (24 * s + k) = nI j := by
                  rcases hgo (24 * s + k) (by omega) with q | q
                  · exact absurd q c112
                  · exact q
                refine g_aload_n C (gd DX10_counts_1 3 rfl) 0 rfl rfl ?_
                refine g_getr (ci := 10) (k := 45) C rfl (by decide) rfl lf_TestJudgeModel_69 hm.1 (hm.2 45 16 13 16500 rfl).1 (gd DX10_counts_1 4 rfl) ?_
                refine g_aload_n C (gd DX10_counts_1 5 rfl) 0 rfl rfl ?_
                refine g_getr (ci := 10) (k := 35) C rfl (by decide) rfl lf_TestJudgeModel_41 hm.1 (hm.2 35 7 12 396000 rfl).1 (gd DX10_counts_1 6 rfl) ?_
                refine g_bipush (v := 24) C (gd DX10_counts_1 7 rfl) (by decide) ?_
                refine g_iload C (gd DX10_counts_1 8 rfl) 4 rfl ?_
                refine g_imul C (gd DX10_counts_1 9 rfl) ?_
                refine g_iload C (gd DX10_counts_1 10 rfl) 5 rfl ?_
                refine g_iadd C (gd DX10_counts_1 11 rfl) ?_
                refine g_iaj (j := ((24 * s) + k)) C (hm.2 35 7 12 396000 rfl).2.1 (hm.2 35 7 12 396000 rfl).2.2 (by decide) (nx_add (nx_mul rfl rfl) rfl) (by omega) (gd DX10_counts_1 12 rfl) ?_
                rw [hW2_I, ej]
                refine g_dup2 C (gd DX10_counts_1 13 rfl) rfl rfl ?_
                refine g_laj (j := j) C (hm.2 45 16 13 16500 rfl).2.1 (hm.2 45 16 13 16500 rfl).2.2 (by decide) rfl (by omega) (gd DX10_counts_1 14 rfl) ?_
                rw [hW2_16]
                refine g_aload_n C (gd DX10_counts_1 15 rfl) 0 rfl rfl ?_
                refine g_getr (ci := 10) (k := 44) C rfl (by decide) rfl lf_TestJudgeModel_66 hm.1 (hm.2 44 15 13 16500 rfl).1 (gd DX10_counts_1 16 rfl) ?_
                refine g_iload C (gd DX10_counts_1 17 rfl) 4 rfl ?_
                refine g_laj (j := s) C (hm.2 44 15 13 16500 rfl).2.1 (hm.2 44 15 13 16500 rfl).2.2 (by decide) rfl (by omega) (gd DX10_counts_1 18 rfl) ?_
                rw [hW2_15]
                refine g_ladd C (gd DX10_counts_1 19 rfl) ?_
                refine g_lsj (j := j) C (hm.2 45 16 13 16500 rfl).2.1 (hm.2 45 16 13 16500 rfl).2.2 (by decide) rfl (by omega) (gd DX10_counts_1 20 rfl) ?_
                rw [hW2_s16]
                refine g_iinc (lv' := [(0, _), (1, _), (2, _), (3, _), (4, _), (5, _)]) C (gd DX10_counts_1 21 rfl) 5 [1, 2, 3, 4, 5, 0] rfl rfl (by decide) rfl ?_
                refine g_goto (tgt := 79) C (gd DX10_counts_1 22 rfl) (by decide) ?_
                refine GW.cast (by rw [inc1]) rfl rfl (ihy (k + 1) _ (by omega) (fun t ht => ?_))
                rw [show 24 * s + (k + 1) = (24 * s + k) + 1 by omega, wE, show (24 * s + k) / 24 = s by omega, if_neg c95, if_neg c112, ej, nI_clamp (by omega)]
                by_cases e : t = j
                · rw [e, pk_uLs, pk_uLs, hB j hj, hAs]
                · rw [pk_uLn e, pk_uLn e]; exact hB t ht
      refine g_iload C (gd DX10_counts_0 37 rfl) 4 rfl ?_
      refine g_aload_n C (gd DX10_counts_0 38 rfl) 0 rfl rfl ?_
      refine g_geti (ci := 10) (k := 42) C rfl (by decide) rfl lf_TestJudgeModel_357 hm.1 (gd DX10_counts_0 39 rfl) ?_
      rw [hW2_I, hst]
      refine g_icmp_ge C 155 (gd DX10_counts_0 40 rfl) (by decide) (fun c73 => ?_) (fun c73 => ?_)
      · exact absurd c73 (nI_ge (a := s) (b := N) (by omega) (by omega))
      · refine g_iconst (v := 0) C (gd DX10_counts_0 41 rfl) (by decide) ?_
        refine g_istore (lv' := [(0, _), (1, _), (2, _), (3, _), (4, _), (5, _)]) C (gd DX10_counts_0 42 rfl) [1, 2, 3, 4, 5, 0] (by decide) rfl ?_
        exact inner 24 0 B (by omega) hB
  have zero : ∀ i, (∀ A B, (∀ t, t < N → A t = wN (hI h (m + 7)) N (i + 1) t) → GW z w 6 (gQ z w 0 0 (fun r' h'' => ∃ A B, h'' = hW2 m h A B ∧ r' = some (.long (wS (wN (hI h (m + 7)) N n) en N)))) 0 0 33 [(0, .ref m), (1, .int (nI n)), (2, .int b), (3, .int (nI (i + 1)))] [] (hW2 m h A B)) → ∀ A, (∀ t, t < N → A t = wN (hI h (m + 7)) N i t) → ∀ y s B, s + y = N → (∀ t, t < s → B t = 0) → GW z w 6 (gQ z w 0 0 (fun r' h'' => ∃ A B, h'' = hW2 m h A B ∧ r' = some (.long (wS (wN (hI h (m + 7)) N n) en N)))) 0 0 41 [(0, .ref m), (1, .int (nI n)), (2, .int b), (3, .int (nI i)), (4, .int (nI s))] [] (hW2 m h A B) := by
    intro i hnx A hA y
    induction y with
    | zero =>
      intro s B hs hB
      refine g_iload C (gd DX10_counts_0 24 rfl) 4 rfl ?_
      refine g_aload_n C (gd DX10_counts_0 25 rfl) 0 rfl rfl ?_
      refine g_geti (ci := 10) (k := 42) C rfl (by decide) rfl lf_TestJudgeModel_357 hm.1 (gd DX10_counts_0 26 rfl) ?_
      rw [hW2_I, hst]
      refine g_icmp_ge C 64 (gd DX10_counts_0 27 rfl) (by decide) (fun c47 => ?_) (fun c47 => ?_)
      · refine g_iconst (v := 0) C (gd DX10_counts_0 35 rfl) (by decide) ?_
        refine g_istore (lv' := [(0, _), (1, _), (2, _), (3, _), (4, _)]) C (gd DX10_counts_0 36 rfl) [1, 2, 3, 4, 0] (by decide) rfl ?_
        exact work i hnx A hA N 0 B (by omega) (fun t ht => hB t (by omega))
      · exact absurd (nI_le (a := N) (b := s) (by omega) (by omega)) c47
    | succ y ih =>
      intro s B hs hB
      refine g_iload C (gd DX10_counts_0 24 rfl) 4 rfl ?_
      refine g_aload_n C (gd DX10_counts_0 25 rfl) 0 rfl rfl ?_
      refine g_geti (ci := 10) (k := 42) C rfl (by decide) rfl lf_TestJudgeModel_357 hm.1 (gd DX10_counts_0 26 rfl) ?_
      rw [hW2_I, hst]
      refine g_icmp_ge C 64 (gd DX10_counts_0 27 rfl) (by decide) (fun c47 => ?_) (fun c47 => ?_)
      · exact absurd c47 (nI_ge (a := s) (b := N) (by omega) (by omega))
      · refine g_aload_n C (gd DX10_counts_0 28 rfl) 0 rfl rfl ?_
        refine g_getr (ci := 10) (k := 45) C rfl (by decide) rfl lf_TestJudgeModel_69 hm.1 (hm.2 45 16 13 16500 rfl).1 (gd DX10_counts_0 29 rfl) ?_
        refine g_iload C (gd DX10_counts_0 30 rfl) 4 rfl ?_
        refine g_lconst (v := 0) C (gd DX10_counts_0 31 rfl) (by decide) ?_
        refine g_lsj (j := s) C (hm.2 45 16 13 16500 rfl).2.1 (hm.2 45 16 13 16500 rfl).2.2 (by decide) rfl (by omega) (gd DX10_counts_0 32 rfl) ?_
        rw [hW2_s16]
        refine g_iinc (lv' := [(0, _), (1, _), (2, _), (3, _), (4, _)]) C (gd DX10_counts_0 33 rfl) 4 [1, 2, 3, 4, 0] rfl rfl (by decide) rfl ?_
        refine g_goto (tgt := 41) C (gd DX10_counts_0 34 rfl) (by decide) ?_
        refine GW.cast (by rw [inc1]) rfl rfl (ih (s + 1) _ (by omega) (fun t ht => ?_))
        by_cases e : t = s
        · rw [e, pk_uLs]
        · rw [pk_uLn e]; exact hB t (by omega)
  have main : ∀ y i A B, i + y = n → (∀ t, t < N → A t = wN (hI h (m + 7)) N i t) → GW z w 6 (gQ z w 0 0 (fun r' h'' => ∃ A B, h'' = hW2 m h A B ∧ r' = some (.long (wS (wN (hI h (m + 7)) N n) en N)))) 0 0 33 [(0, .ref m), (1, .int (nI n)), (2, .int b), (3, .int (nI i))] [] (hW2 m h A B) := by
    intro y
    induction y with
    | zero =>
      intro i A B hi hA
      refine g_iload_n C (gd DX10_counts_0 19 rfl) 3 rfl rfl ?_
      refine g_iload_n C (gd DX10_counts_0 20 rfl) 1 rfl rfl ?_
      refine g_icmp_ge C 193 (gd DX10_counts_0 21 rfl) (by decide) (fun c35 => ?_) (fun c35 => ?_)
      · refine g_lconst (v := 0) C (gd DX10_counts_1 43 rfl) (by decide) ?_
        refine g_lstore_n (lv' := [(0, _), (1, _), (2, _), (3, _)]) C (gd DX10_counts_1 44 rfl) [1, 2, 3, 0] rfl (by decide) rfl ?_
        refine g_iconst (v := 0) C (gd DX10_counts_1 45 rfl) (by decide) ?_
        refine g_istore (lv' := [(0, _), (1, _), (2, _), (3, _), (5, _)]) C (gd DX10_counts_1 46 rfl) [1, 2, 3, 4, 0] (by decide) rfl ?_
        exact sum N 0 A B (by omega) (fun t ht => by rw [hA t ht, show i = n by omega])
      · exact absurd (nI_le (a := n) (b := i) (by omega) (by omega)) c35
    | succ y ih =>
      intro i A B hi hA
      refine g_iload_n C (gd DX10_counts_0 19 rfl) 3 rfl rfl ?_
      refine g_iload_n C (gd DX10_counts_0 20 rfl) 1 rfl rfl ?_
      refine g_icmp_ge C 193 (gd DX10_counts_0 21 rfl) (by decide) (fun c35 => ?_) (fun c35 => ?_)
      · exact absurd c35 (nI_ge (a := i) (b := n) (by omega) (by omega))
      · refine g_iconst (v := 0) C (gd DX10_counts_0 22 rfl) (by decide) ?_
        refine g_istore (lv' := [(0, _), (1, _), (2, _), (3, _), (4, _)]) C (gd DX10_counts_0 23 rfl) [1, 2, 3, 4, 0] (by decide) rfl ?_
        exact zero i (fun A B q => ih (i + 1) A B (by omega) q) A hA N 0 B (by omega) (fun t ht => by omega)
  have init : ∀ y s A B, s + y = N → (∀ t, t < s → A t = if t = 0 then 1 else 0) → GW z w 6 (gQ z w 0 0 (fun r' h'' => ∃ A B, h'' = hW2 m h A B ∧ r' = some (.long (wS (wN (hI h (m + 7)) N n) en N)))) 0 0 2 [(0, .ref m), (1, .int (nI n)), (2, .int b), (3, .int (nI s))] [] (hW2 m h A B) := by
    intro y
    induction y with
    | zero =>
      intro s A B hs hA
      refine g_iload_n C (gd DX10_counts_0 2 rfl) 3 rfl rfl ?_
      refine g_aload_n C (gd DX10_counts_0 3 rfl) 0 rfl rfl ?_
      refine g_geti (ci := 10) (k := 42) C rfl (by decide) rfl lf_TestJudgeModel_357 hm.1 (gd DX10_counts_0 4 rfl) ?_
      rw [hW2_I, hst]
      refine g_icmp_ge C 31 (gd DX10_counts_0 5 rfl) (by decide) (fun c7 => ?_) (fun c7 => ?_)
      · refine g_iconst (v := 0) C (gd DX10_counts_0 17 rfl) (by decide) ?_
        refine g_istore_n (lv' := [(0, _), (1, _), (2, _), (3, _)]) C (gd DX10_counts_0 18 rfl) [1, 2, 3, 0] rfl (by decide) rfl ?_
        exact main n 0 A B (by omega) (fun t ht => hA t (by omega))
      · exact absurd (nI_le (a := N) (b := s) (by omega) (by omega)) c7
    | succ y ih =>
      intro s A B hs hA
      have fin : ∀ v, v = (if s = 0 then 1 else 0) → GW z w 6 (gQ z w 0 0 (fun r' h'' => ∃ A B, h'' = hW2 m h A B ∧ r' = some (.long (wS (wN (hI h (m + 7)) N n) en N)))) 0 0 24 [(0, .ref m), (1, .int (nI n)), (2, .int b), (3, .int (nI s))] [.long v, .int (nI s), .ref (m + 15)] (hW2 m h A B) := by
        intro v hv
        refine g_lsj (j := s) C (hm.2 44 15 13 16500 rfl).2.1 (hm.2 44 15 13 16500 rfl).2.2 (by decide) rfl (by omega) (gd DX10_counts_0 14 rfl) ?_
        rw [hW2_s15]
        refine g_iinc (lv' := [(0, _), (1, _), (2, _), (3, _)]) C (gd DX10_counts_0 15 rfl) 3 [1, 2, 3, 0] rfl rfl (by decide) rfl ?_
        refine g_goto (tgt := 2) C (gd DX10_counts_0 16 rfl) (by decide) ?_
        refine GW.cast (by rw [inc1]) rfl rfl (ih (s + 1) _ B (by omega) (fun t ht => ?_))
        by_cases e : t = s
        · rw [e, pk_uLs, hv]
        · rw [pk_uLn e]; exact hA t (by omega)
      refine g_iload_n C (gd DX10_counts_0 2 rfl) 3 rfl rfl ?_
      refine g_aload_n C (gd DX10_counts_0 3 rfl) 0 rfl rfl ?_
      refine g_geti (ci := 10) (k := 42) C rfl (by decide) rfl lf_TestJudgeModel_357 hm.1 (gd DX10_counts_0 4 rfl) ?_
      rw [hW2_I, hst]
      refine g_icmp_ge C 31 (gd DX10_counts_0 5 rfl) (by decide) (fun c7 => ?_) (fun c7 => ?_)
      · exact absurd c7 (nI_ge (a := s) (b := N) (by omega) (by omega))
      · refine g_aload_n C (gd DX10_counts_0 6 rfl) 0 rfl rfl ?_
        refine g_getr (ci := 10) (k := 44) C rfl (by decide) rfl lf_TestJudgeModel_66 hm.1 (hm.2 44 15 13 16500 rfl).1 (gd DX10_counts_0 7 rfl) ?_
        refine g_iload_n C (gd DX10_counts_0 8 rfl) 3 rfl rfl ?_
        refine g_iload_n C (gd DX10_counts_0 9 rfl) 3 rfl rfl ?_
        refine g_if_ne C 23 (gd DX10_counts_0 10 rfl) (by decide) (fun c16 => ?_) (fun c16 => ?_)
        · refine g_lconst (v := 0) C (gd DX10_counts_0 13 rfl) (by decide) ?_
          exact fin 0 (by rw [if_neg]; intro q; subst q; exact c16 rfl)
        · refine g_lconst (v := 1) C (gd DX10_counts_0 11 rfl) (by decide) ?_
          refine g_goto (tgt := 24) C (gd DX10_counts_0 12 rfl) (by decide) ?_
          have q : s = 0 := Classical.byContradiction (fun q => absurd c16 (nI_ne0 (by omega) (by omega)))
          exact fin 1 (by rw [if_pos q])
  refine g_iconst (v := 0) C (gd DX10_counts_0 0 rfl) (by decide) ?_
  refine g_istore_n (lv' := [(0, _), (1, _), (2, _), (3, _)]) C (gd DX10_counts_0 1 rfl) [1, 2, 3, 0] rfl (by decide) rfl ?_
  exact GW.cast rfl rfl (hW2_self m h).symm (init N 0 _ _ (by omega) (fun t ht => by omega))
end M34
