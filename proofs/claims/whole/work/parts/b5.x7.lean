/-! The class's questions over the table: rests, rest, far, next, clear -/
/-- a built table answers -/
def tbQ (V : aV) (F : (Nat → Nat → Int32) → Int32 → Int32 → Prop) (r : Nat) (v st : Int32) : Prop := ∃ ρ, tbO (vP1 V (vS V) (vPR V r)) ρ ∧ F ρ v st
def fRes (ρ : Nat → Nat → Int32) (v st : Int32) : Prop := v = ρ 0 0 ∧ st = 0
/-- the k-th of a row -/
def fAt (a : Nat) (k : Int32) (ρ : Nat → Nat → Int32) (v st : Int32) : Prop := (∃ n i, tbN n ρ ∧ i < n ∧ k = nI i ∧ v = ρ a i ∧ st = 0) ∨ (¬ (¬ k < 0 ∧ ¬ ρ 0 0 ≤ k) ∧ v = -1 ∧ st = 5)
def fNxt (k : Int32) (l : Nat) (ρ : Nat → Nat → Int32) (v st : Int32) : Prop := ((∃ n i, tbN n ρ ∧ i < n ∧ k = nI i ∧ v = ρ 3 (24 * i + l)) ∨ (¬ (¬ k < 0 ∧ ¬ ρ 0 0 ≤ k) ∧ v = -1)) ∧ st = (if v = -1 then 5 else 0)
def fClr (ρ : Nat → Nat → Int32) (v st : Int32) : Prop := ∃ n, tbN n ρ ∧ ((v = 1 ∧ ∀ i, i < 8 * n → clN (ρ 1 (i / 8)) (fun i k => ρ 3 (24 * i + k)) 3 (i / 8) (i % 8) ≤ 1) ∨ (v = 0 ∧ ¬ ∀ i, i < 8 * n → clN (ρ 1 (i / 8)) (fun i k => ρ 3 (24 * i + k)) 3 (i / 8) (i % 8) ≤ 1)) ∧ st = 0
def letP (V : aV) (a c : Int32) : Prop := (0 ≤ a ∧ a ≤ atF (nI (vNt V)) - 1) ∧ (0 ≤ c ∧ c ≤ nI (vNa V) - 1)
def qNxt (V : aV) (p k a c : Int32) (v st : Int32) : Prop := (¬ (inP (vNp V) p ∧ letP V a c) ∧ v = -1 ∧ st = 2) ∨ ∃ r y z, r < vNp V ∧ p = nI r ∧ y < 8 ∧ z < 3 ∧ a = nI y ∧ c = nI z ∧ letP V a c ∧ tbQ V (fNxt k (3 * y + z)) r v st
section X7
variable {w : gD} {x W : Nat} {h : HS} {V : aV} {RC : Nat → Nat → Int32} {M : aM}
theorem let_of {V : aV} (hV : vOK V) {a c : Int32} (l : letP V a c) : ∃ y z, y < 2 ^ vNt V ∧ y < 8 ∧ z < vNa V ∧ z < 3 ∧ a = nI y ∧ c = nI z := by
  have h1 := hV.1.1
  have h2 := hV.1.2.1
  obtain ⟨l1, l2⟩ := l
  rw [atF_n h1] at l1
  have hp2 : 2 ^ vNt V ≤ 8 := by rcases (show vNt V = 0 ∨ vNt V = 1 ∨ vNt V = 2 ∨ vNt V = 3 by omega) with e | e | e | e <;> rw [e] <;> decide
  obtain ⟨y, hy, ey⟩ := below_of (by omega) l1
  obtain ⟨z, hz, ez⟩ := below_of (by omega) l2
  exact ⟨y, z, hy, by omega, hz, by omega, ey, ez⟩
theorem e_x_rests (K : K0 x W h V RC) (hM : kvM x h M) (p : Int32) : Ev w 7 0 0 yX9_rests cX9_rests 2 (some .int) [.ref x, .int p] h (aQ x (qQ V M (one (vNp V) p (tbQ V fRes)))) := by
  refine g_start (by decide) (Nat.le_of_ble_eq_true rfl) [(0, _), (1, _)] rfl (fun z hfl C => ?_)
  have hx := K.1
  obtain ⟨w0, w1, w2, w3, w4⟩ := K.2.2.1.1
  have hnp := K.2.1.np
  refine g_aload_n C (gd DX9_rests_0 0 rfl) 0 rfl rfl ?_
  refine g_iload_n C (gd DX9_rests_0 1 rfl) 1 rfl rfl ?_
  refine g_cV1 (ci := 9) C [_] mX9_lacks lm_TestJudge_154 (by exact hx.1) rfl rfl (e_x_lacks hx (by omega) w2 p) hfl (by first | decide | omega) (by decide) (by omega) (by omega) rfl rfl (Nat.le_of_ble_eq_true rfl) (gd DX9_rests_0 2 rfl) ?_
  by_cases n1 : 0 ≤ p ∧ p ≤ nI (vNp V) - 1
  rotate_left
  · rw [b1_t (show ¬ (0 ≤ p ∧ p ≤ nI (vNp V) - 1) from n1)]
    refine g_if_eq C 14 (gd DX9_rests_0 3 rfl) (by decide) (fun c5 => ?_) (fun c5 => ?_)
    · exact absurd c5 (by decide)
    · refine g_aload_n C (gd DX9_rests_0 4 rfl) 0 rfl rfl ?_
      refine g_iconst (v := 2) C (gd DX9_rests_0 5 rfl) (by decide) ?_
      refine g_cV1 (ci := 9) C [_] mX9_refuse lm_TestJudge_90 (by exact hx.1) rfl rfl (e_x_refuse hx 2) hfl (by first | decide | omega) (by decide) (by omega) (by omega) rfl rfl (Nat.le_of_ble_eq_true rfl) (gd DX9_rests_0 6 rfl) ?_
      exact g_iret C (by omega) (by omega) (aQ.r K hM rfl (Or.inl ⟨n1, rfl, rfl⟩)) (gd DX9_rests_0 7 rfl)
  rw [b1_f (show ¬ ¬ (0 ≤ p ∧ p ≤ nI (vNp V) - 1) from fun q => q n1)]
  refine g_if_eq C 14 (gd DX9_rests_0 3 rfl) (by decide) (fun c5 => ?_) (fun c5 => ?_)
  rotate_left
  · exact absurd rfl c5
  obtain ⟨r, hr, rfl⟩ := below_of (by omega) n1
  refine g_aload_n C (gd DX9_rests_0 8 rfl) 0 rfl rfl ?_
  refine g_iload_n C (gd DX9_rests_0 9 rfl) 1 rfl rfl ?_
  refine g_callV (ci := 9) C [_] mX9_tabulate lm_TestJudge_174 (by exact hx.1) rfl rfl (e_x_tabulate K hr) hfl (by first | decide | omega) (by decide) (by omega) (by omega) rfl rfl (Nat.le_of_ble_eq_true rfl) (gd DX9_rests_0 10 rfl) (fun r g hp => ?_)
  obtain ⟨rfl, K1, k1, tb⟩ := hp
  show GW z w 2 _ _ _ _ _ [] _
  have hx1 := K1.1
  refine g_aload_n C (gd DX9_rests_0 11 rfl) 0 rfl rfl ?_
  refine g_aload_n C (gd DX9_rests_0 12 rfl) 0 rfl rfl ?_
  refine g_getr (ci := 9) (k := 9) C rfl (by decide) rfl lf_TestJudge_57 hx1.1 hx1.2.2.2.2.2.2.1.1 (gd DX9_rests_0 13 rfl) ?_
  refine g_geti (ci := 6) (k := 0) C rfl (by decide) rfl lf_TestJudge_233 hx1.2.2.2.2.2.2.1.2.1 (gd DX9_rests_0 14 rfl) ?_
  refine g_cV1 (ci := 9) C [_] mX9_allow lm_TestJudge_128 (by exact hx1.1) rfl rfl (e_x_allow hx1 _) hfl (by first | decide | omega) (by decide) (by omega) (by omega) rfl rfl (Nat.le_of_ble_eq_true rfl) (gd DX9_rests_0 15 rfl) ?_
  exact g_iret C (by omega) (by omega) (aQ.q K hM rfl K1 k1 (Or.inr ⟨r, hr, rfl, _, tb, rfl, rfl⟩)) (gd DX9_rests_0 16 rfl)
theorem e_x_rest (K : K0 x W h V RC) (hM : kvM x h M) (p k : Int32) : Ev w 7 0 0 yX9_rest cX9_rest 3 (some .int) [.ref x, .int p, .int k] h (aQ x (qQ V M (one (vNp V) p (tbQ V (fAt 1 k))))) := by
  refine g_start (by decide) (Nat.le_of_ble_eq_true rfl) [(0, _), (1, _), (2, _)] rfl (fun z hfl C => ?_)
  have hx := K.1
  obtain ⟨w0, w1, w2, w3, w4⟩ := K.2.2.1.1
  have hnp := K.2.1.np
  refine g_aload_n C (gd DX9_rest_0 0 rfl) 0 rfl rfl ?_
  refine g_iload_n C (gd DX9_rest_0 1 rfl) 1 rfl rfl ?_
  refine g_cV1 (ci := 9) C [_] mX9_lacks lm_TestJudge_154 (by exact hx.1) rfl rfl (e_x_lacks hx (by omega) w2 p) hfl (by first | decide | omega) (by decide) (by omega) (by omega) rfl rfl (Nat.le_of_ble_eq_true rfl) (gd DX9_rest_0 2 rfl) ?_
  by_cases n1 : 0 ≤ p ∧ p ≤ nI (vNp V) - 1
  rotate_left
  · rw [b1_t (show ¬ (0 ≤ p ∧ p ≤ nI (vNp V) - 1) from n1)]
    refine g_if_eq C 14 (gd DX9_rest_0 3 rfl) (by decide) (fun c5 => ?_) (fun c5 => ?_)
    · exact absurd c5 (by decide)
    · refine g_aload_n C (gd DX9_rest_0 4 rfl) 0 rfl rfl ?_
      refine g_iconst (v := 2) C (gd DX9_rest_0 5 rfl) (by decide) ?_
      refine g_cV1 (ci := 9) C [_] mX9_refuse lm_TestJudge_90 (by exact hx.1) rfl rfl (e_x_refuse hx 2) hfl (by first | decide | omega) (by decide) (by omega) (by omega) rfl rfl (Nat.le_of_ble_eq_true rfl) (gd DX9_rest_0 6 rfl) ?_
      exact g_iret C (by omega) (by omega) (aQ.r K hM rfl (Or.inl ⟨n1, rfl, rfl⟩)) (gd DX9_rest_0 7 rfl)
  rw [b1_f (show ¬ ¬ (0 ≤ p ∧ p ≤ nI (vNp V) - 1) from fun q => q n1)]
  refine g_if_eq C 14 (gd DX9_rest_0 3 rfl) (by decide) (fun c5 => ?_) (fun c5 => ?_)
  rotate_left
  · exact absurd rfl c5
  obtain ⟨r, hr, rfl⟩ := below_of (by omega) n1
  refine g_aload_n C (gd DX9_rest_0 8 rfl) 0 rfl rfl ?_
  refine g_iload_n C (gd DX9_rest_0 9 rfl) 1 rfl rfl ?_
  refine g_callV (ci := 9) C [_] mX9_tabulate lm_TestJudge_174 (by exact hx.1) rfl rfl (e_x_tabulate K hr) hfl (by first | decide | omega) (by decide) (by omega) (by omega) rfl rfl (Nat.le_of_ble_eq_true rfl) (gd DX9_rest_0 10 rfl) (fun r g hp => ?_)
  obtain ⟨rfl, K1, k1, tb⟩ := hp
  show GW z w 3 _ _ _ _ _ [] _
  have hx1 := K1.1
  obtain ⟨n, o⟩ := tb.n
  refine g_aload_n C (gd DX9_rest_0 11 rfl) 0 rfl rfl ?_
  refine g_getr (ci := 9) (k := 9) C rfl (by decide) rfl lf_TestJudge_57 hx1.1 hx1.2.2.2.2.2.2.1.1 (gd DX9_rest_0 12 rfl) ?_
  refine g_iload_n C (gd DX9_rest_0 13 rfl) 2 rfl rfl ?_
  refine GW.cast rfl rfl (tR_self (t := x + 36)).symm ?_
  refine g_cV1 (ci := 6) C [_] mX6_has lm_TestJudge_236 (by exact hx1.2.2.2.2.2.2.1.2.1) rfl rfl (e_t_has hx1.2.2.2.2.2.2.1.2 k) hfl (by first | decide | omega) (by decide) (by omega) (by omega) rfl rfl (Nat.le_of_ble_eq_true rfl) (gd DX9_rest_0 14 rfl) ?_
  rw [tR_self]
  by_cases c : ¬ k < 0 ∧ ¬ hI g (x + 36) 0 ≤ k
  · rw [b1_t (show ¬ k < 0 ∧ ¬ (fun i => hI g (x + 36 + i)) 0 0 ≤ k from c)]
    obtain ⟨i, hi, rfl⟩ := nI_of c.1
    have hin : i < n := by
      have e : hI g (x + 36) 0 = nI n := o.2.1
      have c2 := c.2
      rw [e] at c2
      have := o.1
      exact Nat.lt_of_not_le fun q => c2 (nI_le q hi)
    have hn := o.1
    refine g_if_eq C 46 (gd DX9_rest_0 15 rfl) (by decide) (fun c27 => ?_) (fun c27 => ?_)
    · exact absurd c27 (by decide)
    · refine g_aload_n C (gd DX9_rest_0 16 rfl) 0 rfl rfl ?_
      refine g_aload_n C (gd DX9_rest_0 17 rfl) 0 rfl rfl ?_
      refine g_getr (ci := 9) (k := 9) C rfl (by decide) rfl lf_TestJudge_57 hx1.1 hx1.2.2.2.2.2.2.1.1 (gd DX9_rest_0 18 rfl) ?_
      refine g_getr (ci := 6) (k := 1) C rfl (by decide) rfl lf_TestJudge_239 hx1.2.2.2.2.2.2.1.2.1 hx1.2.2.2.2.2.2.1.2.2.1.1 (gd DX9_rest_0 19 rfl) ?_
      refine g_iload_n C (gd DX9_rest_0 20 rfl) 2 rfl rfl ?_
      refine g_iaj (j := i) C hx1.2.2.2.2.2.2.1.2.2.1.2.1 hx1.2.2.2.2.2.2.1.2.2.1.2.2 (by first | decide | omega) rfl (by omega) (gd DX9_rest_0 21 rfl) ?_
      refine g_cV1 (ci := 9) C [_] mX9_allow lm_TestJudge_128 (by exact hx1.1) rfl rfl (e_x_allow hx1 _) hfl (by first | decide | omega) (by decide) (by omega) (by omega) rfl rfl (Nat.le_of_ble_eq_true rfl) (gd DX9_rest_0 22 rfl) ?_
      refine g_goto (tgt := 51) C (gd DX9_rest_0 23 rfl) (by decide) ?_
      exact g_iret C (by omega) (by omega) (aQ.q K hM rfl K1 k1 (Or.inr ⟨r, hr, rfl, _, tb, Or.inl ⟨n, i, o, hin, rfl, rfl, rfl⟩⟩)) (gd DX9_rest_0 27 rfl)
  · rw [b1_f (show ¬ (¬ k < 0 ∧ ¬ (fun i => hI g (x + 36 + i)) 0 0 ≤ k) from c)]
    refine g_if_eq C 46 (gd DX9_rest_0 15 rfl) (by decide) (fun c27 => ?_) (fun c27 => ?_)
    · refine g_aload_n C (gd DX9_rest_0 24 rfl) 0 rfl rfl ?_
      refine g_iconst (v := 5) C (gd DX9_rest_0 25 rfl) (by decide) ?_
      refine g_cV1 (ci := 9) C [_] mX9_refuse lm_TestJudge_90 (by exact hx1.1) rfl rfl (e_x_refuse hx1 5) hfl (by first | decide | omega) (by decide) (by omega) (by omega) rfl rfl (Nat.le_of_ble_eq_true rfl) (gd DX9_rest_0 26 rfl) ?_
      exact g_iret C (by omega) (by omega) (aQ.q K hM rfl K1 k1 (Or.inr ⟨r, hr, rfl, _, tb, Or.inr ⟨c, rfl, rfl⟩⟩)) (gd DX9_rest_0 27 rfl)
    · exact absurd rfl c27
theorem e_x_far (K : K0 x W h V RC) (hM : kvM x h M) (p k : Int32) : Ev w 7 0 0 yX9_far cX9_far 3 (some .int) [.ref x, .int p, .int k] h (aQ x (qQ V M (one (vNp V) p (tbQ V (fAt 2 k))))) := by
  refine g_start (by decide) (Nat.le_of_ble_eq_true rfl) [(0, _), (1, _), (2, _)] rfl (fun z hfl C => ?_)
  have hx := K.1
  obtain ⟨w0, w1, w2, w3, w4⟩ := K.2.2.1.1
  have hnp := K.2.1.np
  refine g_aload_n C (gd DX9_far_0 0 rfl) 0 rfl rfl ?_
  refine g_iload_n C (gd DX9_far_0 1 rfl) 1 rfl rfl ?_
  refine g_cV1 (ci := 9) C [_] mX9_lacks lm_TestJudge_154 (by exact hx.1) rfl rfl (e_x_lacks hx (by omega) w2 p) hfl (by first | decide | omega) (by decide) (by omega) (by omega) rfl rfl (Nat.le_of_ble_eq_true rfl) (gd DX9_far_0 2 rfl) ?_
  by_cases n1 : 0 ≤ p ∧ p ≤ nI (vNp V) - 1
  rotate_left
  · rw [b1_t (show ¬ (0 ≤ p ∧ p ≤ nI (vNp V) - 1) from n1)]
    refine g_if_eq C 14 (gd DX9_far_0 3 rfl) (by decide) (fun c5 => ?_) (fun c5 => ?_)
    · exact absurd c5 (by decide)
    · refine g_aload_n C (gd DX9_far_0 4 rfl) 0 rfl rfl ?_
      refine g_iconst (v := 2) C (gd DX9_far_0 5 rfl) (by decide) ?_
      refine g_cV1 (ci := 9) C [_] mX9_refuse lm_TestJudge_90 (by exact hx.1) rfl rfl (e_x_refuse hx 2) hfl (by first | decide | omega) (by decide) (by omega) (by omega) rfl rfl (Nat.le_of_ble_eq_true rfl) (gd DX9_far_0 6 rfl) ?_
      exact g_iret C (by omega) (by omega) (aQ.r K hM rfl (Or.inl ⟨n1, rfl, rfl⟩)) (gd DX9_far_0 7 rfl)
  rw [b1_f (show ¬ ¬ (0 ≤ p ∧ p ≤ nI (vNp V) - 1) from fun q => q n1)]
  refine g_if_eq C 14 (gd DX9_far_0 3 rfl) (by decide) (fun c5 => ?_) (fun c5 => ?_)
  rotate_left
  · exact absurd rfl c5
  obtain ⟨r, hr, rfl⟩ := below_of (by omega) n1
  refine g_aload_n C (gd DX9_far_0 8 rfl) 0 rfl rfl ?_
  refine g_iload_n C (gd DX9_far_0 9 rfl) 1 rfl rfl ?_
  refine g_callV (ci := 9) C [_] mX9_tabulate lm_TestJudge_174 (by exact hx.1) rfl rfl (e_x_tabulate K hr) hfl (by first | decide | omega) (by decide) (by omega) (by omega) rfl rfl (Nat.le_of_ble_eq_true rfl) (gd DX9_far_0 10 rfl) (fun r g hp => ?_)
  obtain ⟨rfl, K1, k1, tb⟩ := hp
  show GW z w 3 _ _ _ _ _ [] _
  have hx1 := K1.1
  obtain ⟨n, o⟩ := tb.n
  refine g_aload_n C (gd DX9_far_0 11 rfl) 0 rfl rfl ?_
  refine g_getr (ci := 9) (k := 9) C rfl (by decide) rfl lf_TestJudge_57 hx1.1 hx1.2.2.2.2.2.2.1.1 (gd DX9_far_0 12 rfl) ?_
  refine g_iload_n C (gd DX9_far_0 13 rfl) 2 rfl rfl ?_
  refine GW.cast rfl rfl (tR_self (t := x + 36)).symm ?_
  refine g_cV1 (ci := 6) C [_] mX6_has lm_TestJudge_236 (by exact hx1.2.2.2.2.2.2.1.2.1) rfl rfl (e_t_has hx1.2.2.2.2.2.2.1.2 k) hfl (by first | decide | omega) (by decide) (by omega) (by omega) rfl rfl (Nat.le_of_ble_eq_true rfl) (gd DX9_far_0 14 rfl) ?_
  rw [tR_self]
  by_cases c : ¬ k < 0 ∧ ¬ hI g (x + 36) 0 ≤ k
  · rw [b1_t (show ¬ k < 0 ∧ ¬ (fun i => hI g (x + 36 + i)) 0 0 ≤ k from c)]
    obtain ⟨i, hi, rfl⟩ := nI_of c.1
    have hin : i < n := by
      have e : hI g (x + 36) 0 = nI n := o.2.1
      have c2 := c.2
      rw [e] at c2
      have := o.1
      exact Nat.lt_of_not_le fun q => c2 (nI_le q hi)
    have hn := o.1
    refine g_if_eq C 46 (gd DX9_far_0 15 rfl) (by decide) (fun c27 => ?_) (fun c27 => ?_)
    · exact absurd c27 (by decide)
    · refine g_aload_n C (gd DX9_far_0 16 rfl) 0 rfl rfl ?_
      refine g_aload_n C (gd DX9_far_0 17 rfl) 0 rfl rfl ?_
      refine g_getr (ci := 9) (k := 9) C rfl (by decide) rfl lf_TestJudge_57 hx1.1 hx1.2.2.2.2.2.2.1.1 (gd DX9_far_0 18 rfl) ?_
      refine g_getr (ci := 6) (k := 2) C rfl (by decide) rfl lf_TestJudge_254 hx1.2.2.2.2.2.2.1.2.1 hx1.2.2.2.2.2.2.1.2.2.2.1.1 (gd DX9_far_0 19 rfl) ?_
      refine g_iload_n C (gd DX9_far_0 20 rfl) 2 rfl rfl ?_
      refine g_iaj (j := i) C hx1.2.2.2.2.2.2.1.2.2.2.1.2.1 hx1.2.2.2.2.2.2.1.2.2.2.1.2.2 (by first | decide | omega) rfl (by omega) (gd DX9_far_0 21 rfl) ?_
      refine g_cV1 (ci := 9) C [_] mX9_allow lm_TestJudge_128 (by exact hx1.1) rfl rfl (e_x_allow hx1 _) hfl (by first | decide | omega) (by decide) (by omega) (by omega) rfl rfl (Nat.le_of_ble_eq_true rfl) (gd DX9_far_0 22 rfl) ?_
      refine g_goto (tgt := 51) C (gd DX9_far_0 23 rfl) (by decide) ?_
      exact g_iret C (by omega) (by omega) (aQ.q K hM rfl K1 k1 (Or.inr ⟨r, hr, rfl, _, tb, Or.inl ⟨n, i, o, hin, rfl, rfl, rfl⟩⟩)) (gd DX9_far_0 27 rfl)
  · rw [b1_f (show ¬ (¬ k < 0 ∧ ¬ (fun i => hI g (x + 36 + i)) 0 0 ≤ k) from c)]
    refine g_if_eq C 46 (gd DX9_far_0 15 rfl) (by decide) (fun c27 => ?_) (fun c27 => ?_)
    · refine g_aload_n C (gd DX9_far_0 24 rfl) 0 rfl rfl ?_
      refine g_iconst (v := 5) C (gd DX9_far_0 25 rfl) (by decide) ?_
      refine g_cV1 (ci := 9) C [_] mX9_refuse lm_TestJudge_90 (by exact hx1.1) rfl rfl (e_x_refuse hx1 5) hfl (by first | decide | omega) (by decide) (by omega) (by omega) rfl rfl (Nat.le_of_ble_eq_true rfl) (gd DX9_far_0 26 rfl) ?_
      exact g_iret C (by omega) (by omega) (aQ.q K hM rfl K1 k1 (Or.inr ⟨r, hr, rfl, _, tb, Or.inr ⟨c, rfl, rfl⟩⟩)) (gd DX9_far_0 27 rfl)
    · exact absurd rfl c27
theorem e_x_next (K : K0 x W h V RC) (hM : kvM x h M) (p k a c : Int32) : Ev w 7 0 0 yX9_next cX9_next 6 (some .int) [.ref x, .int p, .int k, .int a, .int c] h (aQ x (qQ V M (qNxt V p k a c))) := by
  refine g_start (by decide) (Nat.le_of_ble_eq_true rfl) [(0, _), (1, _), (2, _), (3, _), (4, _)] rfl (fun z hfl C => ?_)
  have hx := K.1
  obtain ⟨w0, w1, w2, w3, w4⟩ := K.2.2.1.1
  have hnp := K.2.1.np
  refine g_aload_n C (gd DX9_next_0 0 rfl) 0 rfl rfl ?_
  refine g_iload_n C (gd DX9_next_0 1 rfl) 1 rfl rfl ?_
  refine g_cV1 (ci := 9) C [_] mX9_lacks lm_TestJudge_154 (by exact hx.1) rfl rfl (e_x_lacks hx (by omega) w2 p) hfl (by first | decide | omega) (by decide) (by omega) (by omega) rfl rfl (Nat.le_of_ble_eq_true rfl) (gd DX9_next_0 2 rfl) ?_
  by_cases n1 : 0 ≤ p ∧ p ≤ nI (vNp V) - 1
  rotate_left
  · rw [b1_t (show ¬ (0 ≤ p ∧ p ≤ nI (vNp V) - 1) from n1)]
    refine g_if_ne C 18 (gd DX9_next_0 3 rfl) (by decide) (fun c5 => ?_) (fun c5 => ?_)
    · refine g_aload_n C (gd DX9_next_0 9 rfl) 0 rfl rfl ?_
      refine g_iconst (v := 2) C (gd DX9_next_0 10 rfl) (by decide) ?_
      refine g_cV1 (ci := 9) C [_] mX9_refuse lm_TestJudge_90 (by exact hx.1) rfl rfl (e_x_refuse hx 2) hfl (by first | decide | omega) (by decide) (by omega) (by omega) rfl rfl (Nat.le_of_ble_eq_true rfl) (gd DX9_next_0 11 rfl) ?_
      exact g_iret C (by omega) (by omega) (aQ.r K hM rfl (Or.inl ⟨fun q => n1 q.1, rfl, rfl⟩)) (gd DX9_next_0 12 rfl)
    · exact absurd c5 (by decide)
  rw [b1_f (show ¬ ¬ (0 ≤ p ∧ p ≤ nI (vNp V) - 1) from fun q => q n1)]
  refine g_if_ne C 18 (gd DX9_next_0 3 rfl) (by decide) (fun c5 => ?_) (fun c5 => ?_)
  · exact absurd rfl c5
  refine g_aload_n C (gd DX9_next_0 4 rfl) 0 rfl rfl ?_
  refine g_iload_n C (gd DX9_next_0 5 rfl) 3 rfl rfl ?_
  refine g_iload C (gd DX9_next_0 6 rfl) 4 rfl ?_
  refine g_cV1 (ci := 9) C [_, _] mX9_lacksLetter lm_TestJudge_243 (by exact hx.1) rfl rfl (e_x_lacksLetter hx K.2.1.1.1 K.2.1.1.2.1 w0 w1 a c) hfl (by first | decide | omega) (by decide) (by omega) (by omega) rfl rfl (Nat.le_of_ble_eq_true rfl) (gd DX9_next_0 7 rfl) ?_
  by_cases n2 : (0 ≤ a ∧ a ≤ atF (nI (vNt V)) - 1) ∧ (0 ≤ c ∧ c ≤ nI (vNa V) - 1)
  rotate_left
  · rw [b1_t (show ¬ ((0 ≤ a ∧ a ≤ atF (nI (vNt V)) - 1) ∧ (0 ≤ c ∧ c ≤ nI (vNa V) - 1)) from n2)]
    refine g_if_eq C 24 (gd DX9_next_0 8 rfl) (by decide) (fun c15 => ?_) (fun c15 => ?_)
    · exact absurd c15 (by decide)
    · refine g_aload_n C (gd DX9_next_0 9 rfl) 0 rfl rfl ?_
      refine g_iconst (v := 2) C (gd DX9_next_0 10 rfl) (by decide) ?_
      refine g_cV1 (ci := 9) C [_] mX9_refuse lm_TestJudge_90 (by exact hx.1) rfl rfl (e_x_refuse hx 2) hfl (by first | decide | omega) (by decide) (by omega) (by omega) rfl rfl (Nat.le_of_ble_eq_true rfl) (gd DX9_next_0 11 rfl) ?_
      exact g_iret C (by omega) (by omega) (aQ.r K hM rfl (Or.inl ⟨fun q => n2 q.2, rfl, rfl⟩)) (gd DX9_next_0 12 rfl)
  rw [b1_f (show ¬ ¬ ((0 ≤ a ∧ a ≤ atF (nI (vNt V)) - 1) ∧ (0 ≤ c ∧ c ≤ nI (vNa V) - 1)) from fun q => q n2)]
  refine g_if_eq C 24 (gd DX9_next_0 8 rfl) (by decide) (fun c15 => ?_) (fun c15 => ?_)
  rotate_left
  · exact absurd rfl c15
  obtain ⟨r, hr, rfl⟩ := below_of (by omega) n1
  obtain ⟨y, zz, hy, hy8, hz, hz3, rfl, rfl⟩ := let_of K.2.1 n2
  refine g_aload_n C (gd DX9_next_0 13 rfl) 0 rfl rfl ?_
  refine g_iload_n C (gd DX9_next_0 14 rfl) 1 rfl rfl ?_
  refine g_callV (ci := 9) C [_] mX9_tabulate lm_TestJudge_174 (by exact hx.1) rfl rfl (e_x_tabulate K hr) hfl (by first | decide | omega) (by decide) (by omega) (by omega) rfl rfl (Nat.le_of_ble_eq_true rfl) (gd DX9_next_0 15 rfl) (fun r g hp => ?_)
  obtain ⟨rfl, K1, k1, tb⟩ := hp
  show GW z w 6 _ _ _ _ _ [] _
  have hx1 := K1.1
  obtain ⟨n, o⟩ := tb.n
  have fin : ∀ v, (v = -1 ∨ ∃ j, j < 200 ∧ v = nI j) → ((∃ n i, tbN n (fun i => hI g (x + 36 + i)) ∧ i < n ∧ k = nI i ∧ v = (fun i => hI g (x + 36 + i)) 3 (24 * i + (3 * y + zz))) ∨ (¬ (¬ k < 0 ∧ ¬ hI g (x + 36) 0 ≤ k) ∧ v = -1)) → GW z w 6 (gQ z w 0 0 (fun r' h'' => aQ x (qQ V M (qNxt V (nI r) k (nI y) (nI zz))) r' h'')) 0 0 40 [(0, .ref x), (1, .int (nI r)), (2, .int k), (3, .int (nI y)), (4, .int (nI zz))] [.int v] g := by
    intro v hv hh
    refine g_istore (lv' := [(0, _), (1, _), (2, _), (3, _), (4, _), (5, _)]) C (gd DX9_next_0 22 rfl) [1, 2, 3, 4, 5, 0] (by decide) rfl ?_
    refine g_iload C (gd DX9_next_0 23 rfl) 5 rfl ?_
    refine g_if_ge C 55 (gd DX9_next_0 24 rfl) (by decide) (fun c44 => ?_) (fun c44 => ?_)
    · rcases hv with rfl | ⟨j, hj, rfl⟩
      · exact absurd c44 (by decide)
      refine g_aload_n C (gd DX9_next_0 29 rfl) 0 rfl rfl ?_
      refine g_iload C (gd DX9_next_0 30 rfl) 5 rfl ?_
      refine g_cV1 (ci := 9) C [_] mX9_allow lm_TestJudge_128 (by exact hx1.1) rfl rfl (e_x_allow hx1 _) hfl (by first | decide | omega) (by decide) (by omega) (by omega) rfl rfl (Nat.le_of_ble_eq_true rfl) (gd DX9_next_0 31 rfl) ?_
      exact g_iret C (by omega) (by omega) (aQ.q K hM rfl K1 k1 (Or.inr ⟨r, y, zz, hr, rfl, hy8, hz3, rfl, rfl, n2, _, tb, hh, (if_neg (nI_neg1 (by omega))).symm⟩)) (gd DX9_next_0 32 rfl)
    · rcases hv with rfl | ⟨j, hj, rfl⟩
      · refine g_aload_n C (gd DX9_next_0 25 rfl) 0 rfl rfl ?_
        refine g_iconst (v := 5) C (gd DX9_next_0 26 rfl) (by decide) ?_
        refine g_cV1 (ci := 9) C [_] mX9_refuse lm_TestJudge_90 (by exact hx1.1) rfl rfl (e_x_refuse hx1 5) hfl (by first | decide | omega) (by decide) (by omega) (by omega) rfl rfl (Nat.le_of_ble_eq_true rfl) (gd DX9_next_0 27 rfl) ?_
        refine g_goto (tgt := 61) C (gd DX9_next_0 28 rfl) (by decide) ?_
        exact g_iret C (by omega) (by omega) (aQ.q K hM rfl K1 k1 (Or.inr ⟨r, y, zz, hr, rfl, hy8, hz3, rfl, rfl, n2, _, tb, hh, (if_pos rfl).symm⟩)) (gd DX9_next_0 32 rfl)
      · exact absurd (nI_nn (a := j) (by omega)) (fun q => q (by first | exact c44 | exact Int32.not_le.mp c44))
  refine g_aload_n C (gd DX9_next_0 16 rfl) 0 rfl rfl ?_
  refine g_getr (ci := 9) (k := 9) C rfl (by decide) rfl lf_TestJudge_57 hx1.1 hx1.2.2.2.2.2.2.1.1 (gd DX9_next_0 17 rfl) ?_
  refine g_iload_n C (gd DX9_next_0 18 rfl) 2 rfl rfl ?_
  refine g_iload_n C (gd DX9_next_0 19 rfl) 3 rfl rfl ?_
  refine g_iload C (gd DX9_next_0 20 rfl) 4 rfl ?_
  refine GW.cast rfl rfl (tR_self (t := x + 36)).symm ?_
  by_cases cc : ¬ k < 0 ∧ ¬ hI g (x + 36) 0 ≤ k
  · obtain ⟨i, hi, rfl⟩ := nI_of cc.1
    have hn := o.1
    have hin : i < n := by
      have e : hI g (x + 36) 0 = nI n := o.2.1
      have c2 := cc.2
      rw [e] at c2
      exact Nat.lt_of_not_le fun q => c2 (nI_le q hi)
    refine g_cV1 (ci := 6) C [_, _, _] mX6_target lm_TestJudge_247 (by exact hx1.2.2.2.2.2.2.1.2.1) rfl rfl (e_t_target hx1.2.2.2.2.2.2.1.2 o hin hy8 hz3) hfl (by first | decide | omega) (by decide) (by omega) (by omega) rfl rfl (Nat.le_of_ble_eq_true rfl) (gd DX9_next_0 21 rfl) ?_
    rw [tR_self]
    refine fin _ ?_ (Or.inl ⟨n, i, o, hin, rfl, rfl⟩)
    rcases o.2.2.2 (24 * i + (3 * y + zz)) (by omega) with e | ⟨j, hj, e⟩
    · exact Or.inl e
    · exact Or.inr ⟨j, by omega, e⟩
  · refine g_cV1 (ci := 6) C [_, _, _] mX6_target lm_TestJudge_247 (by exact hx1.2.2.2.2.2.2.1.2.1) rfl rfl (e_t_targetN hx1.2.2.2.2.2.2.1.2 o (fun q => cc ⟨q.1, by rw [show hI g (x + 36) 0 = nI n from o.2.1]; exact q.2⟩) _ _) hfl (by first | decide | omega) (by decide) (by omega) (by omega) rfl rfl (Nat.le_of_ble_eq_true rfl) (gd DX9_next_0 21 rfl) ?_
    rw [tR_self]
    exact fin _ (Or.inl rfl) (Or.inr ⟨cc, rfl⟩)
theorem e_x_clear (K : K0 x W h V RC) (hM : kvM x h M) (p : Int32) : Ev w 7 0 0 yX9_clear cX9_clear 2 (some .int) [.ref x, .int p] h (aQ x (qQ V M (one (vNp V) p (tbQ V fClr)))) := by
  refine g_start (by decide) (Nat.le_of_ble_eq_true rfl) [(0, _), (1, _)] rfl (fun z hfl C => ?_)
  have hx := K.1
  obtain ⟨w0, w1, w2, w3, w4⟩ := K.2.2.1.1
  have hnp := K.2.1.np
  refine g_aload_n C (gd DX9_clear_0 0 rfl) 0 rfl rfl ?_
  refine g_iload_n C (gd DX9_clear_0 1 rfl) 1 rfl rfl ?_
  refine g_cV1 (ci := 9) C [_] mX9_lacks lm_TestJudge_154 (by exact hx.1) rfl rfl (e_x_lacks hx (by omega) w2 p) hfl (by first | decide | omega) (by decide) (by omega) (by omega) rfl rfl (Nat.le_of_ble_eq_true rfl) (gd DX9_clear_0 2 rfl) ?_
  by_cases n1 : 0 ≤ p ∧ p ≤ nI (vNp V) - 1
  rotate_left
  · rw [b1_t (show ¬ (0 ≤ p ∧ p ≤ nI (vNp V) - 1) from n1)]
    refine g_if_eq C 14 (gd DX9_clear_0 3 rfl) (by decide) (fun c5 => ?_) (fun c5 => ?_)
    · exact absurd c5 (by decide)
    · refine g_aload_n C (gd DX9_clear_0 4 rfl) 0 rfl rfl ?_
      refine g_iconst (v := 2) C (gd DX9_clear_0 5 rfl) (by decide) ?_
      refine g_cV1 (ci := 9) C [_] mX9_refuse lm_TestJudge_90 (by exact hx.1) rfl rfl (e_x_refuse hx 2) hfl (by first | decide | omega) (by decide) (by omega) (by omega) rfl rfl (Nat.le_of_ble_eq_true rfl) (gd DX9_clear_0 6 rfl) ?_
      exact g_iret C (by omega) (by omega) (aQ.r K hM rfl (Or.inl ⟨n1, rfl, rfl⟩)) (gd DX9_clear_0 7 rfl)
  rw [b1_f (show ¬ ¬ (0 ≤ p ∧ p ≤ nI (vNp V) - 1) from fun q => q n1)]
  refine g_if_eq C 14 (gd DX9_clear_0 3 rfl) (by decide) (fun c5 => ?_) (fun c5 => ?_)
  rotate_left
  · exact absurd rfl c5
  obtain ⟨r, hr, rfl⟩ := below_of (by omega) n1
  refine g_aload_n C (gd DX9_clear_0 8 rfl) 0 rfl rfl ?_
  refine g_iload_n C (gd DX9_clear_0 9 rfl) 1 rfl rfl ?_
  refine g_callV (ci := 9) C [_] mX9_tabulate lm_TestJudge_174 (by exact hx.1) rfl rfl (e_x_tabulate K hr) hfl (by first | decide | omega) (by decide) (by omega) (by omega) rfl rfl (Nat.le_of_ble_eq_true rfl) (gd DX9_clear_0 10 rfl) (fun r g hp => ?_)
  obtain ⟨rfl, K1, k1, tb⟩ := hp
  show GW z w 2 _ _ _ _ _ [] _
  have hx1 := K1.1
  obtain ⟨n, o⟩ := tb.n
  refine g_aload_n C (gd DX9_clear_0 11 rfl) 0 rfl rfl ?_
  refine g_aload_n C (gd DX9_clear_0 12 rfl) 0 rfl rfl ?_
  refine g_getr (ci := 9) (k := 9) C rfl (by decide) rfl lf_TestJudge_57 hx1.1 hx1.2.2.2.2.2.2.1.1 (gd DX9_clear_0 13 rfl) ?_
  refine GW.cast rfl rfl (tR_self (t := x + 36)).symm ?_
  refine g_callV (ci := 6) C [] mX6_oneWayEach lm_TestJudge_251 (by exact hx1.2.2.2.2.2.2.1.2.1) rfl rfl (e_t_oneWayEach hx1.2.2.2.2.2.2.1.2 o) hfl (by first | decide | omega) (by decide) (by omega) (by omega) rfl rfl (Nat.le_of_ble_eq_true rfl) (gd DX9_clear_0 14 rfl) (fun r g2 hp => ?_)
  obtain ⟨rfl, hp⟩ := hp
  rw [tR_self]
  rcases hp with ⟨rfl, e⟩ | ⟨rfl, e⟩
  · show GW z w 2 _ _ _ _ _ (.int 1 :: _) _
    refine g_cS1 C [_] mX9_bit lm_TestJudge_164 (e_x_bit (Or.inr rfl)) hfl (by first | decide | omega) (by decide) (by omega) (by omega) rfl rfl (Nat.le_of_ble_eq_true rfl) (gd DX9_clear_0 15 rfl) ?_
    refine g_cV1 (ci := 9) C [_] mX9_allow lm_TestJudge_128 (by exact hx1.1) rfl rfl (e_x_allow hx1 _) hfl (by first | decide | omega) (by decide) (by omega) (by omega) rfl rfl (Nat.le_of_ble_eq_true rfl) (gd DX9_clear_0 16 rfl) ?_
    exact g_iret C (by omega) (by omega) (aQ.q K hM rfl K1 k1 (Or.inr ⟨r, hr, rfl, _, tb, n, o, Or.inl ⟨rfl, e⟩, rfl⟩)) (gd DX9_clear_0 17 rfl)
  · show GW z w 2 _ _ _ _ _ (.int 0 :: _) _
    refine g_cS1 C [_] mX9_bit lm_TestJudge_164 (e_x_bit (Or.inl rfl)) hfl (by first | decide | omega) (by decide) (by omega) (by omega) rfl rfl (Nat.le_of_ble_eq_true rfl) (gd DX9_clear_0 15 rfl) ?_
    refine g_cV1 (ci := 9) C [_] mX9_allow lm_TestJudge_128 (by exact hx1.1) rfl rfl (e_x_allow hx1 _) hfl (by first | decide | omega) (by decide) (by omega) (by omega) rfl rfl (Nat.le_of_ble_eq_true rfl) (gd DX9_clear_0 16 rfl) ?_
    exact g_iret C (by omega) (by omega) (aQ.q K hM rfl K1 k1 (Or.inr ⟨r, hr, rfl, _, tb, n, o, Or.inr ⟨rfl, e⟩, rfl⟩)) (gd DX9_clear_0 17 rfl)
end X7
