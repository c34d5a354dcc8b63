/-! The class's walks and print -/
def mWl (M : aM) (t : Int32 × Int32 × Int32) : aM := (M.1, M.2.1, t, M.2.2.2)
def qWlk (V : aV) (M : aM) (p : Int32) (v : Value) (V' : aV) (M' : aM) : Prop := (¬ inP (vNp V) p ∧ v = .int (-1) ∧ V' = V ∧ M' = mSt M 2) ∨ ∃ r, r < vNp V ∧ p = nI r ∧ ∃ ρ, tbO (vP1 V (vS V) (vPR V r)) ρ ∧ ((ρ 0 0 = 0 ∧ v = .int (-1) ∧ V' = V ∧ M' = mSt M 5) ∨ (¬ ρ 0 0 = 0 ∧ v = .int (ρ 0 0) ∧ V' = V ∧ M' = mWl (mSt M 0) (nI r, 0, 0)))
def qStp (V : aV) (M : aM) (a c : Int32) (v : Value) (V' : aV) (M' : aM) : Prop := (¬ letP V a c ∧ v = .int (-1) ∧ V' = V ∧ M' = mSt M 2) ∨ (letP V a c ∧ ((M.2.2.1.1 = -1 ∧ v = .int (-1) ∧ V' = V ∧ M' = mSt M 5) ∨ ∃ r j y z ρ i, r < vNp V ∧ M.2.2.1.1 = nI r ∧ M.2.2.1.2.2 = nI j ∧ y < 8 ∧ z < 3 ∧ a = nI y ∧ c = nI z ∧ tbO (vP1 V (vS V) (vPR V r)) ρ ∧ (∃ n, tbN n ρ ∧ j < n) ∧ i = ρ 3 (24 * j + (3 * y + z)) ∧ ((i = -1 ∧ v = .int (-1) ∧ V' = V ∧ M' = mSt M 5) ∨ (¬ i = -1 ∧ v = .int i ∧ V' = V ∧ M' = mWl (mSt M 0) (nI r, M.2.2.1.2.1 + 1, i)))))
def qWkd (V : aV) (M : aM) (k : Int32) (v st : Int32) : Prop := gat (0 ≤ k ∧ k ≤ 3) 1 (fun v st => (M.2.2.1.1 = -1 ∧ v = -1 ∧ st = 5) ∨ ∃ r j, r < vNp V ∧ M.2.2.1.1 = nI r ∧ M.2.2.1.2.2 = nI j ∧ ((k = 0 ∧ v = nI r) ∨ (k = 1 ∧ v = M.2.2.1.2.1) ∨ (k = 2 ∧ v = nI j) ∨ (k = 3 ∧ ∃ ρ n, tbO (vP1 V (vS V) (vPR V r)) ρ ∧ tbN n ρ ∧ j < n ∧ v = ρ 1 j)) ∧ st = 0) v st
theorem tbO_j {P : kP} {ρ : Nat → Nat → Int32} {n j : Nat} (t : tbO P ρ) (o : tbN n ρ) (wk : ∃ m1 h1 N R, LDr P m1 h1 N ∧ Rsp m1 h1 R ∧ j < R.length) : j < n := by
  obtain ⟨m1, h1, N, R, l1, r1, lj⟩ := wk
  obtain ⟨v, N', R', l2, r2, l3, h0, -⟩ := t
  have e := Rsp.one l1 l2 r1 r2
  subst e
  have e2 : nI R.length = nI n := h0.symm.trans o.2.1
  have := (nI_eq (by omega) (by have := o.1; omega)).mp e2
  omega
theorem tbO_0 {P : kP} {ρ : Nat → Nat → Int32} {n : Nat} (o : tbN n ρ) : ρ 0 0 = 0 ↔ n = 0 := by
  rw [o.2.1]
  have := o.1
  exact nI_eq (b := 0) (by omega) (by omega)
theorem xI_ne {h : HS} {x k j : Nat} {v : Int32} (hj : j ≠ k) : hI (sI h x k v) x j = hI h x j := by rw [hI_sI, if_neg (fun q => hj q.2)]
theorem xI_eq {h : HS} {x k : Nat} {v : Int32} : hI (sI h x k v) x k = v := by rw [hI_sI, if_pos ⟨rfl, rfl⟩]
theorem kvM.wl {x : Nat} {h g h1 : HS} {M : aM} {st : Int32} {t : Int32 × Int32 × Int32} (m : kvM x h M) (k : qKp x h g) (a : xIn x g h1) (f : ∀ j, j ≠ 3 → j ≠ 12 → j ≠ 13 → j ≠ 14 → hI h1 x j = hI g x j) (f3 : hI h1 x 3 = st) (f12 : hI h1 x 12 = t.1) (f13 : hI h1 x 13 = t.2.1) (f14 : hI h1 x 14 = t.2.2) : kvM x h1 (mWl (mSt M st) t) := by
  obtain ⟨⟨m1, m2, m3⟩, ⟨m4, m5, m6⟩, -, ma, mb, mc⟩ := m
  have e := k.2.2.2.2.2.1
  have e1 : hI h1 (x + 1) = hI h (x + 1) := (a.2 _ (by omega)).trans (k.2.2.2.2.1 _ (by omega) (by omega))
  have e2 : hI h1 (x + 47) = hI h (x + 47) := (a.2 _ (by omega)).trans (k.2.2.2.2.1 _ (by omega) (by omega))
  have e3 : hI h1 (x + 48) = hI h (x + 48) := (a.2 _ (by omega)).trans (k.2.2.2.2.1 _ (by omega) (by omega))
  exact ⟨⟨by rw [f 2 (by omega) (by omega) (by omega) (by omega), e _ (by omega)]; exact m1, m2, by rw [e1]; exact m3⟩, ⟨f3, by rw [f 4 (by omega) (by omega) (by omega) (by omega), e _ (by omega)]; exact m5, by rw [f 5 (by omega) (by omega) (by omega) (by omega), e _ (by omega)]; exact m6⟩, ⟨f12, f13, f14⟩, by rw [e2]; exact ma, mb, by rw [e3]; exact mc⟩
section X9
variable {w : gD} {x W : Nat} {h : HS} {V : aV} {RC : Nat → Nat → Int32} {M : aM}
theorem e_x_walk (K : K0 x W h V RC) (hM : kvM x h M) (p : Int32) : Ev w 7 0 0 yX9_walk cX9_walk 2 (some .int) [.ref x, .int p] h (aQ x (qWlk V M p)) := by
  refine g_start (by decide) (Nat.le_of_ble_eq_true rfl) [(0, _), (1, _)] rfl (fun z hfl C => ?_)
  have hx := K.1
  obtain ⟨w0, w1, w2, w3, w4⟩ := K.2.2.1.1
  have hnp := K.2.1.np
  refine g_aload_n C (gd DX9_walk_0 0 rfl) 0 rfl rfl ?_
  refine g_iload_n C (gd DX9_walk_0 1 rfl) 1 rfl rfl ?_
  refine g_cV1 (ci := 9) C [_] mX9_lacks lm_TestJudge_154 (by exact hx.1) rfl rfl (e_x_lacks hx (by omega) w2 p) hfl (by first | decide | omega) (by decide) (by omega) (by omega) rfl rfl (Nat.le_of_ble_eq_true rfl) (gd DX9_walk_0 2 rfl) ?_
  by_cases n1 : 0 ≤ p ∧ p ≤ nI (vNp V) - 1
  rotate_left
  · rw [b1_t (show ¬ (0 ≤ p ∧ p ≤ nI (vNp V) - 1) from n1)]
    refine g_if_eq C 14 (gd DX9_walk_0 3 rfl) (by decide) (fun c5 => ?_) (fun c5 => ?_)
    · exact absurd c5 (by decide)
    · refine g_aload_n C (gd DX9_walk_0 4 rfl) 0 rfl rfl ?_
      refine g_iconst (v := 2) C (gd DX9_walk_0 5 rfl) (by decide) ?_
      refine g_cV1 (ci := 9) C [_] mX9_refuse lm_TestJudge_90 (by exact hx.1) rfl rfl (e_x_refuse hx 2) hfl (by first | decide | omega) (by decide) (by omega) (by omega) rfl rfl (Nat.le_of_ble_eq_true rfl) (gd DX9_walk_0 6 rfl) ?_
      exact g_iret C (by omega) (by omega) ⟨_, V, mSt M 2, rfl, K.st K (qKp.rf x h) hM 2, Or.inl ⟨n1, rfl, rfl, rfl⟩⟩ (gd DX9_walk_0 7 rfl)
  rw [b1_f (show ¬ ¬ (0 ≤ p ∧ p ≤ nI (vNp V) - 1) from fun q => q n1)]
  refine g_if_eq C 14 (gd DX9_walk_0 3 rfl) (by decide) (fun c5 => ?_) (fun c5 => ?_)
  rotate_left
  · exact absurd rfl c5
  obtain ⟨r, hr, rfl⟩ := below_of (by omega) n1
  refine g_aload_n C (gd DX9_walk_0 8 rfl) 0 rfl rfl ?_
  refine g_iload_n C (gd DX9_walk_0 9 rfl) 1 rfl rfl ?_
  refine g_callV (ci := 9) C [_] mX9_tabulate lm_TestJudge_174 (by exact hx.1) rfl rfl (e_x_tabulate K hr) hfl (by first | decide | omega) (by decide) (by omega) (by omega) rfl rfl (Nat.le_of_ble_eq_true rfl) (gd DX9_walk_0 10 rfl) (fun r g hp => ?_)
  obtain ⟨rfl, K1, k1, tb⟩ := hp
  show GW z w 2 _ _ _ _ _ [] _
  have hx1 := K1.1
  refine g_aload_n C (gd DX9_walk_0 11 rfl) 0 rfl rfl ?_
  refine g_getr (ci := 9) (k := 9) C rfl (by decide) rfl lf_TestJudge_57 hx1.1 hx1.2.2.2.2.2.2.1.1 (gd DX9_walk_0 12 rfl) ?_
  refine g_geti (ci := 6) (k := 0) C rfl (by decide) rfl lf_TestJudge_233 hx1.2.2.2.2.2.2.1.2.1 (gd DX9_walk_0 13 rfl) ?_
  refine g_if_ne C 35 (gd DX9_walk_0 14 rfl) (by decide) (fun c26 => ?_) (fun c26 => ?_)
  rotate_left
  · have e0 : hI g (x + 36) 0 = 0 := by first | exact c26 | exact Decidable.of_not_not c26
    refine g_aload_n C (gd DX9_walk_0 15 rfl) 0 rfl rfl ?_
    refine g_iconst (v := 5) C (gd DX9_walk_0 16 rfl) (by decide) ?_
    refine g_cV1 (ci := 9) C [_] mX9_refuse lm_TestJudge_90 (by exact hx1.1) rfl rfl (e_x_refuse hx1 5) hfl (by first | decide | omega) (by decide) (by omega) (by omega) rfl rfl (Nat.le_of_ble_eq_true rfl) (gd DX9_walk_0 17 rfl) ?_
    exact g_iret C (by omega) (by omega) ⟨_, V, mSt M 5, rfl, K.st K1 k1 hM 5, Or.inr ⟨r, hr, rfl, _, tb, Or.inl ⟨e0, rfl, rfl, rfl⟩⟩⟩ (gd DX9_walk_0 18 rfl)
  · have n0 : ¬ hI g (x + 36) 0 = 0 := c26
    have xi : xIn x g (sI (sI (sI g x 12 (nI r)) x 13 0) x 14 0) := (((xIn.rf x g).i).i).i
    have K2 := K1.xi xi
    have hx2 := K2.1
    have e36 : hI (sI (sI (sI g x 12 (nI r)) x 13 0) x 14 0) (x + 36) = hI g (x + 36) := xi.2 _ (by omega)
    refine g_aload_n C (gd DX9_walk_0 19 rfl) 0 rfl rfl ?_
    refine g_iload_n C (gd DX9_walk_0 20 rfl) 1 rfl rfl ?_
    refine g_puti (ci := 9) (k := 12) C rfl (by decide) rfl lf_TestJudge_77 hx1.1 (Or.inl rfl) rfl (gd DX9_walk_0 21 rfl) ?_
    refine g_aload_n C (gd DX9_walk_0 22 rfl) 0 rfl rfl ?_
    refine g_iconst (v := 0) C (gd DX9_walk_0 23 rfl) (by decide) ?_
    refine g_puti (ci := 9) (k := 13) C rfl (by decide) rfl lf_TestJudge_80 hx1.1 (Or.inl rfl) rfl (gd DX9_walk_0 24 rfl) ?_
    refine g_aload_n C (gd DX9_walk_0 25 rfl) 0 rfl rfl ?_
    refine g_iconst (v := 0) C (gd DX9_walk_0 26 rfl) (by decide) ?_
    refine g_puti (ci := 9) (k := 14) C rfl (by decide) rfl lf_TestJudge_83 hx1.1 (Or.inl rfl) rfl (gd DX9_walk_0 27 rfl) ?_
    refine g_aload_n C (gd DX9_walk_0 28 rfl) 0 rfl rfl ?_
    refine g_aload_n C (gd DX9_walk_0 29 rfl) 0 rfl rfl ?_
    refine g_getr (ci := 9) (k := 9) C rfl (by decide) rfl lf_TestJudge_57 hx2.1 hx2.2.2.2.2.2.2.1.1 (gd DX9_walk_0 30 rfl) ?_
    refine g_geti (ci := 6) (k := 0) C rfl (by decide) rfl lf_TestJudge_233 hx2.2.2.2.2.2.2.1.2.1 (gd DX9_walk_0 31 rfl) ?_
    rw [e36]
    refine g_cV1 (ci := 9) C [_] mX9_allow lm_TestJudge_128 (by exact hx2.1) rfl rfl (e_x_allow hx2 _) hfl (by first | decide | omega) (by decide) (by omega) (by omega) rfl rfl (Nat.le_of_ble_eq_true rfl) (gd DX9_walk_0 32 rfl) ?_
    have K3 := K2.xi ((xIn.rf x _).i (k := 3) (v := 0))
    have m3 : kvM x (sI (sI (sI (sI g x 12 (nI r)) x 13 0) x 14 0) x 3 0) (mWl (mSt M 0) (nI r, 0, 0)) := hM.wl k1 (xi.i (k := 3) (v := 0)) (fun j h1 h2 h3 h4 => by rw [xI_ne h1, xI_ne h4, xI_ne h3, xI_ne h2]) xI_eq (by rw [xI_ne (by omega), xI_ne (by omega), xI_ne (by omega), xI_eq]) (by rw [xI_ne (by omega), xI_ne (by omega), xI_eq]) (by rw [xI_ne (by omega), xI_eq])
    exact g_iret C (by omega) (by omega) ⟨_, V, mWl (mSt M 0) (nI r, 0, 0), rfl, ⟨W, RC, K3, m3⟩, Or.inr ⟨r, hr, rfl, _, tb, Or.inr ⟨n0, rfl, rfl, rfl⟩⟩⟩ (gd DX9_walk_0 33 rfl)
theorem e_x_step (K : K0 x W h V RC) (hM : kvM x h M) (wk : vWk V M) (a c : Int32) : Ev w 7 0 0 yX9_step cX9_step 4 (some .int) [.ref x, .int a, .int c] h (aQ x (qStp V M a c)) := by
  refine g_start (by decide) (Nat.le_of_ble_eq_true rfl) [(0, _), (1, _), (2, _)] rfl (fun z hfl C => ?_)
  have hx := K.1
  obtain ⟨w0, w1, w2, w3, w4⟩ := K.2.2.1.1
  have hnp := K.2.1.np
  obtain ⟨m12, m13, m14⟩ := hM.2.2.1
  refine g_aload_n C (gd DX9_step_0 0 rfl) 0 rfl rfl ?_
  refine g_iload_n C (gd DX9_step_0 1 rfl) 1 rfl rfl ?_
  refine g_iload_n C (gd DX9_step_0 2 rfl) 2 rfl rfl ?_
  refine g_cV1 (ci := 9) C [_, _] mX9_lacksLetter lm_TestJudge_243 (by exact hx.1) rfl rfl (e_x_lacksLetter hx K.2.1.1.1 K.2.1.1.2.1 w0 w1 a c) hfl (by first | decide | omega) (by decide) (by omega) (by omega) rfl rfl (Nat.le_of_ble_eq_true rfl) (gd DX9_step_0 3 rfl) ?_
  by_cases n1 : (0 ≤ a ∧ a ≤ atF (nI (vNt V)) - 1) ∧ (0 ≤ c ∧ c ≤ nI (vNa V) - 1)
  rotate_left
  · rw [b1_t (show ¬ ((0 ≤ a ∧ a ≤ atF (nI (vNt V)) - 1) ∧ (0 ≤ c ∧ c ≤ nI (vNa V) - 1)) from n1)]
    refine g_if_eq C 15 (gd DX9_step_0 4 rfl) (by decide) (fun c6 => ?_) (fun c6 => ?_)
    · exact absurd c6 (by decide)
    · refine g_aload_n C (gd DX9_step_0 5 rfl) 0 rfl rfl ?_
      refine g_iconst (v := 2) C (gd DX9_step_0 6 rfl) (by decide) ?_
      refine g_cV1 (ci := 9) C [_] mX9_refuse lm_TestJudge_90 (by exact hx.1) rfl rfl (e_x_refuse hx 2) hfl (by first | decide | omega) (by decide) (by omega) (by omega) rfl rfl (Nat.le_of_ble_eq_true rfl) (gd DX9_step_0 7 rfl) ?_
      exact g_iret C (by omega) (by omega) ⟨_, V, mSt M 2, rfl, K.st K (qKp.rf x h) hM 2, Or.inl ⟨n1, rfl, rfl, rfl⟩⟩ (gd DX9_step_0 8 rfl)
  rw [b1_f (show ¬ ¬ ((0 ≤ a ∧ a ≤ atF (nI (vNt V)) - 1) ∧ (0 ≤ c ∧ c ≤ nI (vNa V) - 1)) from fun q => q n1)]
  refine g_if_eq C 15 (gd DX9_step_0 4 rfl) (by decide) (fun c6 => ?_) (fun c6 => ?_)
  rotate_left
  · exact absurd rfl c6
  have lt := n1
  obtain ⟨y, zz, hy, hy8, hz, hz3, rfl, rfl⟩ := let_of K.2.1 n1
  refine g_aload_n C (gd DX9_step_0 9 rfl) 0 rfl rfl ?_
  refine g_geti (ci := 9) (k := 12) C rfl (by decide) rfl lf_TestJudge_77 hx.1 (gd DX9_step_0 10 rfl) ?_
  rw [m12]
  rcases wk with e0 | ⟨r, j, hr, er, ej, wk2⟩
  · rw [e0]
    refine g_iconst (v := -1) C (gd DX9_step_0 11 rfl) (by decide) ?_
    refine g_icmp_ne C 29 (gd DX9_step_0 12 rfl) (by decide) (fun c20 => ?_) (fun c20 => ?_)
    · exact absurd rfl c20
    · refine g_aload_n C (gd DX9_step_0 13 rfl) 0 rfl rfl ?_
      refine g_iconst (v := 5) C (gd DX9_step_0 14 rfl) (by decide) ?_
      refine g_cV1 (ci := 9) C [_] mX9_refuse lm_TestJudge_90 (by exact hx.1) rfl rfl (e_x_refuse hx 5) hfl (by first | decide | omega) (by decide) (by omega) (by omega) rfl rfl (Nat.le_of_ble_eq_true rfl) (gd DX9_step_0 15 rfl) ?_
      exact g_iret C (by omega) (by omega) ⟨_, V, mSt M 5, rfl, K.st K (qKp.rf x h) hM 5, Or.inr ⟨lt, Or.inl ⟨e0, rfl, rfl, rfl⟩⟩⟩ (gd DX9_step_0 16 rfl)
  · rw [er]
    refine g_iconst (v := -1) C (gd DX9_step_0 11 rfl) (by decide) ?_
    refine g_icmp_ne C 29 (gd DX9_step_0 12 rfl) (by decide) (fun c20 => ?_) (fun c20 => ?_)
    rotate_left
    · exact absurd (by first | exact c20 | exact Decidable.of_not_not c20) (nI_neg1 (by omega))
    refine g_aload_n C (gd DX9_step_0 17 rfl) 0 rfl rfl ?_
    refine g_aload_n C (gd DX9_step_0 18 rfl) 0 rfl rfl ?_
    refine g_geti (ci := 9) (k := 12) C rfl (by decide) rfl lf_TestJudge_77 hx.1 (gd DX9_step_0 19 rfl) ?_
    rw [m12, er]
    refine g_callV (ci := 9) C [_] mX9_tabulate lm_TestJudge_174 (by exact hx.1) rfl rfl (e_x_tabulate K hr) hfl (by first | decide | omega) (by decide) (by omega) (by omega) rfl rfl (Nat.le_of_ble_eq_true rfl) (gd DX9_step_0 20 rfl) (fun r g hp => ?_)
    obtain ⟨rfl, K1, k1, tb⟩ := hp
    show GW z w 4 _ _ _ _ _ [] _
    have hx1 := K1.1
    obtain ⟨n, o⟩ := tb.n
    have hjn := tbO_j tb o wk2
    have hn := o.1
    have e14 : hI g x 14 = nI j := (k1.2.2.2.2.2.1 14 (by omega)).trans (m14.trans ej)
    have e13 : hI g x 13 = M.2.2.1.2.1 := (k1.2.2.2.2.2.1 13 (by omega)).trans m13
    refine g_aload_n C (gd DX9_step_0 21 rfl) 0 rfl rfl ?_
    refine g_getr (ci := 9) (k := 9) C rfl (by decide) rfl lf_TestJudge_57 hx1.1 hx1.2.2.2.2.2.2.1.1 (gd DX9_step_0 22 rfl) ?_
    refine g_aload_n C (gd DX9_step_0 23 rfl) 0 rfl rfl ?_
    refine g_geti (ci := 9) (k := 14) C rfl (by decide) rfl lf_TestJudge_83 hx1.1 (gd DX9_step_0 24 rfl) ?_
    rw [e14]
    refine g_iload_n C (gd DX9_step_0 25 rfl) 1 rfl rfl ?_
    refine g_iload_n C (gd DX9_step_0 26 rfl) 2 rfl rfl ?_
    refine GW.cast rfl rfl (tR_self (t := x + 36)).symm ?_
    refine g_cV1 (ci := 6) C [_, _, _] mX6_target lm_TestJudge_247 (by exact hx1.2.2.2.2.2.2.1.2.1) rfl rfl (e_t_target hx1.2.2.2.2.2.2.1.2 o hjn hy8 hz3) hfl (by first | decide | omega) (by decide) (by omega) (by omega) rfl rfl (Nat.le_of_ble_eq_true rfl) (gd DX9_step_0 27 rfl) ?_
    rw [tR_self]
    show GW z w 4 _ _ _ _ _ (.int (hI g (x + 36 + 3) (24 * j + (3 * y + zz))) :: _) _
    generalize hv : hI g (x + 36 + 3) (24 * j + (3 * y + zz)) = v
    have hv2 : v = -1 ∨ ∃ i, i < 200 ∧ v = nI i := by
      rcases o.2.2.2 (24 * j + (3 * y + zz)) (by omega) with e | ⟨i, hi, e⟩
      · exact Or.inl (hv.symm.trans e)
      · exact Or.inr ⟨i, by omega, hv.symm.trans e⟩
    refine g_istore_n (lv' := [(0, _), (1, _), (2, _), (3, _)]) C (gd DX9_step_0 28 rfl) [1, 2, 3, 0] rfl (by decide) rfl ?_
    refine g_iload_n C (gd DX9_step_0 29 rfl) 3 rfl rfl ?_
    refine g_if_ge C 61 (gd DX9_step_0 30 rfl) (by decide) (fun c52 => ?_) (fun c52 => ?_)
    · rcases hv2 with rfl | ⟨i, hi, rfl⟩
      · exact absurd c52 (by decide)
      have xi : xIn x g (sI (sI g x 13 (M.2.2.1.2.1 + 1)) x 14 (nI i)) := ((xIn.rf x g).i).i
      have K2 := K1.xi xi
      have hx2 := K2.1
      refine g_aload_n C (gd DX9_step_0 35 rfl) 0 rfl rfl ?_
      refine g_dup C (gd DX9_step_0 36 rfl) rfl ?_
      refine g_geti (ci := 9) (k := 13) C rfl (by decide) rfl lf_TestJudge_80 hx1.1 (gd DX9_step_0 37 rfl) ?_
      rw [e13]
      refine g_iconst (v := 1) C (gd DX9_step_0 38 rfl) (by decide) ?_
      refine g_iadd C (gd DX9_step_0 39 rfl) ?_
      refine g_puti (ci := 9) (k := 13) C rfl (by decide) rfl lf_TestJudge_80 hx1.1 (Or.inl rfl) rfl (gd DX9_step_0 40 rfl) ?_
      refine g_aload_n C (gd DX9_step_0 41 rfl) 0 rfl rfl ?_
      refine g_iload_n C (gd DX9_step_0 42 rfl) 3 rfl rfl ?_
      refine g_puti (ci := 9) (k := 14) C rfl (by decide) rfl lf_TestJudge_83 hx1.1 (Or.inl rfl) rfl (gd DX9_step_0 43 rfl) ?_
      refine g_aload_n C (gd DX9_step_0 44 rfl) 0 rfl rfl ?_
      refine g_iload_n C (gd DX9_step_0 45 rfl) 3 rfl rfl ?_
      refine g_cV1 (ci := 9) C [_] mX9_allow lm_TestJudge_128 (by exact hx2.1) rfl rfl (e_x_allow hx2 _) hfl (by first | decide | omega) (by decide) (by omega) (by omega) rfl rfl (Nat.le_of_ble_eq_true rfl) (gd DX9_step_0 46 rfl) ?_
      have K3 := K2.xi ((xIn.rf x _).i (k := 3) (v := 0))
      have m3 : kvM x (sI (sI (sI g x 13 (M.2.2.1.2.1 + 1)) x 14 (nI i)) x 3 0) (mWl (mSt M 0) (nI r, M.2.2.1.2.1 + 1, nI i)) := hM.wl k1 (xi.i (k := 3) (v := 0)) (fun j h1 h2 h3 h4 => by rw [xI_ne h1, xI_ne h4, xI_ne h3]) xI_eq (by rw [xI_ne (by omega), xI_ne (by omega), xI_ne (by omega), k1.2.2.2.2.2.1 12 (by omega), m12, er]) (by rw [xI_ne (by omega), xI_ne (by omega), xI_eq]) (by rw [xI_ne (by omega), xI_eq])
      exact g_iret C (by omega) (by omega) ⟨_, V, _, rfl, ⟨W, RC, K3, m3⟩, Or.inr ⟨lt, Or.inr ⟨r, j, y, zz, _, nI i, hr, er, ej, hy8, hz3, rfl, rfl, tb, ⟨n, o, hjn⟩, hv.symm, Or.inr ⟨nI_neg1 (by omega), rfl, rfl, rfl⟩⟩⟩⟩ (gd DX9_step_0 47 rfl)
    · rcases hv2 with rfl | ⟨i, hi, rfl⟩
      · have hx3 := hx1
        refine g_aload_n C (gd DX9_step_0 31 rfl) 0 rfl rfl ?_
        refine g_iconst (v := 5) C (gd DX9_step_0 32 rfl) (by decide) ?_
        refine g_cV1 (ci := 9) C [_] mX9_refuse lm_TestJudge_90 (by exact hx1.1) rfl rfl (e_x_refuse hx1 5) hfl (by first | decide | omega) (by decide) (by omega) (by omega) rfl rfl (Nat.le_of_ble_eq_true rfl) (gd DX9_step_0 33 rfl) ?_
        exact g_iret C (by omega) (by omega) ⟨_, V, _, rfl, K.st K1 k1 hM 5, Or.inr ⟨lt, Or.inr ⟨r, j, y, zz, _, -1, hr, er, ej, hy8, hz3, rfl, rfl, tb, ⟨n, o, hjn⟩, hv.symm, Or.inl ⟨rfl, rfl, rfl, rfl⟩⟩⟩⟩ (gd DX9_step_0 34 rfl)
      · exact absurd (nI_nn (a := i) (by omega)) (fun q => q (by first | exact c52 | exact Int32.not_le.mp c52))
theorem e_x_walked (K : K0 x W h V RC) (hM : kvM x h M) (wk : vWk V M) (k : Int32) : Ev w 7 0 0 yX9_walked cX9_walked 2 (some .int) [.ref x, .int k] h (aQ x (qQ V M (qWkd V M k))) := by
  refine g_start (by decide) (Nat.le_of_ble_eq_true rfl) [(0, _), (1, _)] rfl (fun z hfl C => ?_)
  have hx := K.1
  obtain ⟨m12, m13, m14⟩ := hM.2.2.1
  have hnp := K.2.1.np
  have k9 : ¬ (0 ≤ k ∧ k ≤ 3) → GW z w 2 (gQ z w 0 0 (fun r' h'' => aQ x (qQ V M (qWkd V M k)) r' h'')) 0 0 9 [(0, .ref x), (1, .int k)] [] h := by
    intro q
    refine g_aload_n C (gd DX9_walked_0 5 rfl) 0 rfl rfl ?_
    refine g_iconst (v := 1) C (gd DX9_walked_0 6 rfl) (by decide) ?_
    refine g_cV1 (ci := 9) C [_] mX9_refuse lm_TestJudge_90 (by exact hx.1) rfl rfl (e_x_refuse hx 1) hfl (by first | decide | omega) (by decide) (by omega) (by omega) rfl rfl (Nat.le_of_ble_eq_true rfl) (gd DX9_walked_0 7 rfl) ?_
    exact g_iret C (by omega) (by omega) (aQ.r K hM rfl (Or.inl ⟨q, rfl, rfl⟩)) (gd DX9_walked_0 8 rfl)
  refine g_iload_n C (gd DX9_walked_0 0 rfl) 1 rfl rfl ?_
  refine g_if_lt C 9 (gd DX9_walked_0 1 rfl) (by decide) (fun c1 => ?_) (fun c1 => ?_)
  · exact k9 (fun q => absurd q.1 (Int32.not_le.mpr c1))
  refine g_iload_n C (gd DX9_walked_0 2 rfl) 1 rfl rfl ?_
  refine g_iconst (v := 3) C (gd DX9_walked_0 3 rfl) (by decide) ?_
  refine g_icmp_le C 15 (gd DX9_walked_0 4 rfl) (by decide) (fun c6 => ?_) (fun c6 => ?_)
  rotate_left
  · exact k9 (fun q => c6 q.2)
  have hk : 0 ≤ k ∧ k ≤ 3 := ⟨Int32.not_lt.mp c1, c6⟩
  clear k9
  refine g_aload_n C (gd DX9_walked_0 9 rfl) 0 rfl rfl ?_
  refine g_geti (ci := 9) (k := 12) C rfl (by decide) rfl lf_TestJudge_77 hx.1 (gd DX9_walked_0 10 rfl) ?_
  rw [m12]
  rcases wk with e0 | ⟨r, j, hr, er, ej, wk2⟩
  · rw [e0]
    refine g_iconst (v := -1) C (gd DX9_walked_0 11 rfl) (by decide) ?_
    refine g_icmp_ne C 29 (gd DX9_walked_0 12 rfl) (by decide) (fun c20 => ?_) (fun c20 => ?_)
    · exact absurd rfl c20
    · refine g_aload_n C (gd DX9_walked_0 13 rfl) 0 rfl rfl ?_
      refine g_iconst (v := 5) C (gd DX9_walked_0 14 rfl) (by decide) ?_
      refine g_cV1 (ci := 9) C [_] mX9_refuse lm_TestJudge_90 (by exact hx.1) rfl rfl (e_x_refuse hx 5) hfl (by first | decide | omega) (by decide) (by omega) (by omega) rfl rfl (Nat.le_of_ble_eq_true rfl) (gd DX9_walked_0 15 rfl) ?_
      exact g_iret C (by omega) (by omega) (aQ.r K hM rfl (Or.inr ⟨hk, Or.inl ⟨e0, rfl, rfl⟩⟩)) (gd DX9_walked_0 16 rfl)
  · rw [er]
    refine g_iconst (v := -1) C (gd DX9_walked_0 11 rfl) (by decide) ?_
    refine g_icmp_ne C 29 (gd DX9_walked_0 12 rfl) (by decide) (fun c20 => ?_) (fun c20 => ?_)
    rotate_left
    · exact absurd (by first | exact c20 | exact Decidable.of_not_not c20) (nI_neg1 (by omega))
    refine g_iload_n C (gd DX9_walked_0 17 rfl) 1 rfl rfl ?_
    obtain ⟨i, hi, rfl⟩ : ∃ i, i < 4 ∧ k = nI i := below_of (n := 4) (by omega) hk
    rcases (show i = 0 ∨ i = 1 ∨ i = 2 ∨ i = 3 by omega) with rfl | rfl | rfl | rfl
    · refine g_tableIn C 56 (gd DX9_walked_0 18 rfl) (by decide) (by decide) rfl (by decide) ?_
      refine g_aload_n C (gd DX9_walked_0 19 rfl) 0 rfl rfl ?_
      refine g_aload_n C (gd DX9_walked_0 20 rfl) 0 rfl rfl ?_
      refine g_geti (ci := 9) (k := 12) C rfl (by decide) rfl lf_TestJudge_77 hx.1 (gd DX9_walked_0 21 rfl) ?_
      rw [m12, er]
      refine g_cV1 (ci := 9) C [_] mX9_allow lm_TestJudge_128 (by exact hx.1) rfl rfl (e_x_allow hx _) hfl (by first | decide | omega) (by decide) (by omega) (by omega) rfl rfl (Nat.le_of_ble_eq_true rfl) (gd DX9_walked_0 22 rfl) ?_
      exact g_iret C (by omega) (by omega) (aQ.r K hM rfl (Or.inr ⟨hk, Or.inr ⟨r, j, hr, er, ej, Or.inl ⟨rfl, rfl⟩, rfl⟩⟩)) (gd DX9_walked_0 23 rfl)
    · refine g_tableIn C 65 (gd DX9_walked_0 18 rfl) (by decide) (by decide) rfl (by decide) ?_
      refine g_aload_n C (gd DX9_walked_0 24 rfl) 0 rfl rfl ?_
      refine g_aload_n C (gd DX9_walked_0 25 rfl) 0 rfl rfl ?_
      refine g_geti (ci := 9) (k := 13) C rfl (by decide) rfl lf_TestJudge_80 hx.1 (gd DX9_walked_0 26 rfl) ?_
      rw [m13]
      refine g_cV1 (ci := 9) C [_] mX9_allow lm_TestJudge_128 (by exact hx.1) rfl rfl (e_x_allow hx _) hfl (by first | decide | omega) (by decide) (by omega) (by omega) rfl rfl (Nat.le_of_ble_eq_true rfl) (gd DX9_walked_0 27 rfl) ?_
      exact g_iret C (by omega) (by omega) (aQ.r K hM rfl (Or.inr ⟨hk, Or.inr ⟨r, j, hr, er, ej, Or.inr (Or.inl ⟨rfl, rfl⟩), rfl⟩⟩)) (gd DX9_walked_0 28 rfl)
    · refine g_tableIn C 74 (gd DX9_walked_0 18 rfl) (by decide) (by decide) rfl (by decide) ?_
      refine g_aload_n C (gd DX9_walked_0 29 rfl) 0 rfl rfl ?_
      refine g_aload_n C (gd DX9_walked_0 30 rfl) 0 rfl rfl ?_
      refine g_geti (ci := 9) (k := 14) C rfl (by decide) rfl lf_TestJudge_83 hx.1 (gd DX9_walked_0 31 rfl) ?_
      rw [m14, ej]
      refine g_cV1 (ci := 9) C [_] mX9_allow lm_TestJudge_128 (by exact hx.1) rfl rfl (e_x_allow hx _) hfl (by first | decide | omega) (by decide) (by omega) (by omega) rfl rfl (Nat.le_of_ble_eq_true rfl) (gd DX9_walked_0 32 rfl) ?_
      exact g_iret C (by omega) (by omega) (aQ.r K hM rfl (Or.inr ⟨hk, Or.inr ⟨r, j, hr, er, ej, Or.inr (Or.inr (Or.inl ⟨rfl, rfl⟩)), rfl⟩⟩)) (gd DX9_walked_0 33 rfl)
    · refine g_tableOut C 83 (gd DX9_walked_0 18 rfl) (by decide) (by decide) ?_
      refine g_aload_n C (gd DX9_walked_0 34 rfl) 0 rfl rfl ?_
      refine g_aload_n C (gd DX9_walked_0 35 rfl) 0 rfl rfl ?_
      refine g_geti (ci := 9) (k := 12) C rfl (by decide) rfl lf_TestJudge_77 hx.1 (gd DX9_walked_0 36 rfl) ?_
      rw [m12, er]
      refine g_callV (ci := 9) C [_] mX9_tabulate lm_TestJudge_174 (by exact hx.1) rfl rfl (e_x_tabulate K hr) hfl (by first | decide | omega) (by decide) (by omega) (by omega) rfl rfl (Nat.le_of_ble_eq_true rfl) (gd DX9_walked_0 37 rfl) (fun r g hp => ?_)
      obtain ⟨rfl, K1, k1, tb⟩ := hp
      show GW z w 2 _ _ _ _ _ [] _
      have hx1 := K1.1
      obtain ⟨n, o⟩ := tb.n
      have hjn := tbO_j tb o wk2
      have hn := o.1
      have e14 : hI g x 14 = nI j := (k1.2.2.2.2.2.1 14 (by omega)).trans (m14.trans ej)
      refine g_aload_n C (gd DX9_walked_0 38 rfl) 0 rfl rfl ?_
      refine g_aload_n C (gd DX9_walked_0 39 rfl) 0 rfl rfl ?_
      refine g_getr (ci := 9) (k := 9) C rfl (by decide) rfl lf_TestJudge_57 hx1.1 hx1.2.2.2.2.2.2.1.1 (gd DX9_walked_0 40 rfl) ?_
      refine g_aload_n C (gd DX9_walked_0 41 rfl) 0 rfl rfl ?_
      refine g_geti (ci := 9) (k := 14) C rfl (by decide) rfl lf_TestJudge_83 hx1.1 (gd DX9_walked_0 42 rfl) ?_
      rw [e14]
      refine GW.cast rfl rfl (tR_self (t := x + 36)).symm ?_
      refine g_cV1 (ci := 6) C [_] mX6_has lm_TestJudge_236 (by exact hx1.2.2.2.2.2.2.1.2.1) rfl rfl (e_t_has hx1.2.2.2.2.2.2.1.2 (nI j)) hfl (by first | decide | omega) (by decide) (by omega) (by omega) rfl rfl (Nat.le_of_ble_eq_true rfl) (gd DX9_walked_0 43 rfl) ?_
      rw [tR_self, b1_t (show ¬ nI j < 0 ∧ ¬ (fun i => hI g (x + 36 + i)) 0 0 ≤ nI j from ⟨nI_nn (by omega), by rw [o.2.1]; exact nI_ge hjn (by omega)⟩)]
      refine g_if_eq C 121 (gd DX9_walked_0 44 rfl) (by decide) (fun c103 => ?_) (fun c103 => ?_)
      · exact absurd c103 (by decide)
      · refine g_aload_n C (gd DX9_walked_0 45 rfl) 0 rfl rfl ?_
        refine g_getr (ci := 9) (k := 9) C rfl (by decide) rfl lf_TestJudge_57 hx1.1 hx1.2.2.2.2.2.2.1.1 (gd DX9_walked_0 46 rfl) ?_
        refine g_getr (ci := 6) (k := 1) C rfl (by decide) rfl lf_TestJudge_239 hx1.2.2.2.2.2.2.1.2.1 hx1.2.2.2.2.2.2.1.2.2.1.1 (gd DX9_walked_0 47 rfl) ?_
        refine g_aload_n C (gd DX9_walked_0 48 rfl) 0 rfl rfl ?_
        refine g_geti (ci := 9) (k := 14) C rfl (by decide) rfl lf_TestJudge_83 hx1.1 (gd DX9_walked_0 49 rfl) ?_
        rw [e14]
        refine g_iaj (j := j) C hx1.2.2.2.2.2.2.1.2.2.1.2.1 hx1.2.2.2.2.2.2.1.2.2.1.2.2 (by first | decide | omega) rfl (by omega) (gd DX9_walked_0 50 rfl) ?_
        refine g_goto (tgt := 122) C (gd DX9_walked_0 51 rfl) (by decide) ?_
        refine g_cV1 (ci := 9) C [_] mX9_allow lm_TestJudge_128 (by exact hx1.1) rfl rfl (e_x_allow hx1 _) hfl (by first | decide | omega) (by decide) (by omega) (by omega) rfl rfl (Nat.le_of_ble_eq_true rfl) (gd DX9_walked_0 53 rfl) ?_
        exact g_iret C (by omega) (by omega) (aQ.q K hM rfl K1 k1 (Or.inr ⟨hk, Or.inr ⟨r, j, hr, er, ej, Or.inr (Or.inr (Or.inr ⟨rfl, _, n, tb, o, hjn, rfl⟩)), rfl⟩⟩)) (gd DX9_walked_0 54 rfl)
end X9
