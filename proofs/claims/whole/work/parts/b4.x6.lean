/-! The class's questions: both, count, fewest -/
theorem sI_sF_c {h : HS} {a b k : Nat} {v : Int32} {f : Nat → Int32} (hb : b ≠ a) : sI (sF h a f) b k v = sF (sI h b k v) a f := by
  unfold sI sF
  refine Prod.ext (funext fun c => funext fun j => ?_) rfl
  show (if c = b ∧ j = k then v else if c = a then f j else h.1 c j) = (if c = a then f j else if c = b ∧ j = k then v else h.1 c j)
  by_cases e : c = a
  · rw [if_pos e, if_neg (fun q => hb (q.1.symm.trans e)), if_pos e]
  · rw [if_neg e, if_neg e]
theorem sI_hS {s b k : Nat} {h : HS} {v : Int32} {F BH NU SI CA : Nat → Int32} (hb : ¬ (b = s ∨ b = s + 1 ∨ b = s + 14 ∨ b = s + 15 ∨ b = s + 16)) : sI (hS s h F BH NU SI CA) b k v = hS s (sI h b k v) F BH NU SI CA := by
  unfold hS
  rw [sI_sF_c (by omega), sI_sF_c (by omega), sI_sF_c (by omega), sI_sF_c (by omega), sI_sF_c (by omega)]
theorem sRd.e {P : kP} {s : Nat} {h h1 : HS} (r : sRd P s h) (e : ∀ i, 3 ≤ i → i ≤ 13 → hI h1 (s + i) = hI h (s + i)) : sRd P s h1 := by
  unfold sRd
  rw [e 3 (by omega) (by omega), e 4 (by omega) (by omega), e 5 (by omega) (by omega), e 7 (by omega) (by omega), e 8 (by omega) (by omega), e 9 (by omega) (by omega), e 11 (by omega) (by omega), e 12 (by omega) (by omega), e 13 (by omega) (by omega)]
  exact r
theorem qKp_cnt {x : Nat} {g : HS} {v : Int32} {A B : Nat → Int64} {F BH NU SI CA : Nat → Int32} : qKp x g (hS (x + 17) (hWL (x + 17) (sI g x 3 v) A B) F BH NU SI CA) := by
  refine ⟨rfl, rfl, rfl, fun b k q => rfl, fun b b1 b2 => ?_, fun k hk => ?_, fun b b1 b2 => ?_⟩
  · rw [hS_ne (by omega)]
    exact hI_sI_ne b1
  · rw [hS_ne (by omega)]
    show hI (sI g x 3 v) x k = hI g x k
    rw [hI_sI, if_neg (fun q => hk q.2)]
  · funext j
    show (if b = x + 17 + 17 then A j else if b = x + 17 + 18 then B j else hL g b j) = hL g b j
    rw [if_neg (by omega), if_neg (by omega)]
theorem aQ.l {x W : Nat} {h h1 : HS} {V : aV} {RC : Nat → Nat → Int32} {M : aM} {Q : Int64 → Int32 → Prop} (K : K0 x W h V RC) (m : kvM x h M) {i : Int64} {st : Int32} {r' : Option Value} (hr : r' = some (.long i)) (K1 : K0 x W h1 V RC) (k : qKp x h h1) (q : Q i st) : aQ x (qL V M Q) r' (sI h1 x 3 st) := ⟨_, _, _, hr, K.st K1 k m st, i, st, rfl, q, rfl, rfl⟩
section X6
variable {w : gD} {x W : Nat} {h : HS} {V : aV} {RC : Nat → Nat → Int32} {M : aM}
theorem K0.w5 (K : K0 x W h V RC) {r : Nat} (hr : r < vNp V) : wt (vPR V r) ≤ 5 := ((K.2.1.2.1 (vA V) (Nat.le_refl _)).2.2 r hr).1
theorem e_x_both (K : K0 x W h V RC) (hM : kvM x h M) (p o k : Int32) : Ev w 6 0 0 yX9_both cX9_both 4 (some .long) [.ref x, .int p, .int o, .int k] h (aQ x (qL V M (gatL (0 ≤ k ∧ k ≤ 12) 1 (twoL (vNp V) p o (qBth V k))))) := by
  refine g_start (by decide) (Nat.le_of_ble_eq_true rfl) [(0, _), (1, _), (2, _), (3, _)] rfl (fun z hfl C => ?_)
  have hx := K.1
  obtain ⟨w0, w1, w2, w3, w4⟩ := K.2.2.1.1
  have hnp := K.2.1.np
  have hs4 := K.2.1.s4
  have k10 : ¬ (0 ≤ k ∧ k ≤ 12) → GW z w 4 (gQ z w 0 0 (fun r' h'' => aQ x (qL V M (gatL (0 ≤ k ∧ k ≤ 12) 1 (twoL (vNp V) p o (qBth V k)))) r' h'')) 0 0 10 [(0, .ref x), (1, .int p), (2, .int o), (3, .int k)] [] h := by
    intro n
    refine g_aload_n C (gd DX9_both_0 5 rfl) 0 rfl rfl ?_
    refine g_iconst (v := 1) C (gd DX9_both_0 6 rfl) (by decide) ?_
    refine g_cV1 (ci := 9) C [_] mX9_refuse lm_TestJudge_90 (by exact hx.1) rfl rfl (e_x_refuse hx 1) hfl (by first | decide | omega) (by decide) (by omega) (by omega) rfl rfl (Nat.le_of_ble_eq_true rfl) (gd DX9_both_0 7 rfl) ?_
    refine g_i2l C (gd DX9_both_0 8 rfl) ?_
    exact g_lret C (by omega) (by omega) (aQ.l K hM rfl K (qKp.rf x h) (Or.inl ⟨n, rfl, rfl⟩)) (gd DX9_both_0 9 rfl)
  refine g_iload_n C (gd DX9_both_0 0 rfl) 3 rfl rfl ?_
  refine g_if_lt C 10 (gd DX9_both_0 1 rfl) (by decide) (fun c1 => ?_) (fun c1 => ?_)
  · exact k10 (fun q => absurd q.1 (Int32.not_le.mpr c1))
  refine g_iload_n C (gd DX9_both_0 2 rfl) 3 rfl rfl ?_
  refine g_bipush (v := 12) C (gd DX9_both_0 3 rfl) (by decide) ?_
  refine g_icmp_le C 17 (gd DX9_both_0 4 rfl) (by decide) (fun c7 => ?_) (fun c7 => ?_)
  rotate_left
  · exact k10 (fun q => c7 q.2)
  have hk : 0 ≤ k ∧ k ≤ 12 := ⟨Int32.not_lt.mp c1, c7⟩
  refine g_aload_n C (gd DX9_both_0 10 rfl) 0 rfl rfl ?_
  refine g_iload_n C (gd DX9_both_0 11 rfl) 1 rfl rfl ?_
  refine g_cV1 (ci := 9) C [_] mX9_lacks lm_TestJudge_154 (by exact hx.1) rfl rfl (e_x_lacks hx (by omega) w2 p) hfl (by first | decide | omega) (by decide) (by omega) (by omega) rfl rfl (Nat.le_of_ble_eq_true rfl) (gd DX9_both_0 12 rfl) ?_
  by_cases n1 : 0 ≤ p ∧ p ≤ nI (vNp V) - 1
  rotate_left
  · rw [b1_t (show ¬ (0 ≤ p ∧ p ≤ nI (vNp V) - 1) from n1)]
    refine g_if_ne C 33 (gd DX9_both_0 13 rfl) (by decide) (fun c22 => ?_) (fun c22 => ?_)
    · refine g_aload_n C (gd DX9_both_0 18 rfl) 0 rfl rfl ?_
      refine g_iconst (v := 2) C (gd DX9_both_0 19 rfl) (by decide) ?_
      refine g_cV1 (ci := 9) C [_] mX9_refuse lm_TestJudge_90 (by exact hx.1) rfl rfl (e_x_refuse hx 2) hfl (by first | decide | omega) (by decide) (by omega) (by omega) rfl rfl (Nat.le_of_ble_eq_true rfl) (gd DX9_both_0 20 rfl) ?_
      refine g_i2l C (gd DX9_both_0 21 rfl) ?_
      exact g_lret C (by omega) (by omega) (aQ.l K hM rfl K (qKp.rf x h) (Or.inr ⟨hk, Or.inl ⟨fun q => n1 q.1, rfl, rfl⟩⟩)) (gd DX9_both_0 22 rfl)
    · exact absurd c22 (by decide)
  rw [b1_f (show ¬ ¬ (0 ≤ p ∧ p ≤ nI (vNp V) - 1) from fun q => q n1)]
  refine g_if_ne C 33 (gd DX9_both_0 13 rfl) (by decide) (fun c22 => ?_) (fun c22 => ?_)
  · exact absurd rfl c22
  refine g_aload_n C (gd DX9_both_0 14 rfl) 0 rfl rfl ?_
  refine g_iload_n C (gd DX9_both_0 15 rfl) 2 rfl rfl ?_
  refine g_cV1 (ci := 9) C [_] mX9_lacks lm_TestJudge_154 (by exact hx.1) rfl rfl (e_x_lacks hx (by omega) w2 o) hfl (by first | decide | omega) (by decide) (by omega) (by omega) rfl rfl (Nat.le_of_ble_eq_true rfl) (gd DX9_both_0 16 rfl) ?_
  by_cases n2 : 0 ≤ o ∧ o ≤ nI (vNp V) - 1
  rotate_left
  · rw [b1_t (show ¬ (0 ≤ o ∧ o ≤ nI (vNp V) - 1) from n2)]
    refine g_if_eq C 40 (gd DX9_both_0 17 rfl) (by decide) (fun c30 => ?_) (fun c30 => ?_)
    · exact absurd c30 (by decide)
    · refine g_aload_n C (gd DX9_both_0 18 rfl) 0 rfl rfl ?_
      refine g_iconst (v := 2) C (gd DX9_both_0 19 rfl) (by decide) ?_
      refine g_cV1 (ci := 9) C [_] mX9_refuse lm_TestJudge_90 (by exact hx.1) rfl rfl (e_x_refuse hx 2) hfl (by first | decide | omega) (by decide) (by omega) (by omega) rfl rfl (Nat.le_of_ble_eq_true rfl) (gd DX9_both_0 20 rfl) ?_
      refine g_i2l C (gd DX9_both_0 21 rfl) ?_
      exact g_lret C (by omega) (by omega) (aQ.l K hM rfl K (qKp.rf x h) (Or.inr ⟨hk, Or.inl ⟨fun q => n2 q.2, rfl, rfl⟩⟩)) (gd DX9_both_0 22 rfl)
  rw [b1_f (show ¬ ¬ (0 ≤ o ∧ o ≤ nI (vNp V) - 1) from fun q => q n2)]
  refine g_if_eq C 40 (gd DX9_both_0 17 rfl) (by decide) (fun c30 => ?_) (fun c30 => ?_)
  rotate_left
  · exact absurd rfl c30
  obtain ⟨r, hr, rfl⟩ := below_of (by omega) n1
  obtain ⟨q, hq, rfl⟩ := below_of (by omega) n2
  obtain ⟨n, hn, rfl⟩ : ∃ n, n < 13 ∧ k = nI n := below_of (n := 13) (by omega) hk
  obtain ⟨a, a1, a2, a3, -⟩ := K.pc hr
  obtain ⟨b, b1, b2, b3, -⟩ := K.pc hq
  have sm := xP_sm (V := V) hs4 K.2.1 a3.2.1 b3.2.1
  refine g_aload_n C (gd DX9_both_0 23 rfl) 0 rfl rfl ?_
  refine g_getr (ci := 9) (k := 8) C rfl (by decide) rfl lf_TestJudge_50 hx.1 hx.2.2.2.2.2.1.1 (gd DX9_both_0 24 rfl) ?_
  refine g_aload_n C (gd DX9_both_0 25 rfl) 0 rfl rfl ?_
  refine g_getr (ci := 9) (k := 6) C rfl (by decide) rfl lf_TestJudge_36 hx.1 hx.2.2.2.1.1 (gd DX9_both_0 26 rfl) ?_
  refine g_aload_n C (gd DX9_both_0 27 rfl) 0 rfl rfl ?_
  refine g_getr (ci := 9) (k := 6) C rfl (by decide) rfl lf_TestJudge_36 hx.1 hx.2.2.2.1.1 (gd DX9_both_0 28 rfl) ?_
  refine g_geti (ci := 8) (k := 4) C rfl (by decide) rfl lf_TestJudge_144 hx.2.2.2.1.2.1 (gd DX9_both_0 29 rfl) ?_
  rw [w4]
  refine g_aload_n C (gd DX9_both_0 30 rfl) 0 rfl rfl ?_
  refine g_getr (ci := 9) (k := 6) C rfl (by decide) rfl lf_TestJudge_36 hx.1 hx.2.2.2.1.1 (gd DX9_both_0 31 rfl) ?_
  refine g_iload_n C (gd DX9_both_0 32 rfl) 1 rfl rfl ?_
  refine g_cV1 (ci := 8) C [_] mX8_piece lm_TestJudge_158 (by exact hx.2.2.2.1.2.1) rfl rfl (e_w_piece hx.2.2.2.1.2 hnp w2 hr a1) hfl (by first | decide | omega) (by decide) (by omega) (by omega) rfl rfl (Nat.le_of_ble_eq_true rfl) (gd DX9_both_0 33 rfl) ?_
  refine g_aload_n C (gd DX9_both_0 34 rfl) 0 rfl rfl ?_
  refine g_getr (ci := 9) (k := 6) C rfl (by decide) rfl lf_TestJudge_36 hx.1 hx.2.2.2.1.1 (gd DX9_both_0 35 rfl) ?_
  refine g_iload_n C (gd DX9_both_0 36 rfl) 2 rfl rfl ?_
  refine g_cV1 (ci := 8) C [_] mX8_piece lm_TestJudge_158 (by exact hx.2.2.2.1.2.1) rfl rfl (e_w_piece hx.2.2.2.1.2 hnp w2 hq b1) hfl (by first | decide | omega) (by decide) (by omega) (by omega) rfl rfl (Nat.le_of_ble_eq_true rfl) (gd DX9_both_0 37 rfl) ?_
  refine g_callV (ci := 5) C [_, _, _, _] mX5_begin lm_TestJudge_197 (by exact hx.2.2.2.2.2.1.2.1) rfl rfl (e_x_begin K hs4 a3 b3) hfl (by first | decide | omega) (by decide) (by omega) (by omega) rfl rfl (Nat.le_of_ble_eq_true rfl) (gd DX9_both_0 38 rfl) (fun r g1 hp => ?_)
  obtain ⟨rfl, bg⟩ := hp
  show GW z w 4 _ _ _ _ _ [] _
  obtain ⟨K1, k1⟩ := K.bg hs4 a3.2.1 b3.2.1 bg
  obtain ⟨g, F, BH, NU, SI, CA, rfl, d1, d2, d3, d4⟩ := bg
  have hx1 := K1.1
  refine g_aload_n C (gd DX9_both_0 39 rfl) 0 rfl rfl ?_
  refine g_iconst (v := 0) C (gd DX9_both_0 40 rfl) (by decide) ?_
  refine g_puti (ci := 9) (k := 3) C rfl (by decide) rfl lf_TestJudge_24 hx1.1 (Or.inl rfl) rfl (gd DX9_both_0 41 rfl) ?_
  rw [sI_hS (by omega)]
  refine GW.cast rfl rfl (congrArg (fun y => hS (x + 17) y F BH NU SI CA) (hWL_self (s := x + 17) (h := sI g x 3 0)).symm) ?_
  have ss : sSh (x + 17) (sI g x 3 0) := hx1.2.2.2.2.2.1.2
  have rd : sRd (xP V (vS V) (vPR V r) (vPR V q)) (x + 17) (sI g x 3 0) := d1.e (fun i _ _ => hI_sI_ne (by omega))
  refine g_aload_n C (gd DX9_both_0 42 rfl) 0 rfl rfl ?_
  refine g_getr (ci := 9) (k := 8) C rfl (by decide) rfl lf_TestJudge_50 hx1.1 hx1.2.2.2.2.2.1.1 (gd DX9_both_0 43 rfl) ?_
  refine g_iload_n C (gd DX9_both_0 44 rfl) 3 rfl rfl ?_
  refine g_callV (ci := 5) C [_] mX5_countShared lm_TestJudge_229 (by exact hx1.2.2.2.2.2.1.2.1) rfl rfl (e_s_countShared ss rd ⟨K.w5 hr, K.w5 hq⟩ d2 d3 (B := hL (sI g x 3 0) (x + 17 + 18)) (fun j hj => K1.2.2.2.2.2.2 j hj) (n := n) (by omega)) hfl (by first | decide | omega) (by decide) (by omega) (by omega) rfl rfl (Nat.le_of_ble_eq_true rfl) (gd DX9_both_0 45 rfl) (fun r g2 hp => ?_)
  obtain ⟨rfl, L', A', B', F', BH', NU', SI', CA', rfl, e1, e2, e3⟩ := hp
  show GW z w 4 _ _ _ _ _ [.long _] _
  have k2 : qKp x h (hS (x + 17) (hWL (x + 17) (sI g x 3 0) A' B') F' BH' NU' SI' CA') := (qKp_sfr d4).tr qKp_cnt
  have h3 : hI (hS (x + 17) (hWL (x + 17) (sI g x 3 0) A' B') F' BH' NU' SI' CA') x 3 = 0 := by
    rw [hS_ne (by omega)]
    show hI (sI g x 3 0) x 3 = 0
    rw [hI_sI, if_pos ⟨rfl, rfl⟩]
  have eT : hT g = hT h := k1.1
  have t2 : kvT x (hS (x + 17) (hWL (x + 17) (sI g x 3 0) A' B') F' BH' NU' SI' CA') V RC := K1.2.2.2.2.1.e rfl rfl (fun i hi => by
    rw [hS_ne (by omega), hS_ne (by omega)]
    exact hI_sI_ne (by omega))
  have s2 : kvS x (hS (x + 17) (hWL (x + 17) (sI g x 3 0) A' B') F' BH' NU' SI' CA') := ⟨sQ.id sm e1 e2, fun j hj => by
    show (if x + 35 = x + 17 + 17 then A' j else if x + 35 = x + 17 + 18 then B' j else _) = 0
    rw [if_neg (by omega), if_pos (by omega)]
    exact e3 j hj⟩
  exact g_lret C (by omega) (by omega) ⟨_, V, mSt M 0, rfl, ⟨W, RC, K.q k2 t2 s2, hM.q k2 h3⟩, _, 0, rfl, Or.inr ⟨hk, Or.inr ⟨r, q, hr, hq, rfl, rfl, by rw [nI_clamp (by omega)]; rfl, rfl⟩⟩, rfl, rfl⟩ (gd DX9_both_0 46 rfl)
theorem e_x_count (K : K0 x W h V RC) (hM : kvM x h M) (p k : Int32) : Ev w 7 0 0 yX9_count cX9_count 3 (some .long) [.ref x, .int p, .int k] h (aQ x (qL V M (gatL (0 ≤ k ∧ k ≤ 12) 1 (twoL (vNp V) p p (qBth V k))))) := by
  refine g_start (by decide) (Nat.le_of_ble_eq_true rfl) [(0, _), (1, _), (2, _)] rfl (fun z hfl C => ?_)
  have hx := K.1
  refine g_aload_n C (gd DX9_count_0 0 rfl) 0 rfl rfl ?_
  refine g_iload_n C (gd DX9_count_0 1 rfl) 1 rfl rfl ?_
  refine g_iload_n C (gd DX9_count_0 2 rfl) 1 rfl rfl ?_
  refine g_iload_n C (gd DX9_count_0 3 rfl) 2 rfl rfl ?_
  refine g_callV (ci := 9) C [_, _, _] mX9_both lm_TestJudge_186 (by exact hx.1) rfl rfl (e_x_both K hM p p k) hfl (by first | decide | omega) (by decide) (by omega) (by omega) rfl rfl (Nat.le_of_ble_eq_true rfl) (gd DX9_count_0 4 rfl) (fun r g hp => ?_)
  obtain ⟨v, V', M', rfl, KV', i, st, rfl, q⟩ := hp
  show GW z w 3 _ _ _ _ _ [.long i] _
  exact g_lret C (by omega) (by omega) ⟨_, _, _, rfl, KV', i, st, rfl, q⟩ (gd DX9_count_0 5 rfl)
theorem e_x_fewest (K : K0 x W h V RC) (hM : kvM x h M) (p o : Int32) : Ev w 7 0 0 yX9_fewest cX9_fewest 5 (some .int) [.ref x, .int p, .int o] h (aQ x (qQ V M (two (vNp V) p o (qFew V)))) := by
  refine g_start (by decide) (Nat.le_of_ble_eq_true rfl) [(0, _), (1, _), (2, _)] rfl (fun z hfl C => ?_)
  have hx := K.1
  obtain ⟨w0, w1, w2, w3, w4⟩ := K.2.2.1.1
  have hnp := K.2.1.np
  have hs4 := K.2.1.s4
  have hnf := K.2.1.nf
  refine g_aload_n C (gd DX9_fewest_0 0 rfl) 0 rfl rfl ?_
  refine g_iload_n C (gd DX9_fewest_0 1 rfl) 1 rfl rfl ?_
  refine g_cV1 (ci := 9) C [_] mX9_lacks lm_TestJudge_154 (by exact hx.1) rfl rfl (e_x_lacks hx (by omega) w2 p) hfl (by first | decide | omega) (by decide) (by omega) (by omega) rfl rfl (Nat.le_of_ble_eq_true rfl) (gd DX9_fewest_0 2 rfl) ?_
  by_cases n1 : 0 ≤ p ∧ p ≤ nI (vNp V) - 1
  rotate_left
  · rw [b1_t (show ¬ (0 ≤ p ∧ p ≤ nI (vNp V) - 1) from n1)]
    refine g_if_ne C 16 (gd DX9_fewest_0 3 rfl) (by decide) (fun c5 => ?_) (fun c5 => ?_)
    · refine g_aload_n C (gd DX9_fewest_0 8 rfl) 0 rfl rfl ?_
      refine g_iconst (v := 2) C (gd DX9_fewest_0 9 rfl) (by decide) ?_
      refine g_cV1 (ci := 9) C [_] mX9_refuse lm_TestJudge_90 (by exact hx.1) rfl rfl (e_x_refuse hx 2) hfl (by first | decide | omega) (by decide) (by omega) (by omega) rfl rfl (Nat.le_of_ble_eq_true rfl) (gd DX9_fewest_0 10 rfl) ?_
      exact g_iret C (by omega) (by omega) (aQ.r K hM rfl (Or.inl ⟨fun q => n1 q.1, rfl, rfl⟩)) (gd DX9_fewest_0 11 rfl)
    · exact absurd c5 (by decide)
  rw [b1_f (show ¬ ¬ (0 ≤ p ∧ p ≤ nI (vNp V) - 1) from fun q => q n1)]
  refine g_if_ne C 16 (gd DX9_fewest_0 3 rfl) (by decide) (fun c5 => ?_) (fun c5 => ?_)
  · exact absurd rfl c5
  refine g_aload_n C (gd DX9_fewest_0 4 rfl) 0 rfl rfl ?_
  refine g_iload_n C (gd DX9_fewest_0 5 rfl) 2 rfl rfl ?_
  refine g_cV1 (ci := 9) C [_] mX9_lacks lm_TestJudge_154 (by exact hx.1) rfl rfl (e_x_lacks hx (by omega) w2 o) hfl (by first | decide | omega) (by decide) (by omega) (by omega) rfl rfl (Nat.le_of_ble_eq_true rfl) (gd DX9_fewest_0 6 rfl) ?_
  by_cases n2 : 0 ≤ o ∧ o ≤ nI (vNp V) - 1
  rotate_left
  · rw [b1_t (show ¬ (0 ≤ o ∧ o ≤ nI (vNp V) - 1) from n2)]
    refine g_if_eq C 22 (gd DX9_fewest_0 7 rfl) (by decide) (fun c13 => ?_) (fun c13 => ?_)
    · exact absurd c13 (by decide)
    · refine g_aload_n C (gd DX9_fewest_0 8 rfl) 0 rfl rfl ?_
      refine g_iconst (v := 2) C (gd DX9_fewest_0 9 rfl) (by decide) ?_
      refine g_cV1 (ci := 9) C [_] mX9_refuse lm_TestJudge_90 (by exact hx.1) rfl rfl (e_x_refuse hx 2) hfl (by first | decide | omega) (by decide) (by omega) (by omega) rfl rfl (Nat.le_of_ble_eq_true rfl) (gd DX9_fewest_0 10 rfl) ?_
      exact g_iret C (by omega) (by omega) (aQ.r K hM rfl (Or.inl ⟨fun q => n2 q.2, rfl, rfl⟩)) (gd DX9_fewest_0 11 rfl)
  rw [b1_f (show ¬ ¬ (0 ≤ o ∧ o ≤ nI (vNp V) - 1) from fun q => q n2)]
  refine g_if_eq C 22 (gd DX9_fewest_0 7 rfl) (by decide) (fun c13 => ?_) (fun c13 => ?_)
  rotate_left
  · exact absurd rfl c13
  obtain ⟨r, hr, rfl⟩ := below_of (by omega) n1
  obtain ⟨q, hq, rfl⟩ := below_of (by omega) n2
  have p2 : (1 : Int32) <<< (nI (vNf V) &&& 31) = nI (2 ^ vNf V) ∧ 2 ^ vNf V ≤ 4 := by
    rcases (show vNf V = 0 ∨ vNf V = 1 ∨ vNf V = 2 by omega) with e | e | e <;> rw [e] <;> decide
  have pop_f : ∀ t, t < 2 ^ vNf V → ∃ b, b ≤ vNf V ∧ bcF (nI t) = nI b := by
    intro t ht
    rcases (show vNf V = 0 ∨ vNf V = 1 ∨ vNf V = 2 by omega) with e | e | e <;> rw [e] at ht ⊢
    · have : t = 0 := by omega
      subst this
      exact ⟨0, by decide, by decide⟩
    · rcases (show t = 0 ∨ t = 1 by omega) with rfl | rfl
      · exact ⟨0, by decide, by decide⟩
      · exact ⟨1, by decide, by decide⟩
    · obtain ⟨b, hb, eb, -⟩ := pop4 t (by omega)
      exact ⟨b, hb, eb⟩
  have inner : ∀ y i j g, j + y = 2 ^ vNf V → i ≤ vNf V → K0 x W g V RC → qKp x h g → (∀ t b, t < 2 ^ vNf V → bcF (nI t) = nI b → b < 10 → (b < i ∨ (b = i ∧ t < j)) → ¬ kEq (vP2 V t r q)) → (∀ g, K0 x W g V RC → qKp x h g → (∀ t b, t < 2 ^ vNf V → bcF (nI t) = nI b → b < 10 → b < i + 1 → ¬ kEq (vP2 V t r q)) → GW z w 5 (gQ z w 0 0 (fun r' h'' => aQ x (qQ V M (two (vNp V) (nI r) (nI q) (qFew V))) r' h'')) 0 0 85 [(0, .ref x), (1, .int (nI r)), (2, .int (nI q)), (3, .int (nI i)), (4, .int (nI (2 ^ vNf V)))] [] g) → GW z w 5 (gQ z w 0 0 (fun r' h'' => aQ x (qQ V M (two (vNp V) (nI r) (nI q) (qFew V))) r' h'')) 0 0 38 [(0, .ref x), (1, .int (nI r)), (2, .int (nI q)), (3, .int (nI i)), (4, .int (nI j))] [] g := by
    intro y
    induction y with
    | zero =>
      intro i j g hj hi K1 k1 no k
      have ej : j = 2 ^ vNf V := by omega
      subst ej
      have hx := K1.1
      have w3 := K1.2.2.1.1.2.2.2.1
      refine g_iload C (gd DX9_fewest_0 21 rfl) 4 rfl ?_
      refine g_iconst (v := 1) C (gd DX9_fewest_0 22 rfl) (by decide) ?_
      refine g_aload_n C (gd DX9_fewest_0 23 rfl) 0 rfl rfl ?_
      refine g_getr (ci := 9) (k := 6) C rfl (by decide) rfl lf_TestJudge_36 hx.1 hx.2.2.2.1.1 (gd DX9_fewest_0 24 rfl) ?_
      refine g_geti (ci := 8) (k := 3) C rfl (by decide) rfl lf_TestJudge_137 hx.2.2.2.1.2.1 (gd DX9_fewest_0 25 rfl) ?_
      rw [w3]
      refine g_ishl C (gd DX9_fewest_0 26 rfl) ?_
      rw [p2.1]
      refine g_icmp_ge C 85 (gd DX9_fewest_0 27 rfl) (by decide) (fun c49 => ?_) (fun c49 => ?_)
      · exact k g K1 k1 (fun t b ht eb hb hbi => no t b ht eb hb (by omega))
      · exact absurd (nI_le (Nat.le_refl _) (by omega)) c49
    | succ y ih =>
      intro i j g hj hi K1 k1 no k
      have hx := K1.1
      have w3 := K1.2.2.1.1.2.2.2.1
      obtain ⟨b, hb, eb, lower⟩ := pop4 j (by omega)
      refine g_iload C (gd DX9_fewest_0 21 rfl) 4 rfl ?_
      refine g_iconst (v := 1) C (gd DX9_fewest_0 22 rfl) (by decide) ?_
      refine g_aload_n C (gd DX9_fewest_0 23 rfl) 0 rfl rfl ?_
      refine g_getr (ci := 9) (k := 6) C rfl (by decide) rfl lf_TestJudge_36 hx.1 hx.2.2.2.1.1 (gd DX9_fewest_0 24 rfl) ?_
      refine g_geti (ci := 8) (k := 3) C rfl (by decide) rfl lf_TestJudge_137 hx.2.2.2.1.2.1 (gd DX9_fewest_0 25 rfl) ?_
      rw [w3]
      refine g_ishl C (gd DX9_fewest_0 26 rfl) ?_
      rw [p2.1]
      refine g_icmp_ge C 85 (gd DX9_fewest_0 27 rfl) (by decide) (fun c49 => ?_) (fun c49 => ?_)
      · exact absurd c49 (nI_ge (a := j) (b := 2 ^ vNf V) (by omega) (by omega))
      · have next : ∀ g2, K0 x W g2 V RC → qKp x h g2 → (b = i → ¬ kEq (vP2 V j r q)) → GW z w 5 (gQ z w 0 0 (fun r' h'' => aQ x (qQ V M (two (vNp V) (nI r) (nI q) (qFew V))) r' h'')) 0 0 79 [(0, .ref x), (1, .int (nI r)), (2, .int (nI q)), (3, .int (nI i)), (4, .int (nI j))] [] g2 := by
          intro g2 K2 k2 nj
          refine g_iinc (lv' := [(0, _), (1, _), (2, _), (3, _), (4, _)]) C (gd DX9_fewest_0 42 rfl) 4 [1, 2, 3, 4, 0] rfl rfl (by decide) rfl ?_
          refine g_goto (tgt := 38) C (gd DX9_fewest_0 43 rfl) (by decide) ?_
          refine GW.cast (by rw [inc1]) rfl rfl (ih i (j + 1) g2 (by omega) hi K2 k2 (fun t b' ht eb' hb' hh => ?_) k)
          by_cases e : t = j
          · subst e
            have e2 : b' = b := (nI_eq (by omega) (by omega)).mp (eb'.symm.trans eb)
            rcases hh with hh | hh
            · exact no t b' ht eb' hb' (Or.inl hh)
            · exact nj (by omega)
          · exact no t b' ht eb' hb' (by omega)
        refine g_iload C (gd DX9_fewest_0 28 rfl) 4 rfl ?_
        refine g_cS1 C [_] mJ6_bitCount_0f7a4 lm_TestJudge_269 (e_bitCount (nI j)) hfl (by first | decide | omega) (by decide) (by omega) (by omega) rfl rfl (Nat.le_of_ble_eq_true rfl) (gd DX9_fewest_0 29 rfl) ?_
        rw [eb]
        refine g_iload_n C (gd DX9_fewest_0 30 rfl) 3 rfl rfl ?_
        refine g_icmp_ne C 79 (gd DX9_fewest_0 31 rfl) (by decide) (fun c58 => ?_) (fun c58 => ?_)
        · exact next g K1 k1 (fun e => absurd (by rw [e]) c58)
        · have ebi : b = i := (nI_eq (by omega) (by omega)).mp (by first | exact c58 | exact Decidable.of_not_not c58)
          refine g_aload_n C (gd DX9_fewest_0 32 rfl) 0 rfl rfl ?_
          refine g_iload C (gd DX9_fewest_0 33 rfl) 4 rfl ?_
          refine g_iload_n C (gd DX9_fewest_0 34 rfl) 1 rfl rfl ?_
          refine g_iload_n C (gd DX9_fewest_0 35 rfl) 2 rfl rfl ?_
          refine g_callV (ci := 9) C [_, _, _] mX9_alike lm_TestJudge_214 (by exact hx.1) rfl rfl (e_x_alike K1 (show j < 4 by omega) hr hq) hfl (by first | decide | omega) (by decide) (by omega) (by omega) rfl rfl (Nat.le_of_ble_eq_true rfl) (gd DX9_fewest_0 36 rfl) (fun r g2 hp => ?_)
          obtain ⟨K2, k2, hp⟩ := hp
          have hx2 := K2.1
          rcases hp with ⟨rfl, eq⟩ | ⟨rfl, ne, -⟩
          · show GW z w 5 _ _ _ _ _ (.int 1 :: _) _
            refine g_if_eq C 79 (gd DX9_fewest_0 37 rfl) (by decide) (fun c69 => ?_) (fun c69 => ?_)
            · exact absurd c69 (by decide)
            · refine g_aload_n C (gd DX9_fewest_0 38 rfl) 0 rfl rfl ?_
              refine g_iload C (gd DX9_fewest_0 39 rfl) 4 rfl ?_
              refine g_cV1 (ci := 9) C [_] mX9_allow lm_TestJudge_128 (by exact hx2.1) rfl rfl (e_x_allow hx2 _) hfl (by first | decide | omega) (by decide) (by omega) (by omega) rfl rfl (Nat.le_of_ble_eq_true rfl) (gd DX9_fewest_0 40 rfl) ?_
              exact g_iret C (by omega) (by omega) (aQ.q K hM rfl K2 (k1.tr k2) (Or.inr ⟨r, q, hr, hq, rfl, rfl, Or.inl ⟨j, by omega, eq, fun t ht => (by obtain ⟨c, hc, ec⟩ := lower t ht; exact no t c (by omega) ec (by omega) (by omega)), rfl, rfl⟩⟩)) (gd DX9_fewest_0 41 rfl)
          · show GW z w 5 _ _ _ _ _ (.int 0 :: _) _
            refine g_if_eq C 79 (gd DX9_fewest_0 37 rfl) (by decide) (fun c69 => ?_) (fun c69 => ?_)
            · exact next g2 K2 (k1.tr k2) (fun _ => ne)
            · exact absurd rfl c69
  have outer : ∀ y i g, i + y = vNf V + 1 → K0 x W g V RC → qKp x h g → (∀ t b, t < 2 ^ vNf V → bcF (nI t) = nI b → b < 10 → b < i → ¬ kEq (vP2 V t r q)) → GW z w 5 (gQ z w 0 0 (fun r' h'' => aQ x (qQ V M (two (vNp V) (nI r) (nI q) (qFew V))) r' h'')) 0 0 24 [(0, .ref x), (1, .int (nI r)), (2, .int (nI q)), (3, .int (nI i))] [] g := by
    intro y
    induction y with
    | zero =>
      intro i g hi K1 k1 no
      have hx := K1.1
      have w3 := K1.2.2.1.1.2.2.2.1
      refine g_iload_n C (gd DX9_fewest_0 14 rfl) 3 rfl rfl ?_
      refine g_aload_n C (gd DX9_fewest_0 15 rfl) 0 rfl rfl ?_
      refine g_getr (ci := 9) (k := 6) C rfl (by decide) rfl lf_TestJudge_36 hx.1 hx.2.2.2.1.1 (gd DX9_fewest_0 16 rfl) ?_
      refine g_geti (ci := 8) (k := 3) C rfl (by decide) rfl lf_TestJudge_137 hx.2.2.2.1.2.1 (gd DX9_fewest_0 17 rfl) ?_
      rw [w3]
      refine g_icmp_gt C 91 (gd DX9_fewest_0 18 rfl) (by decide) (fun c32 => ?_) (fun c32 => ?_)
      · refine g_aload_n C (gd DX9_fewest_0 46 rfl) 0 rfl rfl ?_
        refine g_iconst (v := 5) C (gd DX9_fewest_0 47 rfl) (by decide) ?_
        refine g_cV1 (ci := 9) C [_] mX9_refuse lm_TestJudge_90 (by exact hx.1) rfl rfl (e_x_refuse hx 5) hfl (by first | decide | omega) (by decide) (by omega) (by omega) rfl rfl (Nat.le_of_ble_eq_true rfl) (gd DX9_fewest_0 48 rfl) ?_
        exact g_iret C (by omega) (by omega) (aQ.q K hM rfl K1 k1 (Or.inr ⟨r, q, hr, hq, rfl, rfl, Or.inr ⟨fun t ht => (pop_f t ht).elim fun b hb => no t b ht hb.2 (by omega) (by omega), rfl, rfl⟩⟩)) (gd DX9_fewest_0 49 rfl)
      · exact absurd (show nI (vNf V) < nI i from nI_lt (by omega) (by omega)) (fun q => c32 q)
    | succ y ih =>
      intro i g hi K1 k1 no
      have hx := K1.1
      have w3 := K1.2.2.1.1.2.2.2.1
      refine g_iload_n C (gd DX9_fewest_0 14 rfl) 3 rfl rfl ?_
      refine g_aload_n C (gd DX9_fewest_0 15 rfl) 0 rfl rfl ?_
      refine g_getr (ci := 9) (k := 6) C rfl (by decide) rfl lf_TestJudge_36 hx.1 hx.2.2.2.1.1 (gd DX9_fewest_0 16 rfl) ?_
      refine g_geti (ci := 8) (k := 3) C rfl (by decide) rfl lf_TestJudge_137 hx.2.2.2.1.2.1 (gd DX9_fewest_0 17 rfl) ?_
      rw [w3]
      refine g_icmp_gt C 91 (gd DX9_fewest_0 18 rfl) (by decide) (fun c32 => ?_) (fun c32 => ?_)
      · exact absurd (show nI (vNf V) < nI i from c32) (Int32.not_lt.mpr (nI_le (by omega) (by omega)))
      · refine g_iconst (v := 0) C (gd DX9_fewest_0 19 rfl) (by decide) ?_
        refine g_istore (lv' := [(0, _), (1, _), (2, _), (3, _), (4, _)]) C (gd DX9_fewest_0 20 rfl) [1, 2, 3, 4, 0] (by decide) rfl ?_
        refine inner (2 ^ vNf V) i 0 g (by omega) (by omega) K1 k1 (fun t b ht eb hb hh => no t b ht eb hb (by omega)) (fun g2 K2 k2 no2 => ?_)
        refine g_iinc (lv' := [(0, _), (1, _), (2, _), (3, _), (4, _)]) C (gd DX9_fewest_0 44 rfl) 3 [1, 2, 3, 0, 4] rfl rfl (by decide) rfl ?_
        refine g_goto (tgt := 24) C (gd DX9_fewest_0 45 rfl) (by decide) ?_
        refine GW.sub [0, 1, 2, 3] rfl (Nat.le_refl _) (Nat.le_refl _) (lv' := [(0, _), (1, _), (2, _), (3, _)]) ?_
        rw [inc1]
        exact ih (i + 1) g2 (by omega) K2 k2 no2
  refine g_iconst (v := 0) C (gd DX9_fewest_0 12 rfl) (by decide) ?_
  refine g_istore_n (lv' := [(0, _), (1, _), (2, _), (3, _)]) C (gd DX9_fewest_0 13 rfl) [1, 2, 3, 0] rfl (by decide) rfl ?_
  exact outer (vNf V + 1) 0 h (by omega) K (qKp.rf x h) (fun t b ht eb hb hh => absurd hh (Nat.not_lt_zero _))
end X6
