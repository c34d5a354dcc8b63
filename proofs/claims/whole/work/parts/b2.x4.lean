/-! The class's questions over pairs: equal, within, telling, first, least, whose, same, kinds -/
def qEqu (V : aV) (r q : Nat) (v st : Int32) : Prop := ((v = 1 ∧ kEq (vP2 V (vS V) r q)) ∨ (v = 0 ∧ ¬ kEq (vP2 V (vS V) r q))) ∧ st = 0
def qWit (V : aV) (r q : Nat) (v st : Int32) : Prop := ((v = 1 ∧ noP (vP2 V (vS V) r q) 1) ∨ (v = 0 ∧ ¬ noP (vP2 V (vS V) r q) 1)) ∧ st = 0
def qWho (V : aV) (r q : Nat) (v st : Int32) : Prop := (kEq (vP2 V (vS V) r q) ∧ v = -1 ∧ st = 5) ∨ ∃ i key, fdP (vP2 V (vS V) r q) 0 i key ∧ v = (if kE1 (vP2 V (vS V) r q) key >>> (ntzF (apF (vP2 V (vS V) r q) 0 key) &&& 31) &&& 1 = 0 then 1 else 0) ∧ st = 0
def qSam (V : aV) (r : Nat) (v st : Int32) : Prop := (∃ o, o ≤ r ∧ (o = r ∨ kEq (vP2 V (vS V) o r)) ∧ (∀ t, t < o → ¬ kEq (vP2 V (vS V) t r)) ∧ v = nI o) ∧ st = 0
theorem vOK.np {V : aV} (h : vOK V) : vNp V ≤ 8 := (h.2.1 (vA V) (Nat.le_refl _)).1
theorem vOK.s4 {V : aV} (h : vOK V) : vS V < 4 := (h.2.1 (vA V) (Nat.le_refl _)).2.1
section X4
variable {w : gD} {x W : Nat} {h : HS} {V : aV} {RC : Nat → Nat → Int32} {M : aM}
theorem e_x_equal (K : K0 x W h V RC) (hM : kvM x h M) (p o : Int32) : Ev w 6 0 0 yX9_equal cX9_equal 3 (some .int) [.ref x, .int p, .int o] h (aQ x (qQ V M (two (vNp V) p o (qEqu V)))) := by
  refine g_start (by decide) (Nat.le_of_ble_eq_true rfl) [(0, _), (1, _), (2, _)] rfl (fun z hfl C => ?_)
  have hx := K.1
  obtain ⟨w0, w1, w2, w3, w4⟩ := K.2.2.1.1
  have hnp := K.2.1.np
  have hs4 := K.2.1.s4
  refine g_aload_n C (gd DX9_equal_0 0 rfl) 0 rfl rfl ?_
  refine g_iload_n C (gd DX9_equal_0 1 rfl) 1 rfl rfl ?_
  refine g_cV1 (ci := 9) C [_] mX9_lacks lm_TestJudge_154 (by exact hx.1) rfl rfl (e_x_lacks hx (by omega) w2 p) hfl (by first | decide | omega) (by decide) (by omega) (by omega) rfl rfl (Nat.le_of_ble_eq_true rfl) (gd DX9_equal_0 2 rfl) ?_
  by_cases n1 : 0 ≤ p ∧ p ≤ nI (vNp V) - 1
  rotate_left
  · rw [b1_t (show ¬ (0 ≤ p ∧ p ≤ nI (vNp V) - 1) from n1)]
    refine g_if_ne C 16 (gd DX9_equal_0 3 rfl) (by decide) (fun c5 => ?_) (fun c5 => ?_)
    · refine g_aload_n C (gd DX9_equal_0 8 rfl) 0 rfl rfl ?_
      refine g_iconst (v := 2) C (gd DX9_equal_0 9 rfl) (by decide) ?_
      refine g_cV1 (ci := 9) C [_] mX9_refuse lm_TestJudge_90 (by exact hx.1) rfl rfl (e_x_refuse hx 2) hfl (by first | decide | omega) (by decide) (by omega) (by omega) rfl rfl (Nat.le_of_ble_eq_true rfl) (gd DX9_equal_0 10 rfl) ?_
      exact g_iret C (by omega) (by omega) (aQ.r K hM rfl (Or.inl ⟨fun q => n1 q.1, rfl, rfl⟩)) (gd DX9_equal_0 11 rfl)
    · exact absurd c5 (by decide)
  rw [b1_f (show ¬ ¬ (0 ≤ p ∧ p ≤ nI (vNp V) - 1) from fun q => q n1)]
  refine g_if_ne C 16 (gd DX9_equal_0 3 rfl) (by decide) (fun c5 => ?_) (fun c5 => ?_)
  · exact absurd rfl c5
  refine g_aload_n C (gd DX9_equal_0 4 rfl) 0 rfl rfl ?_
  refine g_iload_n C (gd DX9_equal_0 5 rfl) 2 rfl rfl ?_
  refine g_cV1 (ci := 9) C [_] mX9_lacks lm_TestJudge_154 (by exact hx.1) rfl rfl (e_x_lacks hx (by omega) w2 o) hfl (by first | decide | omega) (by decide) (by omega) (by omega) rfl rfl (Nat.le_of_ble_eq_true rfl) (gd DX9_equal_0 6 rfl) ?_
  by_cases n2 : 0 ≤ o ∧ o ≤ nI (vNp V) - 1
  rotate_left
  · rw [b1_t (show ¬ (0 ≤ o ∧ o ≤ nI (vNp V) - 1) from n2)]
    refine g_if_eq C 22 (gd DX9_equal_0 7 rfl) (by decide) (fun c13 => ?_) (fun c13 => ?_)
    · exact absurd c13 (by decide)
    · refine g_aload_n C (gd DX9_equal_0 8 rfl) 0 rfl rfl ?_
      refine g_iconst (v := 2) C (gd DX9_equal_0 9 rfl) (by decide) ?_
      refine g_cV1 (ci := 9) C [_] mX9_refuse lm_TestJudge_90 (by exact hx.1) rfl rfl (e_x_refuse hx 2) hfl (by first | decide | omega) (by decide) (by omega) (by omega) rfl rfl (Nat.le_of_ble_eq_true rfl) (gd DX9_equal_0 10 rfl) ?_
      exact g_iret C (by omega) (by omega) (aQ.r K hM rfl (Or.inl ⟨fun q => n2 q.2, rfl, rfl⟩)) (gd DX9_equal_0 11 rfl)
  rw [b1_f (show ¬ ¬ (0 ≤ o ∧ o ≤ nI (vNp V) - 1) from fun q => q n2)]
  refine g_if_eq C 22 (gd DX9_equal_0 7 rfl) (by decide) (fun c13 => ?_) (fun c13 => ?_)
  rotate_left
  · exact absurd rfl c13
  obtain ⟨r, hr, rfl⟩ := below_of (by omega) n1
  obtain ⟨q, hq, rfl⟩ := below_of (by omega) n2
  refine g_aload_n C (gd DX9_equal_0 12 rfl) 0 rfl rfl ?_
  refine g_aload_n C (gd DX9_equal_0 13 rfl) 0 rfl rfl ?_
  refine g_aload_n C (gd DX9_equal_0 14 rfl) 0 rfl rfl ?_
  refine g_getr (ci := 9) (k := 6) C rfl (by decide) rfl lf_TestJudge_36 hx.1 hx.2.2.2.1.1 (gd DX9_equal_0 15 rfl) ?_
  refine g_geti (ci := 8) (k := 4) C rfl (by decide) rfl lf_TestJudge_144 hx.2.2.2.1.2.1 (gd DX9_equal_0 16 rfl) ?_
  rw [w4]
  refine g_iload_n C (gd DX9_equal_0 17 rfl) 1 rfl rfl ?_
  refine g_iload_n C (gd DX9_equal_0 18 rfl) 2 rfl rfl ?_
  refine g_callV (ci := 9) C [_, _, _] mX9_alike lm_TestJudge_214 (by exact hx.1) rfl rfl (e_x_alike K hs4 hr hq) hfl (by first | decide | omega) (by decide) (by omega) (by omega) rfl rfl (Nat.le_of_ble_eq_true rfl) (gd DX9_equal_0 19 rfl) (fun r g hp => ?_)
  obtain ⟨K2, k2, hp⟩ := hp
  have hx2 := K2.1
  rcases hp with ⟨rfl, eq⟩ | ⟨rfl, ne, -⟩
  · show GW z w 3 _ _ _ _ _ (.int 1 :: _) _
    refine g_cS1 C [_] mX9_bit lm_TestJudge_164 (e_x_bit (Or.inr rfl)) hfl (by first | decide | omega) (by decide) (by omega) (by omega) rfl rfl (Nat.le_of_ble_eq_true rfl) (gd DX9_equal_0 20 rfl) ?_
    refine g_cV1 (ci := 9) C [_] mX9_allow lm_TestJudge_128 (by exact hx2.1) rfl rfl (e_x_allow hx2 _) hfl (by first | decide | omega) (by decide) (by omega) (by omega) rfl rfl (Nat.le_of_ble_eq_true rfl) (gd DX9_equal_0 21 rfl) ?_
    exact g_iret C (by omega) (by omega) (aQ.q K hM rfl K2 k2 (Or.inr ⟨r, q, hr, hq, rfl, rfl, Or.inl ⟨rfl, eq⟩, rfl⟩)) (gd DX9_equal_0 22 rfl)
  · show GW z w 3 _ _ _ _ _ (.int 0 :: _) _
    refine g_cS1 C [_] mX9_bit lm_TestJudge_164 (e_x_bit (Or.inl rfl)) hfl (by first | decide | omega) (by decide) (by omega) (by omega) rfl rfl (Nat.le_of_ble_eq_true rfl) (gd DX9_equal_0 20 rfl) ?_
    refine g_cV1 (ci := 9) C [_] mX9_allow lm_TestJudge_128 (by exact hx2.1) rfl rfl (e_x_allow hx2 _) hfl (by first | decide | omega) (by decide) (by omega) (by omega) rfl rfl (Nat.le_of_ble_eq_true rfl) (gd DX9_equal_0 21 rfl) ?_
    exact g_iret C (by omega) (by omega) (aQ.q K hM rfl K2 k2 (Or.inr ⟨r, q, hr, hq, rfl, rfl, Or.inr ⟨rfl, ne⟩, rfl⟩)) (gd DX9_equal_0 22 rfl)
theorem e_x_within (K : K0 x W h V RC) (hM : kvM x h M) (p o : Int32) : Ev w 6 0 0 yX9_within cX9_within 3 (some .int) [.ref x, .int p, .int o] h (aQ x (qQ V M (two (vNp V) p o (qWit V)))) := by
  refine g_start (by decide) (Nat.le_of_ble_eq_true rfl) [(0, _), (1, _), (2, _)] rfl (fun z hfl C => ?_)
  have hx := K.1
  obtain ⟨w0, w1, w2, w3, w4⟩ := K.2.2.1.1
  have hnp := K.2.1.np
  have hs4 := K.2.1.s4
  refine g_aload_n C (gd DX9_within_0 0 rfl) 0 rfl rfl ?_
  refine g_iload_n C (gd DX9_within_0 1 rfl) 1 rfl rfl ?_
  refine g_cV1 (ci := 9) C [_] mX9_lacks lm_TestJudge_154 (by exact hx.1) rfl rfl (e_x_lacks hx (by omega) w2 p) hfl (by first | decide | omega) (by decide) (by omega) (by omega) rfl rfl (Nat.le_of_ble_eq_true rfl) (gd DX9_within_0 2 rfl) ?_
  by_cases n1 : 0 ≤ p ∧ p ≤ nI (vNp V) - 1
  rotate_left
  · rw [b1_t (show ¬ (0 ≤ p ∧ p ≤ nI (vNp V) - 1) from n1)]
    refine g_if_ne C 16 (gd DX9_within_0 3 rfl) (by decide) (fun c5 => ?_) (fun c5 => ?_)
    · refine g_aload_n C (gd DX9_within_0 8 rfl) 0 rfl rfl ?_
      refine g_iconst (v := 2) C (gd DX9_within_0 9 rfl) (by decide) ?_
      refine g_cV1 (ci := 9) C [_] mX9_refuse lm_TestJudge_90 (by exact hx.1) rfl rfl (e_x_refuse hx 2) hfl (by first | decide | omega) (by decide) (by omega) (by omega) rfl rfl (Nat.le_of_ble_eq_true rfl) (gd DX9_within_0 10 rfl) ?_
      exact g_iret C (by omega) (by omega) (aQ.r K hM rfl (Or.inl ⟨fun q => n1 q.1, rfl, rfl⟩)) (gd DX9_within_0 11 rfl)
    · exact absurd c5 (by decide)
  rw [b1_f (show ¬ ¬ (0 ≤ p ∧ p ≤ nI (vNp V) - 1) from fun q => q n1)]
  refine g_if_ne C 16 (gd DX9_within_0 3 rfl) (by decide) (fun c5 => ?_) (fun c5 => ?_)
  · exact absurd rfl c5
  refine g_aload_n C (gd DX9_within_0 4 rfl) 0 rfl rfl ?_
  refine g_iload_n C (gd DX9_within_0 5 rfl) 2 rfl rfl ?_
  refine g_cV1 (ci := 9) C [_] mX9_lacks lm_TestJudge_154 (by exact hx.1) rfl rfl (e_x_lacks hx (by omega) w2 o) hfl (by first | decide | omega) (by decide) (by omega) (by omega) rfl rfl (Nat.le_of_ble_eq_true rfl) (gd DX9_within_0 6 rfl) ?_
  by_cases n2 : 0 ≤ o ∧ o ≤ nI (vNp V) - 1
  rotate_left
  · rw [b1_t (show ¬ (0 ≤ o ∧ o ≤ nI (vNp V) - 1) from n2)]
    refine g_if_eq C 22 (gd DX9_within_0 7 rfl) (by decide) (fun c13 => ?_) (fun c13 => ?_)
    · exact absurd c13 (by decide)
    · refine g_aload_n C (gd DX9_within_0 8 rfl) 0 rfl rfl ?_
      refine g_iconst (v := 2) C (gd DX9_within_0 9 rfl) (by decide) ?_
      refine g_cV1 (ci := 9) C [_] mX9_refuse lm_TestJudge_90 (by exact hx.1) rfl rfl (e_x_refuse hx 2) hfl (by first | decide | omega) (by decide) (by omega) (by omega) rfl rfl (Nat.le_of_ble_eq_true rfl) (gd DX9_within_0 10 rfl) ?_
      exact g_iret C (by omega) (by omega) (aQ.r K hM rfl (Or.inl ⟨fun q => n2 q.2, rfl, rfl⟩)) (gd DX9_within_0 11 rfl)
  rw [b1_f (show ¬ ¬ (0 ≤ o ∧ o ≤ nI (vNp V) - 1) from fun q => q n2)]
  refine g_if_eq C 22 (gd DX9_within_0 7 rfl) (by decide) (fun c13 => ?_) (fun c13 => ?_)
  rotate_left
  · exact absurd rfl c13
  obtain ⟨r, hr, rfl⟩ := below_of (by omega) n1
  obtain ⟨q, hq, rfl⟩ := below_of (by omega) n2
  obtain ⟨a, a1, a2, a3, -⟩ := K.pc hr
  obtain ⟨b, b1, b2, b3, -⟩ := K.pc hq
  refine g_aload_n C (gd DX9_within_0 12 rfl) 0 rfl rfl ?_
  refine g_getr (ci := 9) (k := 8) C rfl (by decide) rfl lf_TestJudge_50 hx.1 hx.2.2.2.2.2.1.1 (gd DX9_within_0 13 rfl) ?_
  refine g_aload_n C (gd DX9_within_0 14 rfl) 0 rfl rfl ?_
  refine g_getr (ci := 9) (k := 6) C rfl (by decide) rfl lf_TestJudge_36 hx.1 hx.2.2.2.1.1 (gd DX9_within_0 15 rfl) ?_
  refine g_aload_n C (gd DX9_within_0 16 rfl) 0 rfl rfl ?_
  refine g_getr (ci := 9) (k := 6) C rfl (by decide) rfl lf_TestJudge_36 hx.1 hx.2.2.2.1.1 (gd DX9_within_0 17 rfl) ?_
  refine g_geti (ci := 8) (k := 4) C rfl (by decide) rfl lf_TestJudge_144 hx.2.2.2.1.2.1 (gd DX9_within_0 18 rfl) ?_
  rw [w4]
  refine g_aload_n C (gd DX9_within_0 19 rfl) 0 rfl rfl ?_
  refine g_getr (ci := 9) (k := 6) C rfl (by decide) rfl lf_TestJudge_36 hx.1 hx.2.2.2.1.1 (gd DX9_within_0 20 rfl) ?_
  refine g_iload_n C (gd DX9_within_0 21 rfl) 1 rfl rfl ?_
  refine g_cV1 (ci := 8) C [_] mX8_piece lm_TestJudge_158 (by exact hx.2.2.2.1.2.1) rfl rfl (e_w_piece hx.2.2.2.1.2 hnp w2 hr a1) hfl (by first | decide | omega) (by decide) (by omega) (by omega) rfl rfl (Nat.le_of_ble_eq_true rfl) (gd DX9_within_0 22 rfl) ?_
  refine g_aload_n C (gd DX9_within_0 23 rfl) 0 rfl rfl ?_
  refine g_getr (ci := 9) (k := 6) C rfl (by decide) rfl lf_TestJudge_36 hx.1 hx.2.2.2.1.1 (gd DX9_within_0 24 rfl) ?_
  refine g_iload_n C (gd DX9_within_0 25 rfl) 2 rfl rfl ?_
  refine g_cV1 (ci := 8) C [_] mX8_piece lm_TestJudge_158 (by exact hx.2.2.2.1.2.1) rfl rfl (e_w_piece hx.2.2.2.1.2 hnp w2 hq b1) hfl (by first | decide | omega) (by decide) (by omega) (by omega) rfl rfl (Nat.le_of_ble_eq_true rfl) (gd DX9_within_0 26 rfl) ?_
  refine g_callV (ci := 5) C [_, _, _, _] mX5_begin lm_TestJudge_197 (by exact hx.2.2.2.2.2.1.2.1) rfl rfl (e_x_begin K hs4 a3 b3) hfl (by first | decide | omega) (by decide) (by omega) (by omega) rfl rfl (Nat.le_of_ble_eq_true rfl) (gd DX9_within_0 27 rfl) (fun r g1 hp => ?_)
  obtain ⟨rfl, bg⟩ := hp
  show GW z w 3 _ _ _ _ _ [] _
  obtain ⟨K1, k1⟩ := K.bg hs4 a3.2.1 b3.2.1 bg
  have hx1 := K1.1
  refine g_aload_n C (gd DX9_within_0 28 rfl) 0 rfl rfl ?_
  refine g_aload_n C (gd DX9_within_0 29 rfl) 0 rfl rfl ?_
  refine g_getr (ci := 9) (k := 8) C rfl (by decide) rfl lf_TestJudge_50 hx1.1 hx1.2.2.2.2.2.1.1 (gd DX9_within_0 30 rfl) ?_
  refine g_iconst (v := 1) C (gd DX9_within_0 31 rfl) (by decide) ?_
  refine g_callV (ci := 5) C [_] mX5_findApart lm_TestJudge_204 (by exact hx1.2.2.2.2.2.1.2.1) rfl rfl (e_x_find K hs4 a3.2.1 b3.2.1 bg (Or.inr rfl)) hfl (by first | decide | omega) (by decide) (by omega) (by omega) rfl rfl (Nat.le_of_ble_eq_true rfl) (gd DX9_within_0 32 rfl) (fun r g2 hp => ?_)
  obtain ⟨K2, k2, hp⟩ := hp
  have hx2 := K2.1
  rcases hp with ⟨rfl, i, key, -, -, -, -, -, -, -, -, -, fd, -⟩ | ⟨rfl, no⟩
  · show GW z w 3 _ _ _ _ _ (.int 1 :: _) _
    refine g_if_ne C 72 (gd DX9_within_0 33 rfl) (by decide) (fun c65 => ?_) (fun c65 => ?_)
    · refine g_iconst (v := 0) C (gd DX9_within_0 36 rfl) (by decide) ?_
      refine g_cS1 C [_] mX9_bit lm_TestJudge_164 (e_x_bit (Or.inl rfl)) hfl (by first | decide | omega) (by decide) (by omega) (by omega) rfl rfl (Nat.le_of_ble_eq_true rfl) (gd DX9_within_0 37 rfl) ?_
      refine g_cV1 (ci := 9) C [_] mX9_allow lm_TestJudge_128 (by exact hx2.1) rfl rfl (e_x_allow hx2 _) hfl (by first | decide | omega) (by decide) (by omega) (by omega) rfl rfl (Nat.le_of_ble_eq_true rfl) (gd DX9_within_0 38 rfl) ?_
      exact g_iret C (by omega) (by omega) (aQ.q K hM rfl K2 k2 (Or.inr ⟨r, q, hr, hq, rfl, rfl, Or.inr ⟨rfl, fd_no fd⟩, rfl⟩)) (gd DX9_within_0 39 rfl)
    · exact absurd c65 (by decide)
  · show GW z w 3 _ _ _ _ _ (.int 0 :: _) _
    refine g_if_ne C 72 (gd DX9_within_0 33 rfl) (by decide) (fun c65 => ?_) (fun c65 => ?_)
    · exact absurd rfl c65
    · refine g_iconst (v := 1) C (gd DX9_within_0 34 rfl) (by decide) ?_
      refine g_goto (tgt := 73) C (gd DX9_within_0 35 rfl) (by decide) ?_
      refine g_cS1 C [_] mX9_bit lm_TestJudge_164 (e_x_bit (Or.inr rfl)) hfl (by first | decide | omega) (by decide) (by omega) (by omega) rfl rfl (Nat.le_of_ble_eq_true rfl) (gd DX9_within_0 37 rfl) ?_
      refine g_cV1 (ci := 9) C [_] mX9_allow lm_TestJudge_128 (by exact hx2.1) rfl rfl (e_x_allow hx2 _) hfl (by first | decide | omega) (by decide) (by omega) (by omega) rfl rfl (Nat.le_of_ble_eq_true rfl) (gd DX9_within_0 38 rfl) ?_
      exact g_iret C (by omega) (by omega) (aQ.q K hM rfl K2 k2 (Or.inr ⟨r, q, hr, hq, rfl, rfl, Or.inl ⟨rfl, no⟩, rfl⟩)) (gd DX9_within_0 39 rfl)
theorem e_x_telling (K : K0 x W h V RC) (hM : kvM x h M) (p o k : Int32) : Ev w 6 0 0 yX9_telling cX9_telling 4 (some .int) [.ref x, .int p, .int o, .int k] h (aQ x (qQ V M (gat (-1 ≤ k) 1 (two (vNp V) p o (fun r q v st => spP (vP2 V (vS V) r q) k (v, st)))))) := by
  refine g_start (by decide) (Nat.le_of_ble_eq_true rfl) [(0, _), (1, _), (2, _), (3, _)] rfl (fun z hfl C => ?_)
  have hx := K.1
  obtain ⟨w0, w1, w2, w3, w4⟩ := K.2.2.1.1
  have hnp := K.2.1.np
  have hs4 := K.2.1.s4
  refine g_iload_n C (gd DX9_telling_0 0 rfl) 3 rfl rfl ?_
  refine g_iconst (v := -1) C (gd DX9_telling_0 1 rfl) (by decide) ?_
  refine g_icmp_ge C 11 (gd DX9_telling_0 2 rfl) (by decide) (fun c2 => ?_) (fun c2 => ?_)
  rotate_left
  · refine g_aload_n C (gd DX9_telling_0 3 rfl) 0 rfl rfl ?_
    refine g_iconst (v := 1) C (gd DX9_telling_0 4 rfl) (by decide) ?_
    refine g_cV1 (ci := 9) C [_] mX9_refuse lm_TestJudge_90 (by exact hx.1) rfl rfl (e_x_refuse hx 1) hfl (by first | decide | omega) (by decide) (by omega) (by omega) rfl rfl (Nat.le_of_ble_eq_true rfl) (gd DX9_telling_0 5 rfl) ?_
    exact g_iret C (by omega) (by omega) (aQ.r K hM rfl (Or.inl ⟨c2, rfl, rfl⟩)) (gd DX9_telling_0 6 rfl)
  have hk : -1 ≤ k := c2
  refine g_aload_n C (gd DX9_telling_0 7 rfl) 0 rfl rfl ?_
  refine g_iload_n C (gd DX9_telling_0 8 rfl) 1 rfl rfl ?_
  refine g_cV1 (ci := 9) C [_] mX9_lacks lm_TestJudge_154 (by exact hx.1) rfl rfl (e_x_lacks hx (by omega) w2 p) hfl (by first | decide | omega) (by decide) (by omega) (by omega) rfl rfl (Nat.le_of_ble_eq_true rfl) (gd DX9_telling_0 9 rfl) ?_
  by_cases n1 : 0 ≤ p ∧ p ≤ nI (vNp V) - 1
  rotate_left
  · rw [b1_t (show ¬ (0 ≤ p ∧ p ≤ nI (vNp V) - 1) from n1)]
    refine g_if_ne C 27 (gd DX9_telling_0 10 rfl) (by decide) (fun c16 => ?_) (fun c16 => ?_)
    · refine g_aload_n C (gd DX9_telling_0 15 rfl) 0 rfl rfl ?_
      refine g_iconst (v := 2) C (gd DX9_telling_0 16 rfl) (by decide) ?_
      refine g_cV1 (ci := 9) C [_] mX9_refuse lm_TestJudge_90 (by exact hx.1) rfl rfl (e_x_refuse hx 2) hfl (by first | decide | omega) (by decide) (by omega) (by omega) rfl rfl (Nat.le_of_ble_eq_true rfl) (gd DX9_telling_0 17 rfl) ?_
      exact g_iret C (by omega) (by omega) (aQ.r K hM rfl (Or.inr ⟨hk, Or.inl ⟨fun q => n1 q.1, rfl, rfl⟩⟩)) (gd DX9_telling_0 18 rfl)
    · exact absurd c16 (by decide)
  rw [b1_f (show ¬ ¬ (0 ≤ p ∧ p ≤ nI (vNp V) - 1) from fun q => q n1)]
  refine g_if_ne C 27 (gd DX9_telling_0 10 rfl) (by decide) (fun c16 => ?_) (fun c16 => ?_)
  · exact absurd rfl c16
  refine g_aload_n C (gd DX9_telling_0 11 rfl) 0 rfl rfl ?_
  refine g_iload_n C (gd DX9_telling_0 12 rfl) 2 rfl rfl ?_
  refine g_cV1 (ci := 9) C [_] mX9_lacks lm_TestJudge_154 (by exact hx.1) rfl rfl (e_x_lacks hx (by omega) w2 o) hfl (by first | decide | omega) (by decide) (by omega) (by omega) rfl rfl (Nat.le_of_ble_eq_true rfl) (gd DX9_telling_0 13 rfl) ?_
  by_cases n2 : 0 ≤ o ∧ o ≤ nI (vNp V) - 1
  rotate_left
  · rw [b1_t (show ¬ (0 ≤ o ∧ o ≤ nI (vNp V) - 1) from n2)]
    refine g_if_eq C 33 (gd DX9_telling_0 14 rfl) (by decide) (fun c24 => ?_) (fun c24 => ?_)
    · exact absurd c24 (by decide)
    · refine g_aload_n C (gd DX9_telling_0 15 rfl) 0 rfl rfl ?_
      refine g_iconst (v := 2) C (gd DX9_telling_0 16 rfl) (by decide) ?_
      refine g_cV1 (ci := 9) C [_] mX9_refuse lm_TestJudge_90 (by exact hx.1) rfl rfl (e_x_refuse hx 2) hfl (by first | decide | omega) (by decide) (by omega) (by omega) rfl rfl (Nat.le_of_ble_eq_true rfl) (gd DX9_telling_0 17 rfl) ?_
      exact g_iret C (by omega) (by omega) (aQ.r K hM rfl (Or.inr ⟨hk, Or.inl ⟨fun q => n2 q.2, rfl, rfl⟩⟩)) (gd DX9_telling_0 18 rfl)
  rw [b1_f (show ¬ ¬ (0 ≤ o ∧ o ≤ nI (vNp V) - 1) from fun q => q n2)]
  refine g_if_eq C 33 (gd DX9_telling_0 14 rfl) (by decide) (fun c24 => ?_) (fun c24 => ?_)
  rotate_left
  · exact absurd rfl c24
  obtain ⟨r, hr, rfl⟩ := below_of (by omega) n1
  obtain ⟨q, hq, rfl⟩ := below_of (by omega) n2
  obtain ⟨a, a1, a2, a3, -⟩ := K.pc hr
  obtain ⟨b, b1, b2, b3, -⟩ := K.pc hq
  refine g_aload_n C (gd DX9_telling_0 19 rfl) 0 rfl rfl ?_
  refine g_getr (ci := 9) (k := 8) C rfl (by decide) rfl lf_TestJudge_50 hx.1 hx.2.2.2.2.2.1.1 (gd DX9_telling_0 20 rfl) ?_
  refine g_aload_n C (gd DX9_telling_0 21 rfl) 0 rfl rfl ?_
  refine g_getr (ci := 9) (k := 6) C rfl (by decide) rfl lf_TestJudge_36 hx.1 hx.2.2.2.1.1 (gd DX9_telling_0 22 rfl) ?_
  refine g_aload_n C (gd DX9_telling_0 23 rfl) 0 rfl rfl ?_
  refine g_getr (ci := 9) (k := 6) C rfl (by decide) rfl lf_TestJudge_36 hx.1 hx.2.2.2.1.1 (gd DX9_telling_0 24 rfl) ?_
  refine g_geti (ci := 8) (k := 4) C rfl (by decide) rfl lf_TestJudge_144 hx.2.2.2.1.2.1 (gd DX9_telling_0 25 rfl) ?_
  rw [w4]
  refine g_aload_n C (gd DX9_telling_0 26 rfl) 0 rfl rfl ?_
  refine g_getr (ci := 9) (k := 6) C rfl (by decide) rfl lf_TestJudge_36 hx.1 hx.2.2.2.1.1 (gd DX9_telling_0 27 rfl) ?_
  refine g_iload_n C (gd DX9_telling_0 28 rfl) 1 rfl rfl ?_
  refine g_cV1 (ci := 8) C [_] mX8_piece lm_TestJudge_158 (by exact hx.2.2.2.1.2.1) rfl rfl (e_w_piece hx.2.2.2.1.2 hnp w2 hr a1) hfl (by first | decide | omega) (by decide) (by omega) (by omega) rfl rfl (Nat.le_of_ble_eq_true rfl) (gd DX9_telling_0 29 rfl) ?_
  refine g_aload_n C (gd DX9_telling_0 30 rfl) 0 rfl rfl ?_
  refine g_getr (ci := 9) (k := 6) C rfl (by decide) rfl lf_TestJudge_36 hx.1 hx.2.2.2.1.1 (gd DX9_telling_0 31 rfl) ?_
  refine g_iload_n C (gd DX9_telling_0 32 rfl) 2 rfl rfl ?_
  refine g_cV1 (ci := 8) C [_] mX8_piece lm_TestJudge_158 (by exact hx.2.2.2.1.2.1) rfl rfl (e_w_piece hx.2.2.2.1.2 hnp w2 hq b1) hfl (by first | decide | omega) (by decide) (by omega) (by omega) rfl rfl (Nat.le_of_ble_eq_true rfl) (gd DX9_telling_0 33 rfl) ?_
  refine g_callV (ci := 5) C [_, _, _, _] mX5_begin lm_TestJudge_197 (by exact hx.2.2.2.2.2.1.2.1) rfl rfl (e_x_begin K hs4 a3 b3) hfl (by first | decide | omega) (by decide) (by omega) (by omega) rfl rfl (Nat.le_of_ble_eq_true rfl) (gd DX9_telling_0 34 rfl) (fun r g1 hp => ?_)
  obtain ⟨rfl, bg⟩ := hp
  show GW z w 4 _ _ _ _ _ [] _
  obtain ⟨K1, k1⟩ := K.bg hs4 a3.2.1 b3.2.1 bg
  have hx1 := K1.1
  refine g_aload_n C (gd DX9_telling_0 35 rfl) 0 rfl rfl ?_
  refine g_iload_n C (gd DX9_telling_0 36 rfl) 3 rfl rfl ?_
  refine g_callV (ci := 9) C [_] mX9_spell lm_TestJudge_201 (by exact hx1.1) rfl rfl (e_x_spell K hs4 a3.2.1 b3.2.1 bg hk) hfl (by first | decide | omega) (by decide) (by omega) (by omega) rfl rfl (Nat.le_of_ble_eq_true rfl) (gd DX9_telling_0 37 rfl) (fun r g2 hp => ?_)
  obtain ⟨g3, v, K3, k3, rfl, rfl, sp⟩ := hp
  exact g_iret C (by omega) (by omega) (aQ.q K hM rfl K3 k3 (Or.inr ⟨hk, Or.inr ⟨r, q, hr, hq, rfl, rfl, sp⟩⟩)) (gd DX9_telling_0 38 rfl)
theorem e_x_first (K : K0 x W h V RC) (hM : kvM x h M) (p k : Int32) : Ev w 6 0 0 yX9_first cX9_first 3 (some .int) [.ref x, .int p, .int k] h (aQ x (qQ V M (gat (-1 ≤ k) 1 (one (vNp V) p (fun r v st => spP (vP1 V (vS V) (vPR V r)) k (v, st)))))) := by
  refine g_start (by decide) (Nat.le_of_ble_eq_true rfl) [(0, _), (1, _), (2, _)] rfl (fun z hfl C => ?_)
  have hx := K.1
  obtain ⟨w0, w1, w2, w3, w4⟩ := K.2.2.1.1
  have hnp := K.2.1.np
  have hs4 := K.2.1.s4
  refine g_iload_n C (gd DX9_first_0 0 rfl) 2 rfl rfl ?_
  refine g_iconst (v := -1) C (gd DX9_first_0 1 rfl) (by decide) ?_
  refine g_icmp_ge C 11 (gd DX9_first_0 2 rfl) (by decide) (fun c2 => ?_) (fun c2 => ?_)
  rotate_left
  · refine g_aload_n C (gd DX9_first_0 3 rfl) 0 rfl rfl ?_
    refine g_iconst (v := 1) C (gd DX9_first_0 4 rfl) (by decide) ?_
    refine g_cV1 (ci := 9) C [_] mX9_refuse lm_TestJudge_90 (by exact hx.1) rfl rfl (e_x_refuse hx 1) hfl (by first | decide | omega) (by decide) (by omega) (by omega) rfl rfl (Nat.le_of_ble_eq_true rfl) (gd DX9_first_0 5 rfl) ?_
    exact g_iret C (by omega) (by omega) (aQ.r K hM rfl (Or.inl ⟨c2, rfl, rfl⟩)) (gd DX9_first_0 6 rfl)
  have hk : -1 ≤ k := c2
  refine g_aload_n C (gd DX9_first_0 7 rfl) 0 rfl rfl ?_
  refine g_iload_n C (gd DX9_first_0 8 rfl) 1 rfl rfl ?_
  refine g_cV1 (ci := 9) C [_] mX9_lacks lm_TestJudge_154 (by exact hx.1) rfl rfl (e_x_lacks hx (by omega) w2 p) hfl (by first | decide | omega) (by decide) (by omega) (by omega) rfl rfl (Nat.le_of_ble_eq_true rfl) (gd DX9_first_0 9 rfl) ?_
  by_cases n1 : 0 ≤ p ∧ p ≤ nI (vNp V) - 1
  rotate_left
  · rw [b1_t (show ¬ (0 ≤ p ∧ p ≤ nI (vNp V) - 1) from n1)]
    refine g_if_eq C 25 (gd DX9_first_0 10 rfl) (by decide) (fun c16 => ?_) (fun c16 => ?_)
    · exact absurd c16 (by decide)
    · refine g_aload_n C (gd DX9_first_0 11 rfl) 0 rfl rfl ?_
      refine g_iconst (v := 2) C (gd DX9_first_0 12 rfl) (by decide) ?_
      refine g_cV1 (ci := 9) C [_] mX9_refuse lm_TestJudge_90 (by exact hx.1) rfl rfl (e_x_refuse hx 2) hfl (by first | decide | omega) (by decide) (by omega) (by omega) rfl rfl (Nat.le_of_ble_eq_true rfl) (gd DX9_first_0 13 rfl) ?_
      exact g_iret C (by omega) (by omega) (aQ.r K hM rfl (Or.inr ⟨hk, Or.inl ⟨n1, rfl, rfl⟩⟩)) (gd DX9_first_0 14 rfl)
  rw [b1_f (show ¬ ¬ (0 ≤ p ∧ p ≤ nI (vNp V) - 1) from fun q => q n1)]
  refine g_if_eq C 25 (gd DX9_first_0 10 rfl) (by decide) (fun c16 => ?_) (fun c16 => ?_)
  rotate_left
  · exact absurd rfl c16
  obtain ⟨r, hr, rfl⟩ := below_of (by omega) n1
  obtain ⟨a, a1, a2, a3, -⟩ := K.pc hr
  refine g_aload_n C (gd DX9_first_0 15 rfl) 0 rfl rfl ?_
  refine g_getr (ci := 9) (k := 8) C rfl (by decide) rfl lf_TestJudge_50 hx.1 hx.2.2.2.2.2.1.1 (gd DX9_first_0 16 rfl) ?_
  refine g_aload_n C (gd DX9_first_0 17 rfl) 0 rfl rfl ?_
  refine g_getr (ci := 9) (k := 6) C rfl (by decide) rfl lf_TestJudge_36 hx.1 hx.2.2.2.1.1 (gd DX9_first_0 18 rfl) ?_
  refine g_aload_n C (gd DX9_first_0 19 rfl) 0 rfl rfl ?_
  refine g_getr (ci := 9) (k := 6) C rfl (by decide) rfl lf_TestJudge_36 hx.1 hx.2.2.2.1.1 (gd DX9_first_0 20 rfl) ?_
  refine g_geti (ci := 8) (k := 4) C rfl (by decide) rfl lf_TestJudge_144 hx.2.2.2.1.2.1 (gd DX9_first_0 21 rfl) ?_
  rw [w4]
  refine g_aload_n C (gd DX9_first_0 22 rfl) 0 rfl rfl ?_
  refine g_getr (ci := 9) (k := 6) C rfl (by decide) rfl lf_TestJudge_36 hx.1 hx.2.2.2.1.1 (gd DX9_first_0 23 rfl) ?_
  refine g_iload_n C (gd DX9_first_0 24 rfl) 1 rfl rfl ?_
  refine g_cV1 (ci := 8) C [_] mX8_piece lm_TestJudge_158 (by exact hx.2.2.2.1.2.1) rfl rfl (e_w_piece hx.2.2.2.1.2 hnp w2 hr a1) hfl (by first | decide | omega) (by decide) (by omega) (by omega) rfl rfl (Nat.le_of_ble_eq_true rfl) (gd DX9_first_0 25 rfl) ?_
  refine g_aload_n C (gd DX9_first_0 26 rfl) 0 rfl rfl ?_
  refine g_getr (ci := 9) (k := 11) C rfl (by decide) rfl lf_TestJudge_73 hx.1 hx.2.2.2.2.2.2.2.2.1.1 (gd DX9_first_0 27 rfl) ?_
  refine g_callV (ci := 5) C [_, _, _, _] mX5_begin lm_TestJudge_197 (by exact hx.2.2.2.2.2.1.2.1) rfl rfl (e_x_begin K hs4 a3 K.nothing) hfl (by first | decide | omega) (by decide) (by omega) (by omega) rfl rfl (Nat.le_of_ble_eq_true rfl) (gd DX9_first_0 28 rfl) (fun r g1 hp => ?_)
  obtain ⟨rfl, bg⟩ := hp
  show GW z w 3 _ _ _ _ _ [] _
  obtain ⟨K1, k1⟩ := K.bg hs4 a3.2.1 K.nothing.2.1 bg
  have hx1 := K1.1
  refine g_aload_n C (gd DX9_first_0 29 rfl) 0 rfl rfl ?_
  refine g_iload_n C (gd DX9_first_0 30 rfl) 2 rfl rfl ?_
  refine g_callV (ci := 9) C [_] mX9_spell lm_TestJudge_201 (by exact hx1.1) rfl rfl (e_x_spell K hs4 a3.2.1 K.nothing.2.1 bg hk) hfl (by first | decide | omega) (by decide) (by omega) (by omega) rfl rfl (Nat.le_of_ble_eq_true rfl) (gd DX9_first_0 31 rfl) (fun r g2 hp => ?_)
  obtain ⟨g3, v, K3, k3, rfl, rfl, sp⟩ := hp
  exact g_iret C (by omega) (by omega) (aQ.q K hM rfl K3 k3 (Or.inr ⟨hk, Or.inr ⟨r, hr, rfl, sp⟩⟩)) (gd DX9_first_0 32 rfl)
theorem e_x_least (K : K0 x W h V RC) (hM : kvM x h M) (p : Int32) : Ev w 7 0 0 yX9_least cX9_least 2 (some .int) [.ref x, .int p] h (aQ x (qQ V M (one (vNp V) p (fun r v st => spP (vP1 V (vS V) (vPR V r)) (-1) (v, st))))) := by
  refine g_start (by decide) (Nat.le_of_ble_eq_true rfl) [(0, _), (1, _)] rfl (fun z hfl C => ?_)
  have hx := K.1
  refine g_aload_n C (gd DX9_least_0 0 rfl) 0 rfl rfl ?_
  refine g_iload_n C (gd DX9_least_0 1 rfl) 1 rfl rfl ?_
  refine g_iconst (v := -1) C (gd DX9_least_0 2 rfl) (by decide) ?_
  refine g_callV (ci := 9) C [_, _] mX9_first lm_TestJudge_190 (by exact hx.1) rfl rfl (e_x_first K hM p (-1)) hfl (by first | decide | omega) (by decide) (by omega) (by omega) rfl rfl (Nat.le_of_ble_eq_true rfl) (gd DX9_least_0 3 rfl) (fun r g hp => ?_)
  obtain ⟨v, V', M', rfl, KV', i, st, rfl, q, rfl, rfl⟩ := hp
  rcases q with ⟨n, -⟩ | ⟨-, q⟩
  · exact absurd (by decide) n
  exact g_iret C (by omega) (by omega) ⟨_, _, _, rfl, KV', i, st, rfl, q, rfl, rfl⟩ (gd DX9_least_0 4 rfl)
theorem e_x_whose (K : K0 x W h V RC) (hM : kvM x h M) (p o : Int32) : Ev w 6 0 0 yX9_whose cX9_whose 3 (some .int) [.ref x, .int p, .int o] h (aQ x (qQ V M (two (vNp V) p o (qWho V)))) := by
  refine g_start (by decide) (Nat.le_of_ble_eq_true rfl) [(0, _), (1, _), (2, _)] rfl (fun z hfl C => ?_)
  have hx := K.1
  obtain ⟨w0, w1, w2, w3, w4⟩ := K.2.2.1.1
  have hnp := K.2.1.np
  have hs4 := K.2.1.s4
  refine g_aload_n C (gd DX9_whose_0 0 rfl) 0 rfl rfl ?_
  refine g_iload_n C (gd DX9_whose_0 1 rfl) 1 rfl rfl ?_
  refine g_cV1 (ci := 9) C [_] mX9_lacks lm_TestJudge_154 (by exact hx.1) rfl rfl (e_x_lacks hx (by omega) w2 p) hfl (by first | decide | omega) (by decide) (by omega) (by omega) rfl rfl (Nat.le_of_ble_eq_true rfl) (gd DX9_whose_0 2 rfl) ?_
  by_cases n1 : 0 ≤ p ∧ p ≤ nI (vNp V) - 1
  rotate_left
  · rw [b1_t (show ¬ (0 ≤ p ∧ p ≤ nI (vNp V) - 1) from n1)]
    refine g_if_ne C 16 (gd DX9_whose_0 3 rfl) (by decide) (fun c5 => ?_) (fun c5 => ?_)
    · refine g_aload_n C (gd DX9_whose_0 8 rfl) 0 rfl rfl ?_
      refine g_iconst (v := 2) C (gd DX9_whose_0 9 rfl) (by decide) ?_
      refine g_cV1 (ci := 9) C [_] mX9_refuse lm_TestJudge_90 (by exact hx.1) rfl rfl (e_x_refuse hx 2) hfl (by first | decide | omega) (by decide) (by omega) (by omega) rfl rfl (Nat.le_of_ble_eq_true rfl) (gd DX9_whose_0 10 rfl) ?_
      exact g_iret C (by omega) (by omega) (aQ.r K hM rfl (Or.inl ⟨fun q => n1 q.1, rfl, rfl⟩)) (gd DX9_whose_0 11 rfl)
    · exact absurd c5 (by decide)
  rw [b1_f (show ¬ ¬ (0 ≤ p ∧ p ≤ nI (vNp V) - 1) from fun q => q n1)]
  refine g_if_ne C 16 (gd DX9_whose_0 3 rfl) (by decide) (fun c5 => ?_) (fun c5 => ?_)
  · exact absurd rfl c5
  refine g_aload_n C (gd DX9_whose_0 4 rfl) 0 rfl rfl ?_
  refine g_iload_n C (gd DX9_whose_0 5 rfl) 2 rfl rfl ?_
  refine g_cV1 (ci := 9) C [_] mX9_lacks lm_TestJudge_154 (by exact hx.1) rfl rfl (e_x_lacks hx (by omega) w2 o) hfl (by first | decide | omega) (by decide) (by omega) (by omega) rfl rfl (Nat.le_of_ble_eq_true rfl) (gd DX9_whose_0 6 rfl) ?_
  by_cases n2 : 0 ≤ o ∧ o ≤ nI (vNp V) - 1
  rotate_left
  · rw [b1_t (show ¬ (0 ≤ o ∧ o ≤ nI (vNp V) - 1) from n2)]
    refine g_if_eq C 22 (gd DX9_whose_0 7 rfl) (by decide) (fun c13 => ?_) (fun c13 => ?_)
    · exact absurd c13 (by decide)
    · refine g_aload_n C (gd DX9_whose_0 8 rfl) 0 rfl rfl ?_
      refine g_iconst (v := 2) C (gd DX9_whose_0 9 rfl) (by decide) ?_
      refine g_cV1 (ci := 9) C [_] mX9_refuse lm_TestJudge_90 (by exact hx.1) rfl rfl (e_x_refuse hx 2) hfl (by first | decide | omega) (by decide) (by omega) (by omega) rfl rfl (Nat.le_of_ble_eq_true rfl) (gd DX9_whose_0 10 rfl) ?_
      exact g_iret C (by omega) (by omega) (aQ.r K hM rfl (Or.inl ⟨fun q => n2 q.2, rfl, rfl⟩)) (gd DX9_whose_0 11 rfl)
  rw [b1_f (show ¬ ¬ (0 ≤ o ∧ o ≤ nI (vNp V) - 1) from fun q => q n2)]
  refine g_if_eq C 22 (gd DX9_whose_0 7 rfl) (by decide) (fun c13 => ?_) (fun c13 => ?_)
  rotate_left
  · exact absurd rfl c13
  obtain ⟨r, hr, rfl⟩ := below_of (by omega) n1
  obtain ⟨q, hq, rfl⟩ := below_of (by omega) n2
  refine g_aload_n C (gd DX9_whose_0 12 rfl) 0 rfl rfl ?_
  refine g_aload_n C (gd DX9_whose_0 13 rfl) 0 rfl rfl ?_
  refine g_getr (ci := 9) (k := 6) C rfl (by decide) rfl lf_TestJudge_36 hx.1 hx.2.2.2.1.1 (gd DX9_whose_0 14 rfl) ?_
  refine g_geti (ci := 8) (k := 4) C rfl (by decide) rfl lf_TestJudge_144 hx.2.2.2.1.2.1 (gd DX9_whose_0 15 rfl) ?_
  rw [w4]
  refine g_iload_n C (gd DX9_whose_0 16 rfl) 1 rfl rfl ?_
  refine g_iload_n C (gd DX9_whose_0 17 rfl) 2 rfl rfl ?_
  refine g_callV (ci := 9) C [_, _, _] mX9_alike lm_TestJudge_214 (by exact hx.1) rfl rfl (e_x_alike K hs4 hr hq) hfl (by first | decide | omega) (by decide) (by omega) (by omega) rfl rfl (Nat.le_of_ble_eq_true rfl) (gd DX9_whose_0 18 rfl) (fun r g hp => ?_)
  obtain ⟨K2, k2, hp⟩ := hp
  have hx2 := K2.1
  rcases hp with ⟨rfl, eq⟩ | ⟨rfl, ne, i, key, fd, f1, f14⟩
  · show GW z w 3 _ _ _ _ _ (.int 1 :: _) _
    refine g_if_eq C 44 (gd DX9_whose_0 19 rfl) (by decide) (fun c35 => ?_) (fun c35 => ?_)
    · exact absurd c35 (by decide)
    · refine g_aload_n C (gd DX9_whose_0 20 rfl) 0 rfl rfl ?_
      refine g_iconst (v := 5) C (gd DX9_whose_0 21 rfl) (by decide) ?_
      refine g_cV1 (ci := 9) C [_] mX9_refuse lm_TestJudge_90 (by exact hx2.1) rfl rfl (e_x_refuse hx2 5) hfl (by first | decide | omega) (by decide) (by omega) (by omega) rfl rfl (Nat.le_of_ble_eq_true rfl) (gd DX9_whose_0 22 rfl) ?_
      exact g_iret C (by omega) (by omega) (aQ.q K hM rfl K2 k2 (Or.inr ⟨r, q, hr, hq, rfl, rfl, Or.inl ⟨eq, rfl, rfl⟩⟩)) (gd DX9_whose_0 23 rfl)
  · show GW z w 3 _ _ _ _ _ (.int 0 :: _) _
    refine g_if_eq C 44 (gd DX9_whose_0 19 rfl) (by decide) (fun c35 => ?_) (fun c35 => ?_)
    rotate_left
    · exact absurd rfl c35
    refine g_aload_n C (gd DX9_whose_0 24 rfl) 0 rfl rfl ?_
    refine g_aload_n C (gd DX9_whose_0 25 rfl) 0 rfl rfl ?_
    refine g_getr (ci := 9) (k := 8) C rfl (by decide) rfl lf_TestJudge_50 hx2.1 hx2.2.2.2.2.2.1.1 (gd DX9_whose_0 26 rfl) ?_
    refine g_cV1 (ci := 5) C [] mX5_foundInOne lm_TestJudge_218 (by exact hx2.2.2.2.2.2.1.2.1) rfl rfl (e_s_foundInOne hx2.2.2.2.2.2.1.2) hfl (by first | decide | omega) (by decide) (by omega) (by omega) rfl rfl (Nat.le_of_ble_eq_true rfl) (gd DX9_whose_0 27 rfl) ?_
    rw [f1, f14]
    by_cases e : kE1 (vP2 V (vS V) r q) key >>> (ntzF (apF (vP2 V (vS V) r q) 0 key) &&& 31) &&& 1 = 0
    · rw [b1_f (fun n => n e)]
      refine g_if_ne C 59 (gd DX9_whose_0 28 rfl) (by decide) (fun c52 => ?_) (fun c52 => ?_)
      · exact absurd rfl c52
      · refine g_iconst (v := 1) C (gd DX9_whose_0 29 rfl) (by decide) ?_
        refine g_goto (tgt := 60) C (gd DX9_whose_0 30 rfl) (by decide) ?_
        refine g_cS1 C [_] mX9_bit lm_TestJudge_164 (e_x_bit (Or.inr rfl)) hfl (by first | decide | omega) (by decide) (by omega) (by omega) rfl rfl (Nat.le_of_ble_eq_true rfl) (gd DX9_whose_0 32 rfl) ?_
        refine g_cV1 (ci := 9) C [_] mX9_allow lm_TestJudge_128 (by exact hx2.1) rfl rfl (e_x_allow hx2 _) hfl (by first | decide | omega) (by decide) (by omega) (by omega) rfl rfl (Nat.le_of_ble_eq_true rfl) (gd DX9_whose_0 33 rfl) ?_
        exact g_iret C (by omega) (by omega) (aQ.q K hM rfl K2 k2 (Or.inr ⟨r, q, hr, hq, rfl, rfl, Or.inr ⟨i, key, fd, (if_pos e).symm, rfl⟩⟩)) (gd DX9_whose_0 34 rfl)
    · rw [b1_t e]
      refine g_if_ne C 59 (gd DX9_whose_0 28 rfl) (by decide) (fun c52 => ?_) (fun c52 => ?_)
      · refine g_iconst (v := 0) C (gd DX9_whose_0 31 rfl) (by decide) ?_
        refine g_cS1 C [_] mX9_bit lm_TestJudge_164 (e_x_bit (Or.inl rfl)) hfl (by first | decide | omega) (by decide) (by omega) (by omega) rfl rfl (Nat.le_of_ble_eq_true rfl) (gd DX9_whose_0 32 rfl) ?_
        refine g_cV1 (ci := 9) C [_] mX9_allow lm_TestJudge_128 (by exact hx2.1) rfl rfl (e_x_allow hx2 _) hfl (by first | decide | omega) (by decide) (by omega) (by omega) rfl rfl (Nat.le_of_ble_eq_true rfl) (gd DX9_whose_0 33 rfl) ?_
        exact g_iret C (by omega) (by omega) (aQ.q K hM rfl K2 k2 (Or.inr ⟨r, q, hr, hq, rfl, rfl, Or.inr ⟨i, key, fd, (if_neg e).symm, rfl⟩⟩)) (gd DX9_whose_0 34 rfl)
      · exact absurd c52 (by decide)
end X4
