/-! The class's questions over the table: right, weakest, strongest, keeps, uses, greatest -/
def atP (V : aV) (s : Int32) : Prop := 0 ≤ s ∧ s ≤ allF (nI (vNt V))
def fRig (s to : Int32) (ρ : Nat → Nat → Int32) (v st : Int32) : Prop := ((v = 1 ∧ efA ρ s &&& (to ^^^ -1) = 0) ∨ (v = 0 ∧ ¬ efA ρ s &&& (to ^^^ -1) = 0)) ∧ st = 0
def fWea (al to : Int32) (ρ : Nat → Nat → Int32) (v st : Int32) : Prop := v = sfF ρ al to 8 ∧ st = 0
def fStr (s : Int32) (ρ : Nat → Nat → Int32) (v st : Int32) : Prop := v = efA ρ s ∧ st = 0
def kp9 (ρ : Nat → Nat → Int32) (a : Int32) : Nat → Int32
  | 0 => a
  | i + 1 => sfF ρ (kp9 ρ a i) (kp9 ρ a i) 8
def fKee (a : Int32) (ρ : Nat → Nat → Int32) (v st : Int32) : Prop := v = kp9 ρ a 9 ∧ st = 0
def fUse (k : Int32) (ρ : Nat → Nat → Int32) (v st : Int32) : Prop := ∃ n, tbN n ρ ∧ v = (if k = 0 then bgF ρ 8 else if k = 1 then (if ρ 0 0 = 0 then 0 else ρ 4 0) else auF (ρ 3) (24 * n)) ∧ st = 0
def fGre (ρ : Nat → Nat → Int32) (v st : Int32) : Prop := ∃ n, tbN n ρ ∧ (((n = 0 ∨ ∀ B, ∃ k, wkT (ρ 3) B k) ∧ v = -1 ∧ st = 5) ∨ (0 < n ∧ ∃ L, v = nI L ∧ (∃ k, wkT (ρ 3) L k) ∧ (∀ d k, wkT (ρ 3) d k → d ≤ L) ∧ st = 0))
section X8
variable {w : gD} {x W : Nat} {h : HS} {V : aV} {RC : Nat → Nat → Int32} {M : aM}
theorem e_x_right (K : K0 x W h V RC) (hM : kvM x h M) (s p to : Int32) : Ev w 7 0 0 yX9_right cX9_right 4 (some .int) [.ref x, .int s, .int p, .int to] h (aQ x (qQ V M (gat (atP V s ∧ atP V to) 1 (one (vNp V) p (tbQ V (fRig s to)))))) := by
  refine g_start (by decide) (Nat.le_of_ble_eq_true rfl) [(0, _), (1, _), (2, _), (3, _)] rfl (fun z hfl C => ?_)
  have hx := K.1
  obtain ⟨w0, w1, w2, w3, w4⟩ := K.2.2.1.1
  have hnp := K.2.1.np
  have hnt := K.2.1.1.1
  refine g_aload_n C (gd DX9_right_0 0 rfl) 0 rfl rfl ?_
  refine g_iload_n C (gd DX9_right_0 1 rfl) 1 rfl rfl ?_
  refine g_cV1 (ci := 9) C [_] mX9_noAtoms lm_TestJudge_257 (by exact hx.1) rfl rfl (e_x_noAtoms hx hnt w0 s) hfl (by first | decide | omega) (by decide) (by omega) (by omega) rfl rfl (Nat.le_of_ble_eq_true rfl) (gd DX9_right_0 2 rfl) ?_
  by_cases a1 : 0 ≤ s ∧ s ≤ allF (nI (vNt V))
  rotate_left
  · rw [b1_t (show ¬ (0 ≤ s ∧ s ≤ allF (nI (vNt V))) from a1)]
    refine g_if_ne C 16 (gd DX9_right_0 3 rfl) (by decide) (fun c5 => ?_) (fun c5 => ?_)
    · refine g_aload_n C (gd DX9_right_0 8 rfl) 0 rfl rfl ?_
      refine g_iconst (v := 1) C (gd DX9_right_0 9 rfl) (by decide) ?_
      refine g_cV1 (ci := 9) C [_] mX9_refuse lm_TestJudge_90 (by exact hx.1) rfl rfl (e_x_refuse hx 1) hfl (by first | decide | omega) (by decide) (by omega) (by omega) rfl rfl (Nat.le_of_ble_eq_true rfl) (gd DX9_right_0 10 rfl) ?_
      exact g_iret C (by omega) (by omega) (aQ.r K hM rfl (Or.inl ⟨fun q => a1 q.1, rfl, rfl⟩)) (gd DX9_right_0 11 rfl)
    · exact absurd c5 (by decide)
  rw [b1_f (show ¬ ¬ (0 ≤ s ∧ s ≤ allF (nI (vNt V))) from fun q => q a1)]
  refine g_if_ne C 16 (gd DX9_right_0 3 rfl) (by decide) (fun c5 => ?_) (fun c5 => ?_)
  · exact absurd rfl c5
  refine g_aload_n C (gd DX9_right_0 4 rfl) 0 rfl rfl ?_
  refine g_iload_n C (gd DX9_right_0 5 rfl) 3 rfl rfl ?_
  refine g_cV1 (ci := 9) C [_] mX9_noAtoms lm_TestJudge_257 (by exact hx.1) rfl rfl (e_x_noAtoms hx hnt w0 to) hfl (by first | decide | omega) (by decide) (by omega) (by omega) rfl rfl (Nat.le_of_ble_eq_true rfl) (gd DX9_right_0 6 rfl) ?_
  by_cases a2 : 0 ≤ to ∧ to ≤ allF (nI (vNt V))
  rotate_left
  · rw [b1_t (show ¬ (0 ≤ to ∧ to ≤ allF (nI (vNt V))) from a2)]
    refine g_if_eq C 22 (gd DX9_right_0 7 rfl) (by decide) (fun c13 => ?_) (fun c13 => ?_)
    · exact absurd c13 (by decide)
    · refine g_aload_n C (gd DX9_right_0 8 rfl) 0 rfl rfl ?_
      refine g_iconst (v := 1) C (gd DX9_right_0 9 rfl) (by decide) ?_
      refine g_cV1 (ci := 9) C [_] mX9_refuse lm_TestJudge_90 (by exact hx.1) rfl rfl (e_x_refuse hx 1) hfl (by first | decide | omega) (by decide) (by omega) (by omega) rfl rfl (Nat.le_of_ble_eq_true rfl) (gd DX9_right_0 10 rfl) ?_
      exact g_iret C (by omega) (by omega) (aQ.r K hM rfl (Or.inl ⟨fun q => a2 q.2, rfl, rfl⟩)) (gd DX9_right_0 11 rfl)
  rw [b1_f (show ¬ ¬ (0 ≤ to ∧ to ≤ allF (nI (vNt V))) from fun q => q a2)]
  refine g_if_eq C 22 (gd DX9_right_0 7 rfl) (by decide) (fun c13 => ?_) (fun c13 => ?_)
  rotate_left
  · exact absurd rfl c13
  refine g_aload_n C (gd DX9_right_0 12 rfl) 0 rfl rfl ?_
  refine g_iload_n C (gd DX9_right_0 13 rfl) 2 rfl rfl ?_
  refine g_cV1 (ci := 9) C [_] mX9_lacks lm_TestJudge_154 (by exact hx.1) rfl rfl (e_x_lacks hx (by omega) w2 p) hfl (by first | decide | omega) (by decide) (by omega) (by omega) rfl rfl (Nat.le_of_ble_eq_true rfl) (gd DX9_right_0 14 rfl) ?_
  by_cases n1 : 0 ≤ p ∧ p ≤ nI (vNp V) - 1
  rotate_left
  · rw [b1_t (show ¬ (0 ≤ p ∧ p ≤ nI (vNp V) - 1) from n1)]
    refine g_if_eq C 36 (gd DX9_right_0 15 rfl) (by decide) (fun c27 => ?_) (fun c27 => ?_)
    · exact absurd c27 (by decide)
    · refine g_aload_n C (gd DX9_right_0 16 rfl) 0 rfl rfl ?_
      refine g_iconst (v := 2) C (gd DX9_right_0 17 rfl) (by decide) ?_
      refine g_cV1 (ci := 9) C [_] mX9_refuse lm_TestJudge_90 (by exact hx.1) rfl rfl (e_x_refuse hx 2) hfl (by first | decide | omega) (by decide) (by omega) (by omega) rfl rfl (Nat.le_of_ble_eq_true rfl) (gd DX9_right_0 18 rfl) ?_
      exact g_iret C (by omega) (by omega) (aQ.r K hM rfl (Or.inr ⟨⟨a1, a2⟩, Or.inl ⟨n1, rfl, rfl⟩⟩)) (gd DX9_right_0 19 rfl)
  rw [b1_f (show ¬ ¬ (0 ≤ p ∧ p ≤ nI (vNp V) - 1) from fun q => q n1)]
  refine g_if_eq C 36 (gd DX9_right_0 15 rfl) (by decide) (fun c27 => ?_) (fun c27 => ?_)
  rotate_left
  · exact absurd rfl c27
  obtain ⟨r, hr, rfl⟩ := below_of (by omega) n1
  refine g_aload_n C (gd DX9_right_0 20 rfl) 0 rfl rfl ?_
  refine g_iload_n C (gd DX9_right_0 21 rfl) 2 rfl rfl ?_
  refine g_callV (ci := 9) C [_] mX9_tabulate lm_TestJudge_174 (by exact hx.1) rfl rfl (e_x_tabulate K hr) hfl (by first | decide | omega) (by decide) (by omega) (by omega) rfl rfl (Nat.le_of_ble_eq_true rfl) (gd DX9_right_0 22 rfl) (fun r g hp => ?_)
  obtain ⟨rfl, K1, k1, tb⟩ := hp
  show GW z w 4 _ _ _ _ _ [] _
  have hx1 := K1.1
  obtain ⟨n, o⟩ := tb.n
  refine g_aload_n C (gd DX9_right_0 23 rfl) 0 rfl rfl ?_
  refine g_aload_n C (gd DX9_right_0 24 rfl) 0 rfl rfl ?_
  refine g_getr (ci := 9) (k := 9) C rfl (by decide) rfl lf_TestJudge_57 hx1.1 hx1.2.2.2.2.2.2.1.1 (gd DX9_right_0 25 rfl) ?_
  refine g_iload_n C (gd DX9_right_0 26 rfl) 1 rfl rfl ?_
  refine GW.cast rfl rfl (tR_self (t := x + 36)).symm ?_
  refine g_cV1 (ci := 6) C [_] mX6_endingsFrom lm_TestJudge_260 (by exact hx1.2.2.2.2.2.2.1.2.1) rfl rfl (e_t_endingsFrom hx1.2.2.2.2.2.2.1.2 o s) hfl (by first | decide | omega) (by decide) (by omega) (by omega) rfl rfl (Nat.le_of_ble_eq_true rfl) (gd DX9_right_0 27 rfl) ?_
  rw [tR_self]
  refine g_iload_n C (gd DX9_right_0 28 rfl) 3 rfl rfl ?_
  refine g_iconst (v := -1) C (gd DX9_right_0 29 rfl) (by decide) ?_
  refine g_ixor C (gd DX9_right_0 30 rfl) ?_
  refine g_iand C (gd DX9_right_0 31 rfl) ?_
  refine g_if_ne C 61 (gd DX9_right_0 32 rfl) (by decide) (fun c54 => ?_) (fun c54 => ?_)
  · refine g_iconst (v := 0) C (gd DX9_right_0 35 rfl) (by decide) ?_
    refine g_cS1 C [_] mX9_bit lm_TestJudge_164 (e_x_bit (Or.inl rfl)) hfl (by first | decide | omega) (by decide) (by omega) (by omega) rfl rfl (Nat.le_of_ble_eq_true rfl) (gd DX9_right_0 36 rfl) ?_
    refine g_cV1 (ci := 9) C [_] mX9_allow lm_TestJudge_128 (by exact hx1.1) rfl rfl (e_x_allow hx1 _) hfl (by first | decide | omega) (by decide) (by omega) (by omega) rfl rfl (Nat.le_of_ble_eq_true rfl) (gd DX9_right_0 37 rfl) ?_
    exact g_iret C (by omega) (by omega) (aQ.q K hM rfl K1 k1 (Or.inr ⟨⟨a1, a2⟩, Or.inr ⟨r, hr, rfl, _, tb, Or.inr ⟨rfl, c54⟩, rfl⟩⟩)) (gd DX9_right_0 38 rfl)
  · have c54' := c54
    refine g_iconst (v := 1) C (gd DX9_right_0 33 rfl) (by decide) ?_
    refine g_goto (tgt := 62) C (gd DX9_right_0 34 rfl) (by decide) ?_
    refine g_cS1 C [_] mX9_bit lm_TestJudge_164 (e_x_bit (Or.inr rfl)) hfl (by first | decide | omega) (by decide) (by omega) (by omega) rfl rfl (Nat.le_of_ble_eq_true rfl) (gd DX9_right_0 36 rfl) ?_
    refine g_cV1 (ci := 9) C [_] mX9_allow lm_TestJudge_128 (by exact hx1.1) rfl rfl (e_x_allow hx1 _) hfl (by first | decide | omega) (by decide) (by omega) (by omega) rfl rfl (Nat.le_of_ble_eq_true rfl) (gd DX9_right_0 37 rfl) ?_
    exact g_iret C (by omega) (by omega) (aQ.q K hM rfl K1 k1 (Or.inr ⟨⟨a1, a2⟩, Or.inr ⟨r, hr, rfl, _, tb, Or.inl ⟨rfl, (by first | exact c54' | exact Decidable.of_not_not c54')⟩, rfl⟩⟩)) (gd DX9_right_0 38 rfl)
theorem e_x_weakest (K : K0 x W h V RC) (hM : kvM x h M) (p to : Int32) : Ev w 7 0 0 yX9_weakest cX9_weakest 3 (some .int) [.ref x, .int p, .int to] h (aQ x (qQ V M (gat (atP V to) 1 (one (vNp V) p (tbQ V (fWea (allF (nI (vNt V))) to)))))) := by
  refine g_start (by decide) (Nat.le_of_ble_eq_true rfl) [(0, _), (1, _), (2, _)] rfl (fun z hfl C => ?_)
  have hx := K.1
  obtain ⟨w0, w1, w2, w3, w4⟩ := K.2.2.1.1
  have hnp := K.2.1.np
  have hnt := K.2.1.1.1
  refine g_aload_n C (gd DX9_weakest_0 0 rfl) 0 rfl rfl ?_
  refine g_iload_n C (gd DX9_weakest_0 1 rfl) 2 rfl rfl ?_
  refine g_cV1 (ci := 9) C [_] mX9_noAtoms lm_TestJudge_257 (by exact hx.1) rfl rfl (e_x_noAtoms hx hnt w0 to) hfl (by first | decide | omega) (by decide) (by omega) (by omega) rfl rfl (Nat.le_of_ble_eq_true rfl) (gd DX9_weakest_0 2 rfl) ?_
  by_cases a1 : 0 ≤ to ∧ to ≤ allF (nI (vNt V))
  rotate_left
  · rw [b1_t (show ¬ (0 ≤ to ∧ to ≤ allF (nI (vNt V))) from a1)]
    refine g_if_eq C 14 (gd DX9_weakest_0 3 rfl) (by decide) (fun c5 => ?_) (fun c5 => ?_)
    · exact absurd c5 (by decide)
    · refine g_aload_n C (gd DX9_weakest_0 4 rfl) 0 rfl rfl ?_
      refine g_iconst (v := 1) C (gd DX9_weakest_0 5 rfl) (by decide) ?_
      refine g_cV1 (ci := 9) C [_] mX9_refuse lm_TestJudge_90 (by exact hx.1) rfl rfl (e_x_refuse hx 1) hfl (by first | decide | omega) (by decide) (by omega) (by omega) rfl rfl (Nat.le_of_ble_eq_true rfl) (gd DX9_weakest_0 6 rfl) ?_
      exact g_iret C (by omega) (by omega) (aQ.r K hM rfl (Or.inl ⟨a1, rfl, rfl⟩)) (gd DX9_weakest_0 7 rfl)
  rw [b1_f (show ¬ ¬ (0 ≤ to ∧ to ≤ allF (nI (vNt V))) from fun q => q a1)]
  refine g_if_eq C 14 (gd DX9_weakest_0 3 rfl) (by decide) (fun c5 => ?_) (fun c5 => ?_)
  rotate_left
  · exact absurd rfl c5
  refine g_aload_n C (gd DX9_weakest_0 8 rfl) 0 rfl rfl ?_
  refine g_iload_n C (gd DX9_weakest_0 9 rfl) 1 rfl rfl ?_
  refine g_cV1 (ci := 9) C [_] mX9_lacks lm_TestJudge_154 (by exact hx.1) rfl rfl (e_x_lacks hx (by omega) w2 p) hfl (by first | decide | omega) (by decide) (by omega) (by omega) rfl rfl (Nat.le_of_ble_eq_true rfl) (gd DX9_weakest_0 10 rfl) ?_
  by_cases n1 : 0 ≤ p ∧ p ≤ nI (vNp V) - 1
  rotate_left
  · rw [b1_t (show ¬ (0 ≤ p ∧ p ≤ nI (vNp V) - 1) from n1)]
    refine g_if_eq C 28 (gd DX9_weakest_0 11 rfl) (by decide) (fun c19 => ?_) (fun c19 => ?_)
    · exact absurd c19 (by decide)
    · refine g_aload_n C (gd DX9_weakest_0 12 rfl) 0 rfl rfl ?_
      refine g_iconst (v := 2) C (gd DX9_weakest_0 13 rfl) (by decide) ?_
      refine g_cV1 (ci := 9) C [_] mX9_refuse lm_TestJudge_90 (by exact hx.1) rfl rfl (e_x_refuse hx 2) hfl (by first | decide | omega) (by decide) (by omega) (by omega) rfl rfl (Nat.le_of_ble_eq_true rfl) (gd DX9_weakest_0 14 rfl) ?_
      exact g_iret C (by omega) (by omega) (aQ.r K hM rfl (Or.inr ⟨a1, Or.inl ⟨n1, rfl, rfl⟩⟩)) (gd DX9_weakest_0 15 rfl)
  rw [b1_f (show ¬ ¬ (0 ≤ p ∧ p ≤ nI (vNp V) - 1) from fun q => q n1)]
  refine g_if_eq C 28 (gd DX9_weakest_0 11 rfl) (by decide) (fun c19 => ?_) (fun c19 => ?_)
  rotate_left
  · exact absurd rfl c19
  obtain ⟨r, hr, rfl⟩ := below_of (by omega) n1
  refine g_aload_n C (gd DX9_weakest_0 16 rfl) 0 rfl rfl ?_
  refine g_iload_n C (gd DX9_weakest_0 17 rfl) 1 rfl rfl ?_
  refine g_callV (ci := 9) C [_] mX9_tabulate lm_TestJudge_174 (by exact hx.1) rfl rfl (e_x_tabulate K hr) hfl (by first | decide | omega) (by decide) (by omega) (by omega) rfl rfl (Nat.le_of_ble_eq_true rfl) (gd DX9_weakest_0 18 rfl) (fun r g hp => ?_)
  obtain ⟨rfl, K1, k1, tb⟩ := hp
  show GW z w 3 _ _ _ _ _ [] _
  have hx1 := K1.1
  obtain ⟨n, o⟩ := tb.n
  refine g_aload_n C (gd DX9_weakest_0 19 rfl) 0 rfl rfl ?_
  refine g_aload_n C (gd DX9_weakest_0 20 rfl) 0 rfl rfl ?_
  refine g_getr (ci := 9) (k := 9) C rfl (by decide) rfl lf_TestJudge_57 hx1.1 hx1.2.2.2.2.2.2.1.1 (gd DX9_weakest_0 21 rfl) ?_
  refine g_aload_n C (gd DX9_weakest_0 22 rfl) 0 rfl rfl ?_
  refine g_getr (ci := 9) (k := 6) C rfl (by decide) rfl lf_TestJudge_36 hx1.1 hx1.2.2.2.1.1 (gd DX9_weakest_0 23 rfl) ?_
  refine g_cV1 (ci := 8) C [] mX8_allAtoms lm_TestJudge_263 (by exact hx1.2.2.2.1.2.1) rfl rfl (e_w_allAtoms hx1.2.2.2.1.2) hfl (by first | decide | omega) (by decide) (by omega) (by omega) rfl rfl (Nat.le_of_ble_eq_true rfl) (gd DX9_weakest_0 24 rfl) ?_
  rw [K1.2.2.1.1.1]
  refine g_iload_n C (gd DX9_weakest_0 25 rfl) 2 rfl rfl ?_
  refine GW.cast rfl rfl (tR_self (t := x + 36)).symm ?_
  refine g_cV1 (ci := 6) C [_, _] mX6_safeAtoms lm_TestJudge_266 (by exact hx1.2.2.2.2.2.2.1.2.1) rfl rfl (e_t_safeAtoms hx1.2.2.2.2.2.2.1.2 o _ to) hfl (by first | decide | omega) (by decide) (by omega) (by omega) rfl rfl (Nat.le_of_ble_eq_true rfl) (gd DX9_weakest_0 26 rfl) ?_
  rw [tR_self]
  refine g_cV1 (ci := 9) C [_] mX9_allow lm_TestJudge_128 (by exact hx1.1) rfl rfl (e_x_allow hx1 _) hfl (by first | decide | omega) (by decide) (by omega) (by omega) rfl rfl (Nat.le_of_ble_eq_true rfl) (gd DX9_weakest_0 27 rfl) ?_
  exact g_iret C (by omega) (by omega) (aQ.q K hM rfl K1 k1 (Or.inr ⟨a1, Or.inr ⟨r, hr, rfl, _, tb, rfl, rfl⟩⟩)) (gd DX9_weakest_0 28 rfl)
theorem e_x_strongest (K : K0 x W h V RC) (hM : kvM x h M) (s p : Int32) : Ev w 7 0 0 yX9_strongest cX9_strongest 3 (some .int) [.ref x, .int s, .int p] h (aQ x (qQ V M (gat (atP V s) 1 (one (vNp V) p (tbQ V (fStr s)))))) := by
  refine g_start (by decide) (Nat.le_of_ble_eq_true rfl) [(0, _), (1, _), (2, _)] rfl (fun z hfl C => ?_)
  have hx := K.1
  obtain ⟨w0, w1, w2, w3, w4⟩ := K.2.2.1.1
  have hnp := K.2.1.np
  have hnt := K.2.1.1.1
  refine g_aload_n C (gd DX9_strongest_0 0 rfl) 0 rfl rfl ?_
  refine g_iload_n C (gd DX9_strongest_0 1 rfl) 1 rfl rfl ?_
  refine g_cV1 (ci := 9) C [_] mX9_noAtoms lm_TestJudge_257 (by exact hx.1) rfl rfl (e_x_noAtoms hx hnt w0 s) hfl (by first | decide | omega) (by decide) (by omega) (by omega) rfl rfl (Nat.le_of_ble_eq_true rfl) (gd DX9_strongest_0 2 rfl) ?_
  by_cases a1 : 0 ≤ s ∧ s ≤ allF (nI (vNt V))
  rotate_left
  · rw [b1_t (show ¬ (0 ≤ s ∧ s ≤ allF (nI (vNt V))) from a1)]
    refine g_if_eq C 14 (gd DX9_strongest_0 3 rfl) (by decide) (fun c5 => ?_) (fun c5 => ?_)
    · exact absurd c5 (by decide)
    · refine g_aload_n C (gd DX9_strongest_0 4 rfl) 0 rfl rfl ?_
      refine g_iconst (v := 1) C (gd DX9_strongest_0 5 rfl) (by decide) ?_
      refine g_cV1 (ci := 9) C [_] mX9_refuse lm_TestJudge_90 (by exact hx.1) rfl rfl (e_x_refuse hx 1) hfl (by first | decide | omega) (by decide) (by omega) (by omega) rfl rfl (Nat.le_of_ble_eq_true rfl) (gd DX9_strongest_0 6 rfl) ?_
      exact g_iret C (by omega) (by omega) (aQ.r K hM rfl (Or.inl ⟨a1, rfl, rfl⟩)) (gd DX9_strongest_0 7 rfl)
  rw [b1_f (show ¬ ¬ (0 ≤ s ∧ s ≤ allF (nI (vNt V))) from fun q => q a1)]
  refine g_if_eq C 14 (gd DX9_strongest_0 3 rfl) (by decide) (fun c5 => ?_) (fun c5 => ?_)
  rotate_left
  · exact absurd rfl c5
  refine g_aload_n C (gd DX9_strongest_0 8 rfl) 0 rfl rfl ?_
  refine g_iload_n C (gd DX9_strongest_0 9 rfl) 2 rfl rfl ?_
  refine g_cV1 (ci := 9) C [_] mX9_lacks lm_TestJudge_154 (by exact hx.1) rfl rfl (e_x_lacks hx (by omega) w2 p) hfl (by first | decide | omega) (by decide) (by omega) (by omega) rfl rfl (Nat.le_of_ble_eq_true rfl) (gd DX9_strongest_0 10 rfl) ?_
  by_cases n1 : 0 ≤ p ∧ p ≤ nI (vNp V) - 1
  rotate_left
  · rw [b1_t (show ¬ (0 ≤ p ∧ p ≤ nI (vNp V) - 1) from n1)]
    refine g_if_eq C 28 (gd DX9_strongest_0 11 rfl) (by decide) (fun c19 => ?_) (fun c19 => ?_)
    · exact absurd c19 (by decide)
    · refine g_aload_n C (gd DX9_strongest_0 12 rfl) 0 rfl rfl ?_
      refine g_iconst (v := 2) C (gd DX9_strongest_0 13 rfl) (by decide) ?_
      refine g_cV1 (ci := 9) C [_] mX9_refuse lm_TestJudge_90 (by exact hx.1) rfl rfl (e_x_refuse hx 2) hfl (by first | decide | omega) (by decide) (by omega) (by omega) rfl rfl (Nat.le_of_ble_eq_true rfl) (gd DX9_strongest_0 14 rfl) ?_
      exact g_iret C (by omega) (by omega) (aQ.r K hM rfl (Or.inr ⟨a1, Or.inl ⟨n1, rfl, rfl⟩⟩)) (gd DX9_strongest_0 15 rfl)
  rw [b1_f (show ¬ ¬ (0 ≤ p ∧ p ≤ nI (vNp V) - 1) from fun q => q n1)]
  refine g_if_eq C 28 (gd DX9_strongest_0 11 rfl) (by decide) (fun c19 => ?_) (fun c19 => ?_)
  rotate_left
  · exact absurd rfl c19
  obtain ⟨r, hr, rfl⟩ := below_of (by omega) n1
  refine g_aload_n C (gd DX9_strongest_0 16 rfl) 0 rfl rfl ?_
  refine g_iload_n C (gd DX9_strongest_0 17 rfl) 2 rfl rfl ?_
  refine g_callV (ci := 9) C [_] mX9_tabulate lm_TestJudge_174 (by exact hx.1) rfl rfl (e_x_tabulate K hr) hfl (by first | decide | omega) (by decide) (by omega) (by omega) rfl rfl (Nat.le_of_ble_eq_true rfl) (gd DX9_strongest_0 18 rfl) (fun r g hp => ?_)
  obtain ⟨rfl, K1, k1, tb⟩ := hp
  show GW z w 3 _ _ _ _ _ [] _
  have hx1 := K1.1
  obtain ⟨n, o⟩ := tb.n
  refine g_aload_n C (gd DX9_strongest_0 19 rfl) 0 rfl rfl ?_
  refine g_aload_n C (gd DX9_strongest_0 20 rfl) 0 rfl rfl ?_
  refine g_getr (ci := 9) (k := 9) C rfl (by decide) rfl lf_TestJudge_57 hx1.1 hx1.2.2.2.2.2.2.1.1 (gd DX9_strongest_0 21 rfl) ?_
  refine g_iload_n C (gd DX9_strongest_0 22 rfl) 1 rfl rfl ?_
  refine GW.cast rfl rfl (tR_self (t := x + 36)).symm ?_
  refine g_cV1 (ci := 6) C [_] mX6_endingsFrom lm_TestJudge_260 (by exact hx1.2.2.2.2.2.2.1.2.1) rfl rfl (e_t_endingsFrom hx1.2.2.2.2.2.2.1.2 o s) hfl (by first | decide | omega) (by decide) (by omega) (by omega) rfl rfl (Nat.le_of_ble_eq_true rfl) (gd DX9_strongest_0 23 rfl) ?_
  rw [tR_self]
  refine g_cV1 (ci := 9) C [_] mX9_allow lm_TestJudge_128 (by exact hx1.1) rfl rfl (e_x_allow hx1 _) hfl (by first | decide | omega) (by decide) (by omega) (by omega) rfl rfl (Nat.le_of_ble_eq_true rfl) (gd DX9_strongest_0 24 rfl) ?_
  exact g_iret C (by omega) (by omega) (aQ.q K hM rfl K1 k1 (Or.inr ⟨a1, Or.inr ⟨r, hr, rfl, _, tb, rfl, rfl⟩⟩)) (gd DX9_strongest_0 25 rfl)
theorem e_x_keeps (K : K0 x W h V RC) (hM : kvM x h M) (p a : Int32) : Ev w 7 0 0 yX9_keeps cX9_keeps 5 (some .int) [.ref x, .int p, .int a] h (aQ x (qQ V M (gat (atP V a) 1 (one (vNp V) p (tbQ V (fKee a)))))) := by
  refine g_start (by decide) (Nat.le_of_ble_eq_true rfl) [(0, _), (1, _), (2, _)] rfl (fun z hfl C => ?_)
  have hx := K.1
  obtain ⟨w0, w1, w2, w3, w4⟩ := K.2.2.1.1
  have hnp := K.2.1.np
  have hnt := K.2.1.1.1
  refine g_aload_n C (gd DX9_keeps_0 0 rfl) 0 rfl rfl ?_
  refine g_iload_n C (gd DX9_keeps_0 1 rfl) 2 rfl rfl ?_
  refine g_cV1 (ci := 9) C [_] mX9_noAtoms lm_TestJudge_257 (by exact hx.1) rfl rfl (e_x_noAtoms hx hnt w0 a) hfl (by first | decide | omega) (by decide) (by omega) (by omega) rfl rfl (Nat.le_of_ble_eq_true rfl) (gd DX9_keeps_0 2 rfl) ?_
  by_cases a1 : 0 ≤ a ∧ a ≤ allF (nI (vNt V))
  rotate_left
  · rw [b1_t (show ¬ (0 ≤ a ∧ a ≤ allF (nI (vNt V))) from a1)]
    refine g_if_eq C 14 (gd DX9_keeps_0 3 rfl) (by decide) (fun c5 => ?_) (fun c5 => ?_)
    · exact absurd c5 (by decide)
    · refine g_aload_n C (gd DX9_keeps_0 4 rfl) 0 rfl rfl ?_
      refine g_iconst (v := 1) C (gd DX9_keeps_0 5 rfl) (by decide) ?_
      refine g_cV1 (ci := 9) C [_] mX9_refuse lm_TestJudge_90 (by exact hx.1) rfl rfl (e_x_refuse hx 1) hfl (by first | decide | omega) (by decide) (by omega) (by omega) rfl rfl (Nat.le_of_ble_eq_true rfl) (gd DX9_keeps_0 6 rfl) ?_
      exact g_iret C (by omega) (by omega) (aQ.r K hM rfl (Or.inl ⟨a1, rfl, rfl⟩)) (gd DX9_keeps_0 7 rfl)
  rw [b1_f (show ¬ ¬ (0 ≤ a ∧ a ≤ allF (nI (vNt V))) from fun q => q a1)]
  refine g_if_eq C 14 (gd DX9_keeps_0 3 rfl) (by decide) (fun c5 => ?_) (fun c5 => ?_)
  rotate_left
  · exact absurd rfl c5
  refine g_aload_n C (gd DX9_keeps_0 8 rfl) 0 rfl rfl ?_
  refine g_iload_n C (gd DX9_keeps_0 9 rfl) 1 rfl rfl ?_
  refine g_cV1 (ci := 9) C [_] mX9_lacks lm_TestJudge_154 (by exact hx.1) rfl rfl (e_x_lacks hx (by omega) w2 p) hfl (by first | decide | omega) (by decide) (by omega) (by omega) rfl rfl (Nat.le_of_ble_eq_true rfl) (gd DX9_keeps_0 10 rfl) ?_
  by_cases n1 : 0 ≤ p ∧ p ≤ nI (vNp V) - 1
  rotate_left
  · rw [b1_t (show ¬ (0 ≤ p ∧ p ≤ nI (vNp V) - 1) from n1)]
    refine g_if_eq C 28 (gd DX9_keeps_0 11 rfl) (by decide) (fun c19 => ?_) (fun c19 => ?_)
    · exact absurd c19 (by decide)
    · refine g_aload_n C (gd DX9_keeps_0 12 rfl) 0 rfl rfl ?_
      refine g_iconst (v := 2) C (gd DX9_keeps_0 13 rfl) (by decide) ?_
      refine g_cV1 (ci := 9) C [_] mX9_refuse lm_TestJudge_90 (by exact hx.1) rfl rfl (e_x_refuse hx 2) hfl (by first | decide | omega) (by decide) (by omega) (by omega) rfl rfl (Nat.le_of_ble_eq_true rfl) (gd DX9_keeps_0 14 rfl) ?_
      exact g_iret C (by omega) (by omega) (aQ.r K hM rfl (Or.inr ⟨a1, Or.inl ⟨n1, rfl, rfl⟩⟩)) (gd DX9_keeps_0 15 rfl)
  rw [b1_f (show ¬ ¬ (0 ≤ p ∧ p ≤ nI (vNp V) - 1) from fun q => q n1)]
  refine g_if_eq C 28 (gd DX9_keeps_0 11 rfl) (by decide) (fun c19 => ?_) (fun c19 => ?_)
  rotate_left
  · exact absurd rfl c19
  obtain ⟨r, hr, rfl⟩ := below_of (by omega) n1
  refine g_aload_n C (gd DX9_keeps_0 16 rfl) 0 rfl rfl ?_
  refine g_iload_n C (gd DX9_keeps_0 17 rfl) 1 rfl rfl ?_
  refine g_callV (ci := 9) C [_] mX9_tabulate lm_TestJudge_174 (by exact hx.1) rfl rfl (e_x_tabulate K hr) hfl (by first | decide | omega) (by decide) (by omega) (by omega) rfl rfl (Nat.le_of_ble_eq_true rfl) (gd DX9_keeps_0 18 rfl) (fun r g hp => ?_)
  obtain ⟨rfl, K1, k1, tb⟩ := hp
  show GW z w 5 _ _ _ _ _ [] _
  have hx1 := K1.1
  obtain ⟨n, o⟩ := tb.n
  have loop : ∀ y i, i + y = 9 → GW z w 5 (gQ z w 0 0 (fun r' h'' => aQ x (qQ V M (gat (atP V a) 1 (one (vNp V) (nI r) (tbQ V (fKee a))))) r' h'')) 0 0 38 [(0, .ref x), (1, .int (nI r)), (2, .int a), (3, .int (kp9 (fun i => hI g (x + 36 + i)) a i)), (4, .int (nI i))] [] g := by
    intro y
    induction y with
    | zero =>
      intro i hi
      have ei : i = 9 := hi
      subst ei
      refine g_iload C (gd DX9_keeps_0 23 rfl) 4 rfl ?_
      refine g_bipush (v := 8) C (gd DX9_keeps_0 24 rfl) (by decide) ?_
      refine g_icmp_gt C 61 (gd DX9_keeps_0 25 rfl) (by decide) (fun c42 => ?_) (fun c42 => ?_)
      · refine g_aload_n C (gd DX9_keeps_0 34 rfl) 0 rfl rfl ?_
        refine g_iload_n C (gd DX9_keeps_0 35 rfl) 3 rfl rfl ?_
        refine g_cV1 (ci := 9) C [_] mX9_allow lm_TestJudge_128 (by exact hx1.1) rfl rfl (e_x_allow hx1 _) hfl (by first | decide | omega) (by decide) (by omega) (by omega) rfl rfl (Nat.le_of_ble_eq_true rfl) (gd DX9_keeps_0 36 rfl) ?_
        exact g_iret C (by omega) (by omega) (aQ.q K hM rfl K1 k1 (Or.inr ⟨a1, Or.inr ⟨r, hr, rfl, _, tb, rfl, rfl⟩⟩)) (gd DX9_keeps_0 37 rfl)
      · exact absurd (show nI 9 > 8 by decide) c42
    | succ y ih =>
      intro i hi
      refine g_iload C (gd DX9_keeps_0 23 rfl) 4 rfl ?_
      refine g_bipush (v := 8) C (gd DX9_keeps_0 24 rfl) (by decide) ?_
      refine g_icmp_gt C 61 (gd DX9_keeps_0 25 rfl) (by decide) (fun c42 => ?_) (fun c42 => ?_)
      · exact absurd (show nI 8 < nI i from c42) (Int32.not_lt.mpr (nI_le (by omega) (by omega)))
      · refine g_aload_n C (gd DX9_keeps_0 26 rfl) 0 rfl rfl ?_
        refine g_getr (ci := 9) (k := 9) C rfl (by decide) rfl lf_TestJudge_57 hx1.1 hx1.2.2.2.2.2.2.1.1 (gd DX9_keeps_0 27 rfl) ?_
        refine g_iload_n C (gd DX9_keeps_0 28 rfl) 3 rfl rfl ?_
        refine g_iload_n C (gd DX9_keeps_0 29 rfl) 3 rfl rfl ?_
        refine GW.cast rfl rfl (tR_self (t := x + 36)).symm ?_
        refine g_cV1 (ci := 6) C [_, _] mX6_safeAtoms lm_TestJudge_266 (by exact hx1.2.2.2.2.2.2.1.2.1) rfl rfl (e_t_safeAtoms hx1.2.2.2.2.2.2.1.2 o _ _) hfl (by first | decide | omega) (by decide) (by omega) (by omega) rfl rfl (Nat.le_of_ble_eq_true rfl) (gd DX9_keeps_0 30 rfl) ?_
        rw [tR_self]
        refine g_istore_n (lv' := [(0, _), (1, _), (2, _), (3, _), (4, _)]) C (gd DX9_keeps_0 31 rfl) [1, 2, 3, 0, 4] rfl (by decide) rfl ?_
        refine g_iinc (lv' := [(0, _), (1, _), (2, _), (3, _), (4, _)]) C (gd DX9_keeps_0 32 rfl) 4 [1, 2, 3, 4, 0] rfl rfl (by decide) rfl ?_
        refine g_goto (tgt := 38) C (gd DX9_keeps_0 33 rfl) (by decide) ?_
        exact GW.cast (by rw [inc1]; rfl) rfl rfl (ih (i + 1) (by omega))
  refine g_iload_n C (gd DX9_keeps_0 19 rfl) 2 rfl rfl ?_
  refine g_istore_n (lv' := [(0, _), (1, _), (2, _), (3, _)]) C (gd DX9_keeps_0 20 rfl) [1, 2, 3, 0] rfl (by decide) rfl ?_
  refine g_iconst (v := 0) C (gd DX9_keeps_0 21 rfl) (by decide) ?_
  refine g_istore (lv' := [(0, _), (1, _), (2, _), (3, _), (4, _)]) C (gd DX9_keeps_0 22 rfl) [1, 2, 3, 4, 0] (by decide) rfl ?_
  exact loop 9 0 rfl
theorem e_x_uses (K : K0 x W h V RC) (hM : kvM x h M) (p k : Int32) : Ev w 7 0 0 yX9_uses cX9_uses 3 (some .int) [.ref x, .int p, .int k] h (aQ x (qQ V M (gat (0 ≤ k ∧ k ≤ 2) 1 (one (vNp V) p (tbQ V (fUse k)))))) := by
  refine g_start (by decide) (Nat.le_of_ble_eq_true rfl) [(0, _), (1, _), (2, _)] rfl (fun z hfl C => ?_)
  have hx := K.1
  obtain ⟨w0, w1, w2, w3, w4⟩ := K.2.2.1.1
  have hnp := K.2.1.np
  have k9 : ¬ (0 ≤ k ∧ k ≤ 2) → GW z w 3 (gQ z w 0 0 (fun r' h'' => aQ x (qQ V M (gat (0 ≤ k ∧ k ≤ 2) 1 (one (vNp V) p (tbQ V (fUse k))))) r' h'')) 0 0 9 [(0, .ref x), (1, .int p), (2, .int k)] [] h := by
    intro q
    refine g_aload_n C (gd DX9_uses_0 5 rfl) 0 rfl rfl ?_
    refine g_iconst (v := 1) C (gd DX9_uses_0 6 rfl) (by decide) ?_
    refine g_cV1 (ci := 9) C [_] mX9_refuse lm_TestJudge_90 (by exact hx.1) rfl rfl (e_x_refuse hx 1) hfl (by first | decide | omega) (by decide) (by omega) (by omega) rfl rfl (Nat.le_of_ble_eq_true rfl) (gd DX9_uses_0 7 rfl) ?_
    exact g_iret C (by omega) (by omega) (aQ.r K hM rfl (Or.inl ⟨q, rfl, rfl⟩)) (gd DX9_uses_0 8 rfl)
  refine g_iload_n C (gd DX9_uses_0 0 rfl) 2 rfl rfl ?_
  refine g_if_lt C 9 (gd DX9_uses_0 1 rfl) (by decide) (fun c1 => ?_) (fun c1 => ?_)
  · exact k9 (fun q => absurd q.1 (Int32.not_le.mpr c1))
  refine g_iload_n C (gd DX9_uses_0 2 rfl) 2 rfl rfl ?_
  refine g_iconst (v := 2) C (gd DX9_uses_0 3 rfl) (by decide) ?_
  refine g_icmp_le C 15 (gd DX9_uses_0 4 rfl) (by decide) (fun c6 => ?_) (fun c6 => ?_)
  rotate_left
  · exact k9 (fun q => c6 q.2)
  have hk : 0 ≤ k ∧ k ≤ 2 := ⟨Int32.not_lt.mp c1, c6⟩
  refine g_aload_n C (gd DX9_uses_0 9 rfl) 0 rfl rfl ?_
  refine g_iload_n C (gd DX9_uses_0 10 rfl) 1 rfl rfl ?_
  refine g_cV1 (ci := 9) C [_] mX9_lacks lm_TestJudge_154 (by exact hx.1) rfl rfl (e_x_lacks hx (by omega) w2 p) hfl (by first | decide | omega) (by decide) (by omega) (by omega) rfl rfl (Nat.le_of_ble_eq_true rfl) (gd DX9_uses_0 11 rfl) ?_
  by_cases n1 : 0 ≤ p ∧ p ≤ nI (vNp V) - 1
  rotate_left
  · rw [b1_t (show ¬ (0 ≤ p ∧ p ≤ nI (vNp V) - 1) from n1)]
    refine g_if_eq C 29 (gd DX9_uses_0 12 rfl) (by decide) (fun c20 => ?_) (fun c20 => ?_)
    · exact absurd c20 (by decide)
    · refine g_aload_n C (gd DX9_uses_0 13 rfl) 0 rfl rfl ?_
      refine g_iconst (v := 2) C (gd DX9_uses_0 14 rfl) (by decide) ?_
      refine g_cV1 (ci := 9) C [_] mX9_refuse lm_TestJudge_90 (by exact hx.1) rfl rfl (e_x_refuse hx 2) hfl (by first | decide | omega) (by decide) (by omega) (by omega) rfl rfl (Nat.le_of_ble_eq_true rfl) (gd DX9_uses_0 15 rfl) ?_
      exact g_iret C (by omega) (by omega) (aQ.r K hM rfl (Or.inr ⟨hk, Or.inl ⟨n1, rfl, rfl⟩⟩)) (gd DX9_uses_0 16 rfl)
  rw [b1_f (show ¬ ¬ (0 ≤ p ∧ p ≤ nI (vNp V) - 1) from fun q => q n1)]
  refine g_if_eq C 29 (gd DX9_uses_0 12 rfl) (by decide) (fun c20 => ?_) (fun c20 => ?_)
  rotate_left
  · exact absurd rfl c20
  obtain ⟨r, hr, rfl⟩ := below_of (by omega) n1
  refine g_aload_n C (gd DX9_uses_0 17 rfl) 0 rfl rfl ?_
  refine g_iload_n C (gd DX9_uses_0 18 rfl) 1 rfl rfl ?_
  refine g_callV (ci := 9) C [_] mX9_tabulate lm_TestJudge_174 (by exact hx.1) rfl rfl (e_x_tabulate K hr) hfl (by first | decide | omega) (by decide) (by omega) (by omega) rfl rfl (Nat.le_of_ble_eq_true rfl) (gd DX9_uses_0 19 rfl) (fun r g hp => ?_)
  obtain ⟨rfl, K1, k1, tb⟩ := hp
  show GW z w 3 _ _ _ _ _ [] _
  have hx1 := K1.1
  obtain ⟨n, o⟩ := tb.n
  refine g_iload_n C (gd DX9_uses_0 20 rfl) 2 rfl rfl ?_
  refine g_if_ne C 50 (gd DX9_uses_0 21 rfl) (by decide) (fun c35 => ?_) (fun c35 => ?_)
  rotate_left
  · have e0 : k = 0 := by first | exact c35 | exact Decidable.of_not_not c35
    refine g_aload_n C (gd DX9_uses_0 22 rfl) 0 rfl rfl ?_
    refine g_aload_n C (gd DX9_uses_0 23 rfl) 0 rfl rfl ?_
    refine g_getr (ci := 9) (k := 9) C rfl (by decide) rfl lf_TestJudge_57 hx1.1 hx1.2.2.2.2.2.2.1.1 (gd DX9_uses_0 24 rfl) ?_
    refine GW.cast rfl rfl (tR_self (t := x + 36)).symm ?_
    refine g_cV1 (ci := 6) C [] mX6_beginnings lm_TestJudge_177 (by exact hx1.2.2.2.2.2.2.1.2.1) rfl rfl (e_t_beginnings hx1.2.2.2.2.2.2.1.2 o) hfl (by first | decide | omega) (by decide) (by omega) (by omega) rfl rfl (Nat.le_of_ble_eq_true rfl) (gd DX9_uses_0 25 rfl) ?_
    rw [tR_self]
    refine g_cV1 (ci := 9) C [_] mX9_allow lm_TestJudge_128 (by exact hx1.1) rfl rfl (e_x_allow hx1 _) hfl (by first | decide | omega) (by decide) (by omega) (by omega) rfl rfl (Nat.le_of_ble_eq_true rfl) (gd DX9_uses_0 26 rfl) ?_
    exact g_iret C (by omega) (by omega) (aQ.q K hM rfl K1 k1 (Or.inr ⟨hk, Or.inr ⟨r, hr, rfl, _, tb, n, o, (if_pos e0).symm, rfl⟩⟩)) (gd DX9_uses_0 27 rfl)
  have n0 : ¬ k = 0 := c35
  refine g_aload_n C (gd DX9_uses_0 28 rfl) 0 rfl rfl ?_
  refine g_iload_n C (gd DX9_uses_0 29 rfl) 2 rfl rfl ?_
  refine g_iconst (v := 1) C (gd DX9_uses_0 30 rfl) (by decide) ?_
  refine g_icmp_ne C 66 (gd DX9_uses_0 31 rfl) (by decide) (fun c53 => ?_) (fun c53 => ?_)
  · have n1' : ¬ k = 1 := c53
    refine g_aload_n C (gd DX9_uses_0 36 rfl) 0 rfl rfl ?_
    refine g_getr (ci := 9) (k := 9) C rfl (by decide) rfl lf_TestJudge_57 hx1.1 hx1.2.2.2.2.2.2.1.1 (gd DX9_uses_0 37 rfl) ?_
    refine GW.cast rfl rfl (tR_self (t := x + 36)).symm ?_
    refine g_cV1 (ci := 6) C [] mX6_actsUsed lm_TestJudge_183 (by exact hx1.2.2.2.2.2.2.1.2.1) rfl rfl (e_t_actsUsed hx1.2.2.2.2.2.2.1.2 o) hfl (by first | decide | omega) (by decide) (by omega) (by omega) rfl rfl (Nat.le_of_ble_eq_true rfl) (gd DX9_uses_0 38 rfl) ?_
    rw [tR_self]
    refine g_cV1 (ci := 9) C [_] mX9_allow lm_TestJudge_128 (by exact hx1.1) rfl rfl (e_x_allow hx1 _) hfl (by first | decide | omega) (by decide) (by omega) (by omega) rfl rfl (Nat.le_of_ble_eq_true rfl) (gd DX9_uses_0 39 rfl) ?_
    exact g_iret C (by omega) (by omega) (aQ.q K hM rfl K1 k1 (Or.inr ⟨hk, Or.inr ⟨r, hr, rfl, _, tb, n, o, by rw [if_neg n0, if_neg n1'], rfl⟩⟩)) (gd DX9_uses_0 40 rfl)
  · have e1 : k = 1 := by first | exact c53 | exact Decidable.of_not_not c53
    refine g_aload_n C (gd DX9_uses_0 32 rfl) 0 rfl rfl ?_
    refine g_getr (ci := 9) (k := 9) C rfl (by decide) rfl lf_TestJudge_57 hx1.1 hx1.2.2.2.2.2.2.1.1 (gd DX9_uses_0 33 rfl) ?_
    refine GW.cast rfl rfl (tR_self (t := x + 36)).symm ?_
    refine g_cV1 (ci := 6) C [] mX6_endings lm_TestJudge_180 (by exact hx1.2.2.2.2.2.2.1.2.1) rfl rfl (e_t_endings hx1.2.2.2.2.2.2.1.2 o) hfl (by first | decide | omega) (by decide) (by omega) (by omega) rfl rfl (Nat.le_of_ble_eq_true rfl) (gd DX9_uses_0 34 rfl) ?_
    rw [tR_self]
    refine g_goto (tgt := 73) C (gd DX9_uses_0 35 rfl) (by decide) ?_
    refine g_cV1 (ci := 9) C [_] mX9_allow lm_TestJudge_128 (by exact hx1.1) rfl rfl (e_x_allow hx1 _) hfl (by first | decide | omega) (by decide) (by omega) (by omega) rfl rfl (Nat.le_of_ble_eq_true rfl) (gd DX9_uses_0 39 rfl) ?_
    exact g_iret C (by omega) (by omega) (aQ.q K hM rfl K1 k1 (Or.inr ⟨hk, Or.inr ⟨r, hr, rfl, _, tb, n, o, by rw [if_neg n0, if_pos e1], rfl⟩⟩)) (gd DX9_uses_0 40 rfl)
end X8
