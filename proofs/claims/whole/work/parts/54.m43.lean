/-! what actions keep, and how they go back: keeps(), undo -/
def shF (K : Nat → Int32) (t : Nat) : Nat → Int32 := fun j => if j < t then K (j + 2458) else K j
theorem shF_s (K : Nat → Int32) (t : Nat) : upd (shF K t) t (K (t + 2458)) = shF K (t + 1) := by
  funext j
  simp only [upd, shF]
  by_cases e : j = t
  · rw [if_pos e, if_pos (by omega), e]
  · rw [if_neg e]
    by_cases e2 : j < t
    · rw [if_pos e2, if_pos (by omega)]
    · rw [if_neg e2, if_neg (by omega)]
def cpF (K ρ : Nat → Int32) (a k : Nat) : Nat → Int32 := fun j => if 2458 * a ≤ j ∧ j < 2458 * a + k then ρ (j - 2458 * a) else K j
theorem cpF_s (K ρ : Nat → Int32) (a k : Nat) : upd (cpF K ρ a k) (2458 * a + k) (ρ k) = cpF K ρ a (k + 1) := by
  funext j
  simp only [upd, cpF]
  by_cases e : j = 2458 * a + k
  · rw [if_pos e, if_pos (by omega), e, show 2458 * a + k - 2458 * a = k by omega]
  · rw [if_neg e]
    by_cases e2 : 2458 * a ≤ j ∧ j < 2458 * a + k
    · rw [if_pos e2, if_pos (by omega)]
    · rw [if_neg e2, if_neg (by omega)]
theorem cpF_0 (K ρ : Nat → Int32) (a : Nat) : cpF K ρ a 0 = K := by
  funext j
  exact if_neg (by omega)
/-- one more kept: the programs' records, how many, what is assumed -/
def kpK (K ρ : Nat → Int32) (pr as : Int32) (a : Nat) : Nat → Int32 := upd (upd (cpF K ρ a 2456) (2458 * a + 2456) pr) (2458 * a + 2457) as
def unF (ρ K : Nat → Int32) (a k : Nat) : Nat → Int32 := fun j => if j < k then K (2458 * a + j) else ρ j
theorem unF_s (ρ K : Nat → Int32) (a k : Nat) : upd (unF ρ K a k) k (K (2458 * a + k)) = unF ρ K a (k + 1) := by
  funext j
  simp only [upd, unF]
  by_cases e : j = k
  · rw [if_pos e, if_pos (by omega), e]
  · rw [if_neg e]
    by_cases e2 : j < k
    · rw [if_pos e2, if_pos (by omega)]
    · rw [if_neg e2, if_neg (by omega)]
/-- the heap with a row kept and a number of actions -/
def kH (m : Nat) (h : HS) (K : Nat → Int32) (a : Nat) : HS := sI (sF h (m + 2) K) m 7 (nI a)
theorem kH_7 {m a : Nat} {h : HS} {K : Nat → Int32} : hI (kH m h K a) m 7 = nI a := by
  unfold kH
  rw [hI_sI, if_pos ⟨rfl, rfl⟩]
theorem kH_2 {m a : Nat} {h : HS} {K : Nat → Int32} : hI (kH m h K a) (m + 2) = K := by
  unfold kH
  rw [hI_sI_ne (by omega), hI_sF_eq]
theorem kH_ne {m a b j : Nat} {h : HS} {K : Nat → Int32} (h1 : b ≠ m + 2) (h2 : ¬ (b = m ∧ j = 7)) : hI (kH m h K a) b j = hI h b j := by
  unfold kH
  rw [hI_sI, if_neg h2, hI_sF_ne h1]
theorem kH_s {m a i : Nat} {h : HS} {K : Nat → Int32} {v : Int32} : sI (kH m h K a) (m + 2) i v = kH m h (upd K i v) a := by
  refine Prod.ext (funext fun b => funext fun j => ?_) rfl
  show hI _ b j = hI _ b j
  by_cases e : b = m + 2
  · subst e
    rw [kH_2, hI_sI, kH_2, upd]
    by_cases e2 : j = i
    · rw [if_pos ⟨rfl, e2⟩, if_pos e2]
    · rw [if_neg (fun q => e2 q.2), if_neg e2]
  · rw [hI_sI, if_neg (fun q => e q.1)]
    by_cases e2 : b = m ∧ j = 7
    · rw [e2.1, e2.2, kH_7, kH_7]
    · rw [kH_ne e e2, kH_ne e e2]
theorem kH_a {m a a' : Nat} {h : HS} {K : Nat → Int32} : sI (kH m h K a) m 7 (nI a') = kH m h K a' := by
  refine Prod.ext (funext fun b => funext fun j => ?_) rfl
  show hI _ b j = hI _ b j
  by_cases e2 : b = m ∧ j = 7
  · rw [e2.1, e2.2, kH_7, hI_sI, if_pos ⟨rfl, rfl⟩]
  · rw [hI_sI, if_neg e2]
    by_cases e : b = m + 2
    · rw [e, kH_2, kH_2]
    · rw [kH_ne e e2, kH_ne e e2]
theorem kH_self {m a : Nat} {h : HS} (e : hI h m 7 = nI a) : kH m h (hI h (m + 2)) a = h := by
  refine Prod.ext (funext fun b => funext fun j => ?_) rfl
  show hI _ b j = hI _ b j
  by_cases e2 : b = m ∧ j = 7
  · rw [e2.1, e2.2, kH_7, e]
  · by_cases e3 : b = m + 2
    · rw [e3, kH_2]
    · rw [kH_ne e3 e2]
section M43
variable {w : gD} {m : Nat} {h : HS}
theorem e_m_keeps_ (hm : mSh m h) {a : Nat} (ha : a ≤ 8) (h7 : hI h m 7 = nI a) : EvF w 0 0 0 yX10_keeps_ cX10_keeps_ 2 none [.ref m] h none (sI (kH m h (kpK (if a = 8 then shF (hI h (m + 2)) 17206 else hI h (m + 2)) (hI h (m + 1)) (hI h m 4) (hI h m 6) (if a = 8 then 7 else a)) ((if a = 8 then 7 else a) + 1)) m 14 (-1)) := by
  refine g_start (by decide) (Nat.le_of_ble_eq_true rfl) [(0, _)] rfl (fun z hfl C => ?_)
  generalize hQ : (gQ z w 0 0 _) = Q
  have main : ∀ K b, b ≤ 7 → sI (kH m h (kpK K (hI h (m + 1)) (hI h m 4) (hI h m 6) b) (b + 1)) m 14 (-1) = sI (kH m h (kpK (if a = 8 then shF (hI h (m + 2)) 17206 else hI h (m + 2)) (hI h (m + 1)) (hI h m 4) (hI h m 6) (if a = 8 then 7 else a)) ((if a = 8 then 7 else a) + 1)) m 14 (-1) → GW z w 2 Q 0 0 52 [(0, .ref m)] [] (kH m h K b) := by
    intro K b hb hfin
    have loop : ∀ y k, k + y = 2456 → GW z w 2 Q 0 0 54 [(0, .ref m), (1, .int (nI k))] [] (kH m h (cpF K (hI h (m + 1)) b k) b) := by
      intro y
      induction y with
      | zero =>
        intro k hk
        have hm3 : mSh m (kH m h (cpF K (hI h (m + 1)) b k) b) := hm
        refine g_iload_n C (gd DX10_keeps__0 29 rfl) 1 rfl rfl ?_
        refine g_sipush (v := 2456) C (gd DX10_keeps__0 30 rfl) (by decide) ?_
        refine g_icmp_ge C 88 (gd DX10_keeps__0 31 rfl) (by decide) (fun c58 => ?_) (fun c58 => ?_)
        · rw [show k = 2456 by omega] at *
          refine g_aload_n C (gd DX10_keeps__0 47 rfl) 0 rfl rfl ?_
          refine g_getr (ci := 10) (k := 8) C rfl (by decide) rfl lf_TestJudgeModel_13 hm3.1 (hm3.2 8 2 12 19664 rfl).1 (gd DX10_keeps__0 48 rfl) ?_
          refine g_sipush (v := 2458) C (gd DX10_keeps__0 49 rfl) (by decide) ?_
          refine g_aload_n C (gd DX10_keeps__0 50 rfl) 0 rfl rfl ?_
          refine g_geti (ci := 10) (k := 7) C rfl (by decide) rfl lf_TestJudgeModel_346 hm3.1 (gd DX10_keeps__0 51 rfl) ?_
          rw [kH_7]
          refine g_imul C (gd DX10_keeps__0 52 rfl) ?_
          refine g_sipush (v := 2458) C (gd DX10_keeps__0 53 rfl) (by decide) ?_
          refine g_iadd C (gd DX10_keeps__0 54 rfl) ?_
          refine g_iconst (v := 2) C (gd DX10_keeps__0 55 rfl) (by decide) ?_
          refine g_isub C (gd DX10_keeps__0 56 rfl) ?_
          refine g_aload_n C (gd DX10_keeps__0 57 rfl) 0 rfl rfl ?_
          refine g_geti (ci := 10) (k := 4) C rfl (by decide) rfl lf_TestJudgeModel_109 hm3.1 (gd DX10_keeps__0 58 rfl) ?_
          refine g_isj (j := (((2458 * b) + 2458) - 2)) C (hm3.2 8 2 12 19664 rfl).2.1 (hm3.2 8 2 12 19664 rfl).2.2 (by decide) (nx_sub (nx_add (nx_mul rfl rfl) rfl) rfl (by omega)) (by omega) (gd DX10_keeps__0 59 rfl) ?_
          rw [kH_s, kH_ne (by omega) (by omega), show 2458 * b + 2458 - 2 = 2458 * b + 2456 by omega]
          have hm4 : mSh m (kH m h (upd (cpF K (hI h (m + 1)) b 2456) (2458 * b + 2456) (hI h m 4)) b) := hm
          refine g_aload_n C (gd DX10_keeps__1 0 rfl) 0 rfl rfl ?_
          refine g_getr (ci := 10) (k := 8) C rfl (by decide) rfl lf_TestJudgeModel_13 hm4.1 (hm4.2 8 2 12 19664 rfl).1 (gd DX10_keeps__1 1 rfl) ?_
          refine g_sipush (v := 2458) C (gd DX10_keeps__1 2 rfl) (by decide) ?_
          refine g_aload_n C (gd DX10_keeps__1 3 rfl) 0 rfl rfl ?_
          refine g_geti (ci := 10) (k := 7) C rfl (by decide) rfl lf_TestJudgeModel_346 hm4.1 (gd DX10_keeps__1 4 rfl) ?_
          rw [kH_7]
          refine g_imul C (gd DX10_keeps__1 5 rfl) ?_
          refine g_sipush (v := 2458) C (gd DX10_keeps__1 6 rfl) (by decide) ?_
          refine g_iadd C (gd DX10_keeps__1 7 rfl) ?_
          refine g_iconst (v := 1) C (gd DX10_keeps__1 8 rfl) (by decide) ?_
          refine g_isub C (gd DX10_keeps__1 9 rfl) ?_
          refine g_aload_n C (gd DX10_keeps__1 10 rfl) 0 rfl rfl ?_
          refine g_geti (ci := 10) (k := 6) C rfl (by decide) rfl lf_TestJudgeModel_343 hm4.1 (gd DX10_keeps__1 11 rfl) ?_
          refine g_isj (j := (((2458 * b) + 2458) - 1)) C (hm4.2 8 2 12 19664 rfl).2.1 (hm4.2 8 2 12 19664 rfl).2.2 (by decide) (nx_sub (nx_add (nx_mul rfl rfl) rfl) rfl (by omega)) (by omega) (gd DX10_keeps__1 12 rfl) ?_
          rw [kH_s, kH_ne (by omega) (by omega), show 2458 * b + 2458 - 1 = 2458 * b + 2457 by omega]
          have hm5 : mSh m (kH m h (kpK K (hI h (m + 1)) (hI h m 4) (hI h m 6) b) b) := hm
          refine GW.cast rfl rfl (show _ = kH m h (kpK K (hI h (m + 1)) (hI h m 4) (hI h m 6) b) b from rfl) ?_
          refine g_aload_n C (gd DX10_keeps__1 13 rfl) 0 rfl rfl ?_
          refine g_dup C (gd DX10_keeps__1 14 rfl) rfl ?_
          refine g_geti (ci := 10) (k := 7) C rfl (by decide) rfl lf_TestJudgeModel_346 hm5.1 (gd DX10_keeps__1 15 rfl) ?_
          rw [kH_7]
          refine g_iconst (v := 1) C (gd DX10_keeps__1 16 rfl) (by decide) ?_
          refine g_iadd C (gd DX10_keeps__1 17 rfl) ?_
          refine g_puti (ci := 10) (k := 7) C rfl (by decide) rfl lf_TestJudgeModel_346 hm5.1 (Or.inl rfl) rfl (gd DX10_keeps__1 18 rfl) ?_
          refine GW.cast rfl rfl (show _ = kH m h (kpK K (hI h (m + 1)) (hI h m 4) (hI h m 6) b) (b + 1) by rw [show nI b + 1 = nI (b + 1) from inc1 b, kH_a]) ?_
          have hm6 : mSh m (kH m h (kpK K (hI h (m + 1)) (hI h m 4) (hI h m 6) b) (b + 1)) := hm
          refine g_aload_n C (gd DX10_keeps__1 19 rfl) 0 rfl rfl ?_
          refine g_iconst (v := -1) C (gd DX10_keeps__1 20 rfl) (by decide) ?_
          refine g_puti (ci := 10) (k := 14) C rfl (by decide) rfl lf_TestJudgeModel_26 hm6.1 (Or.inl rfl) rfl (gd DX10_keeps__1 21 rfl) ?_
          rw [hfin, ← hQ]
          exact g_vret C (by omega) (by omega) ⟨rfl, rfl⟩ (gd DX10_keeps__1 22 rfl)
        · exact absurd (nI_le (a := 2456) (b := k) (by omega) (by omega)) c58
      | succ y ih =>
        intro k hk
        have hm3 : mSh m (kH m h (cpF K (hI h (m + 1)) b k) b) := hm
        refine g_iload_n C (gd DX10_keeps__0 29 rfl) 1 rfl rfl ?_
        refine g_sipush (v := 2456) C (gd DX10_keeps__0 30 rfl) (by decide) ?_
        refine g_icmp_ge C 88 (gd DX10_keeps__0 31 rfl) (by decide) (fun c58 => ?_) (fun c58 => ?_)
        · exact absurd c58 (nI_ge (a := k) (b := 2456) (by omega) (by omega))
        · refine g_aload_n C (gd DX10_keeps__0 32 rfl) 0 rfl rfl ?_
          refine g_getr (ci := 10) (k := 8) C rfl (by decide) rfl lf_TestJudgeModel_13 hm3.1 (hm3.2 8 2 12 19664 rfl).1 (gd DX10_keeps__0 33 rfl) ?_
          refine g_sipush (v := 2458) C (gd DX10_keeps__0 34 rfl) (by decide) ?_
          refine g_aload_n C (gd DX10_keeps__0 35 rfl) 0 rfl rfl ?_
          refine g_geti (ci := 10) (k := 7) C rfl (by decide) rfl lf_TestJudgeModel_346 hm3.1 (gd DX10_keeps__0 36 rfl) ?_
          rw [kH_7]
          refine g_imul C (gd DX10_keeps__0 37 rfl) ?_
          refine g_iload_n C (gd DX10_keeps__0 38 rfl) 1 rfl rfl ?_
          refine g_iadd C (gd DX10_keeps__0 39 rfl) ?_
          refine g_aload_n C (gd DX10_keeps__0 40 rfl) 0 rfl rfl ?_
          refine g_getr (ci := 10) (k := 0) C rfl (by decide) rfl lf_TestJudgeModel_7 hm3.1 (hm3.2 0 1 12 31314 rfl).1 (gd DX10_keeps__0 41 rfl) ?_
          refine g_iload_n C (gd DX10_keeps__0 42 rfl) 1 rfl rfl ?_
          refine g_iaj (j := k) C (hm3.2 0 1 12 31314 rfl).2.1 (hm3.2 0 1 12 31314 rfl).2.2 (by decide) rfl (by omega) (gd DX10_keeps__0 43 rfl) ?_
          refine g_isj (j := ((2458 * b) + k)) C (hm3.2 8 2 12 19664 rfl).2.1 (hm3.2 8 2 12 19664 rfl).2.2 (by decide) (nx_add (nx_mul rfl rfl) rfl) (by omega) (gd DX10_keeps__0 44 rfl) ?_
          rw [kH_s]
          refine g_iinc (lv' := [(0, _), (1, _)]) C (gd DX10_keeps__0 45 rfl) 1 [1, 0] rfl rfl (by decide) rfl ?_
          refine g_goto (tgt := 54) C (gd DX10_keeps__0 46 rfl) (by decide) ?_
          refine GW.cast (by rw [inc1]) rfl ?_ (ih (k + 1) (by omega))
          rw [kH_ne (by omega) (by omega), cpF_s]
    refine g_iconst (v := 0) C (gd DX10_keeps__0 27 rfl) (by decide) ?_
    refine g_istore_n (lv' := [(0, _), (1, _)]) C (gd DX10_keeps__0 28 rfl) [1, 0] rfl (by decide) rfl ?_
    exact GW.cast rfl rfl (by rw [cpF_0]) (loop 2456 0 (by omega))
  refine g_aload_n C (gd DX10_keeps__0 0 rfl) 0 rfl rfl ?_
  refine g_geti (ci := 10) (k := 7) C rfl (by decide) rfl lf_TestJudgeModel_346 hm.1 (gd DX10_keeps__0 1 rfl) ?_
  rw [h7]
  refine g_bipush (v := 8) C (gd DX10_keeps__0 2 rfl) (by decide) ?_
  refine g_icmp_ne C 52 (gd DX10_keeps__0 3 rfl) (by decide) (fun c6 => ?_) (fun c6 => ?_)
  · have hne : ¬ a = 8 := fun q => c6 (by rw [q]; rfl)
    exact GW.cast rfl rfl (kH_self h7).symm (main (hI h (m + 2)) a (by omega) (by rw [if_neg hne, if_neg hne]))
  · have e8 : a = 8 := (nI_eq (b := 8) (by omega) (by decide)).mp c6
    subst e8
    have shift : ∀ y t, t + y = 17206 → GW z w 2 Q 0 0 13 [(0, .ref m), (1, .int (nI (2458 + t)))] [] (kH m h (shF (hI h (m + 2)) t) 8) := by
      intro y
      induction y with
      | zero =>
        intro t hty
        have hm3 : mSh m (kH m h (shF (hI h (m + 2)) t) 8) := hm
        refine g_iload_n C (gd DX10_keeps__0 6 rfl) 1 rfl rfl ?_
        refine g_sipush (v := 19664) C (gd DX10_keeps__0 7 rfl) (by decide) ?_
        refine g_icmp_ge C 42 (gd DX10_keeps__0 8 rfl) (by decide) (fun c17 => ?_) (fun c17 => ?_)
        · refine g_aload_n C (gd DX10_keeps__0 21 rfl) 0 rfl rfl ?_
          refine g_dup C (gd DX10_keeps__0 22 rfl) rfl ?_
          refine g_geti (ci := 10) (k := 7) C rfl (by decide) rfl lf_TestJudgeModel_346 hm3.1 (gd DX10_keeps__0 23 rfl) ?_
          rw [kH_7]
          refine g_iconst (v := 1) C (gd DX10_keeps__0 24 rfl) (by decide) ?_
          refine g_isub C (gd DX10_keeps__0 25 rfl) ?_
          refine g_puti (ci := 10) (k := 7) C rfl (by decide) rfl lf_TestJudgeModel_346 hm3.1 (Or.inl rfl) rfl (gd DX10_keeps__0 26 rfl) ?_
          refine GW.sub [0] rfl (Nat.le_refl _) (Nat.le_refl _) (lv' := [(0, _)]) ?_
          refine GW.cast rfl rfl ?_ (main (shF (hI h (m + 2)) 17206) 7 (by omega) (by rw [if_pos rfl, if_pos rfl]))
          rw [show nI 8 - 1 = nI 7 from rfl, kH_a, show t = 17206 by omega]
        · exact absurd (nI_le (a := 19664) (b := 2458 + t) (by omega) (by omega)) c17
      | succ y ih =>
        intro t hty
        have hm3 : mSh m (kH m h (shF (hI h (m + 2)) t) 8) := hm
        refine g_iload_n C (gd DX10_keeps__0 6 rfl) 1 rfl rfl ?_
        refine g_sipush (v := 19664) C (gd DX10_keeps__0 7 rfl) (by decide) ?_
        refine g_icmp_ge C 42 (gd DX10_keeps__0 8 rfl) (by decide) (fun c17 => ?_) (fun c17 => ?_)
        · exact absurd c17 (nI_ge (a := 2458 + t) (b := 19664) (by omega) (by omega))
        · refine g_aload_n C (gd DX10_keeps__0 9 rfl) 0 rfl rfl ?_
          refine g_getr (ci := 10) (k := 8) C rfl (by decide) rfl lf_TestJudgeModel_13 hm3.1 (hm3.2 8 2 12 19664 rfl).1 (gd DX10_keeps__0 10 rfl) ?_
          refine g_iload_n C (gd DX10_keeps__0 11 rfl) 1 rfl rfl ?_
          refine g_sipush (v := 2458) C (gd DX10_keeps__0 12 rfl) (by decide) ?_
          refine g_isub C (gd DX10_keeps__0 13 rfl) ?_
          refine g_aload_n C (gd DX10_keeps__0 14 rfl) 0 rfl rfl ?_
          refine g_getr (ci := 10) (k := 8) C rfl (by decide) rfl lf_TestJudgeModel_13 hm3.1 (hm3.2 8 2 12 19664 rfl).1 (gd DX10_keeps__0 15 rfl) ?_
          refine g_iload_n C (gd DX10_keeps__0 16 rfl) 1 rfl rfl ?_
          refine g_iaj (j := (2458 + t)) C (hm3.2 8 2 12 19664 rfl).2.1 (hm3.2 8 2 12 19664 rfl).2.2 (by decide) rfl (by omega) (gd DX10_keeps__0 17 rfl) ?_
          refine g_isj (j := ((2458 + t) - 2458)) C (hm3.2 8 2 12 19664 rfl).2.1 (hm3.2 8 2 12 19664 rfl).2.2 (by decide) (nx_sub rfl rfl (by omega)) (by omega) (gd DX10_keeps__0 18 rfl) ?_
          rw [kH_s, show 2458 + t - 2458 = t by omega]
          refine g_iinc (lv' := [(0, _), (1, _)]) C (gd DX10_keeps__0 19 rfl) 1 [1, 0] rfl rfl (by decide) rfl ?_
          refine g_goto (tgt := 13) C (gd DX10_keeps__0 20 rfl) (by decide) ?_
          refine GW.cast (by rw [inc1, Nat.add_assoc]) rfl ?_ (ih (t + 1) (by omega))
          rw [kH_2, show shF (hI h (m + 2)) t (2458 + t) = hI h (m + 2) (t + 2458) from by rw [shF, if_neg (by omega), Nat.add_comm 2458 t], shF_s]
    refine g_sipush (v := 2458) C (gd DX10_keeps__0 4 rfl) (by decide) ?_
    refine g_istore_n (lv' := [(0, _), (1, _)]) C (gd DX10_keeps__0 5 rfl) [1, 0] rfl (by decide) rfl ?_
    refine GW.cast rfl rfl ?_ (shift 17206 0 (by omega))
    have e0 : shF (hI h (m + 2)) 0 = hI h (m + 2) := by funext j; exact if_neg (by omega)
    rw [e0, kH_self h7]
theorem e_m_undo (hm : mSh m h) {a : Nat} (ha : a ≤ 8) (h7 : hI h m 7 = nI a) : Ev w 1 0 0 yX10_undo cX10_undo 2 (some .int) [.ref m] h (fun r' h' => (a = 0 ∧ r' = some (.int (-1)) ∧ h' = sI (sI h m 1 0) m 11 5) ∨ ∃ b, a = b + 1 ∧ r' = some (.int (nI b)) ∧ h' = sI (sI (sI (sI (sI (sF (sI h m 7 (nI b)) (m + 1) (unF (hI h (m + 1)) (hI h (m + 2)) b 2456)) m 4 (hI h (m + 2) (2458 * b + 2456))) m 6 (hI h (m + 2) (2458 * b + 2457))) m 14 (-1)) m 1 0) m 11 0) := by
  refine g_start (by decide) (Nat.le_of_ble_eq_true rfl) [(0, _)] rfl (fun z hfl C => ?_)
  refine g_aload_n C (gd DX10_undo_0 0 rfl) 0 rfl rfl ?_
  refine g_geti (ci := 10) (k := 7) C rfl (by decide) rfl lf_TestJudgeModel_346 hm.1 (gd DX10_undo_0 1 rfl) ?_
  rw [h7]
  refine g_if_ne C 13 (gd DX10_undo_0 2 rfl) (by decide) (fun c4 => ?_) (fun c4 => ?_)
  rotate_left
  · have h0 : a = 0 := Classical.byContradiction (fun q => absurd c4 (nI_ne0 (by omega) (by omega)))
    refine g_aload_n C (gd DX10_undo_0 3 rfl) 0 rfl rfl ?_
    refine g_iconst (v := 5) C (gd DX10_undo_0 4 rfl) (by decide) ?_
    refine g_cV1 (ci := 10) C [_] mX10_refuse lm_TestJudgeModel_331 (by exact hm.1) rfl rfl (e_m_refuse hm _) hfl (by decide) (by decide) (by omega) (by omega) rfl rfl (Nat.le_of_ble_eq_true rfl) (gd DX10_undo_0 5 rfl) ?_
    exact g_iret C (by omega) (by omega) (Or.inl ⟨h0, rfl, rfl⟩) (gd DX10_undo_0 6 rfl)
  obtain ⟨b, rfl⟩ : ∃ b, a = b + 1 := ⟨a - 1, by have : ¬ a = 0 := fun q => c4 (by rw [q]; rfl); omega⟩
  refine g_aload_n C (gd DX10_undo_0 7 rfl) 0 rfl rfl ?_
  refine g_dup C (gd DX10_undo_0 8 rfl) rfl ?_
  refine g_geti (ci := 10) (k := 7) C rfl (by decide) rfl lf_TestJudgeModel_346 hm.1 (gd DX10_undo_0 9 rfl) ?_
  rw [h7]
  refine g_iconst (v := 1) C (gd DX10_undo_0 10 rfl) (by decide) ?_
  refine g_isub C (gd DX10_undo_0 11 rfl) ?_
  refine g_puti (ci := 10) (k := 7) C rfl (by decide) rfl lf_TestJudgeModel_346 hm.1 (Or.inl rfl) rfl (gd DX10_undo_0 12 rfl) ?_
  rw [show nI (b + 1) - 1 = nI b from nx_sub (a := b + 1) (b := 1) rfl rfl (by omega)]
  generalize hQ : (gQ z w 0 0 _) = Q
  have loop : ∀ y k, k + y = 2456 → GW z w 2 Q 0 0 25 [(0, .ref m), (1, .int (nI k))] [] (sF (sI h m 7 (nI b)) (m + 1) (unF (hI h (m + 1)) (hI h (m + 2)) b k)) := by
    intro y
    induction y with
    | zero =>
      intro k hk
      generalize hh : sF (sI h m 7 (nI b)) (m + 1) (unF (hI h (m + 1)) (hI h (m + 2)) b k) = h3
      have e7 : hI h3 m 7 = nI b := by rw [← hh, hI_sF_ne (by omega), hI_sI, if_pos ⟨rfl, rfl⟩]
      have e2 : ∀ j, hI h3 (m + 2) j = hI h (m + 2) j := fun j => by rw [← hh, hI_sF_ne (by omega), hI_sI, if_neg (by omega)]
      have hm3 : mSh m h3 := by rw [← hh]; exact hm
      refine g_iload_n C (gd DX10_undo_0 15 rfl) 1 rfl rfl ?_
      refine g_sipush (v := 2456) C (gd DX10_undo_0 16 rfl) (by decide) ?_
      refine g_icmp_ge C 59 (gd DX10_undo_0 17 rfl) (by decide) (fun c29 => ?_) (fun c29 => ?_)
      · refine g_aload_n C (gd DX10_undo_0 33 rfl) 0 rfl rfl ?_
        refine g_aload_n C (gd DX10_undo_0 34 rfl) 0 rfl rfl ?_
        refine g_getr (ci := 10) (k := 8) C rfl (by decide) rfl lf_TestJudgeModel_13 hm3.1 (hm3.2 8 2 12 19664 rfl).1 (gd DX10_undo_0 35 rfl) ?_
        refine g_sipush (v := 2458) C (gd DX10_undo_0 36 rfl) (by decide) ?_
        refine g_aload_n C (gd DX10_undo_0 37 rfl) 0 rfl rfl ?_
        refine g_geti (ci := 10) (k := 7) C rfl (by decide) rfl lf_TestJudgeModel_346 hm3.1 (gd DX10_undo_0 38 rfl) ?_
        rw [e7]
        refine g_imul C (gd DX10_undo_0 39 rfl) ?_
        refine g_sipush (v := 2458) C (gd DX10_undo_0 40 rfl) (by decide) ?_
        refine g_iadd C (gd DX10_undo_0 41 rfl) ?_
        refine g_iconst (v := 2) C (gd DX10_undo_0 42 rfl) (by decide) ?_
        refine g_isub C (gd DX10_undo_0 43 rfl) ?_
        refine g_iaj (j := (((2458 * b) + 2458) - 2)) C (hm3.2 8 2 12 19664 rfl).2.1 (hm3.2 8 2 12 19664 rfl).2.2 (by decide) (nx_sub (nx_add (nx_mul rfl rfl) rfl) rfl (by omega)) (by omega) (gd DX10_undo_0 44 rfl) ?_
        rw [e2, show 2458 * b + 2458 - 2 = 2458 * b + 2456 by omega]
        refine g_puti (ci := 10) (k := 4) C rfl (by decide) rfl lf_TestJudgeModel_109 hm3.1 (Or.inl rfl) rfl (gd DX10_undo_0 45 rfl) ?_
        have hm4 : mSh m (sI h3 m 4 (hI h (m + 2) (2458 * b + 2456))) := hm3
        refine g_aload_n C (gd DX10_undo_0 46 rfl) 0 rfl rfl ?_
        refine g_aload_n C (gd DX10_undo_0 47 rfl) 0 rfl rfl ?_
        refine g_getr (ci := 10) (k := 8) C rfl (by decide) rfl lf_TestJudgeModel_13 hm4.1 (hm4.2 8 2 12 19664 rfl).1 (gd DX10_undo_0 48 rfl) ?_
        refine g_sipush (v := 2458) C (gd DX10_undo_0 49 rfl) (by decide) ?_
        refine g_aload_n C (gd DX10_undo_0 50 rfl) 0 rfl rfl ?_
        refine g_geti (ci := 10) (k := 7) C rfl (by decide) rfl lf_TestJudgeModel_346 hm4.1 (gd DX10_undo_0 51 rfl) ?_
        rw [show hI (sI h3 m 4 (hI h (m + 2) (2458 * b + 2456))) m 7 = nI b from by rw [hI_sI, if_neg (by omega)]; exact e7]
        refine g_imul C (gd DX10_undo_0 52 rfl) ?_
        refine g_sipush (v := 2458) C (gd DX10_undo_0 53 rfl) (by decide) ?_
        refine g_iadd C (gd DX10_undo_0 54 rfl) ?_
        refine g_iconst (v := 1) C (gd DX10_undo_0 55 rfl) (by decide) ?_
        refine g_isub C (gd DX10_undo_0 56 rfl) ?_
        refine g_iaj (j := (((2458 * b) + 2458) - 1)) C (hm4.2 8 2 12 19664 rfl).2.1 (hm4.2 8 2 12 19664 rfl).2.2 (by decide) (nx_sub (nx_add (nx_mul rfl rfl) rfl) rfl (by omega)) (by omega) (gd DX10_undo_0 57 rfl) ?_
        rw [show hI (sI h3 m 4 (hI h (m + 2) (2458 * b + 2456))) (m + 2) (2458 * b + 2458 - 1) = hI h (m + 2) (2458 * b + 2457) from by rw [hI_sI, if_neg (by omega), e2, show 2458 * b + 2458 - 1 = 2458 * b + 2457 by omega]]
        refine g_puti (ci := 10) (k := 6) C rfl (by decide) rfl lf_TestJudgeModel_343 hm4.1 (Or.inl rfl) rfl (gd DX10_undo_0 58 rfl) ?_
        refine g_aload_n C (gd DX10_undo_0 59 rfl) 0 rfl rfl ?_
        refine g_iconst (v := -1) C (gd DX10_undo_1 0 rfl) (by decide) ?_
        refine g_puti (ci := 10) (k := 14) C rfl (by decide) rfl lf_TestJudgeModel_26 hm4.1 (Or.inl rfl) rfl (gd DX10_undo_1 1 rfl) ?_
        refine g_aload_n C (gd DX10_undo_1 2 rfl) 0 rfl rfl ?_
        refine g_aload_n C (gd DX10_undo_1 3 rfl) 0 rfl rfl ?_
        refine g_geti (ci := 10) (k := 7) C rfl (by decide) rfl lf_TestJudgeModel_346 hm4.1 (gd DX10_undo_1 4 rfl) ?_
        have hm5 : mSh m (sI (sI (sI h3 m 4 (hI h (m + 2) (2458 * b + 2456))) m 6 (hI h (m + 2) (2458 * b + 2457))) m 14 (-1)) := hm3
        rw [show hI (sI (sI (sI h3 m 4 (hI h (m + 2) (2458 * b + 2456))) m 6 (hI h (m + 2) (2458 * b + 2457))) m 14 (-1)) m 7 = nI b from by rw [hI_sI, if_neg (by omega), hI_sI, if_neg (by omega), hI_sI, if_neg (by omega)]; exact e7]
        refine g_cV1 (ci := 10) C [_] mX10_gives lm_TestJudgeModel_349 (by exact hm5.1) rfl rfl (e_m_gives hm5 _) hfl (by decide) (by decide) (by omega) (by omega) rfl rfl (Nat.le_of_ble_eq_true rfl) (gd DX10_undo_1 5 rfl) ?_
        rw [← hQ]
        exact g_iret C (by omega) (by omega) (Or.inr ⟨b, rfl, rfl, by rw [← hh, show k = 2456 by omega]⟩) (gd DX10_undo_1 6 rfl)
      · exact absurd (nI_le (a := 2456) (b := k) (by omega) (by omega)) c29
    | succ y ih =>
      intro k hk
      generalize hh : sF (sI h m 7 (nI b)) (m + 1) (unF (hI h (m + 1)) (hI h (m + 2)) b k) = h3
      have e7 : hI h3 m 7 = nI b := by rw [← hh, hI_sF_ne (by omega), hI_sI, if_pos ⟨rfl, rfl⟩]
      have e2 : ∀ j, hI h3 (m + 2) j = hI h (m + 2) j := fun j => by rw [← hh, hI_sF_ne (by omega), hI_sI, if_neg (by omega)]
      have hm3 : mSh m h3 := by rw [← hh]; exact hm
      refine g_iload_n C (gd DX10_undo_0 15 rfl) 1 rfl rfl ?_
      refine g_sipush (v := 2456) C (gd DX10_undo_0 16 rfl) (by decide) ?_
      refine g_icmp_ge C 59 (gd DX10_undo_0 17 rfl) (by decide) (fun c29 => ?_) (fun c29 => ?_)
      · exact absurd c29 (nI_ge (a := k) (b := 2456) (by omega) (by omega))
      · refine g_aload_n C (gd DX10_undo_0 18 rfl) 0 rfl rfl ?_
        refine g_getr (ci := 10) (k := 0) C rfl (by decide) rfl lf_TestJudgeModel_7 hm3.1 (hm3.2 0 1 12 31314 rfl).1 (gd DX10_undo_0 19 rfl) ?_
        refine g_iload_n C (gd DX10_undo_0 20 rfl) 1 rfl rfl ?_
        refine g_aload_n C (gd DX10_undo_0 21 rfl) 0 rfl rfl ?_
        refine g_getr (ci := 10) (k := 8) C rfl (by decide) rfl lf_TestJudgeModel_13 hm3.1 (hm3.2 8 2 12 19664 rfl).1 (gd DX10_undo_0 22 rfl) ?_
        refine g_sipush (v := 2458) C (gd DX10_undo_0 23 rfl) (by decide) ?_
        refine g_aload_n C (gd DX10_undo_0 24 rfl) 0 rfl rfl ?_
        refine g_geti (ci := 10) (k := 7) C rfl (by decide) rfl lf_TestJudgeModel_346 hm3.1 (gd DX10_undo_0 25 rfl) ?_
        rw [e7]
        refine g_imul C (gd DX10_undo_0 26 rfl) ?_
        refine g_iload_n C (gd DX10_undo_0 27 rfl) 1 rfl rfl ?_
        refine g_iadd C (gd DX10_undo_0 28 rfl) ?_
        refine g_iaj (j := ((2458 * b) + k)) C (hm3.2 8 2 12 19664 rfl).2.1 (hm3.2 8 2 12 19664 rfl).2.2 (by decide) (nx_add (nx_mul rfl rfl) rfl) (by omega) (gd DX10_undo_0 29 rfl) ?_
        refine g_isj (j := k) C (hm3.2 0 1 12 31314 rfl).2.1 (hm3.2 0 1 12 31314 rfl).2.2 (by decide) rfl (by omega) (gd DX10_undo_0 30 rfl) ?_
        rw [e2]
        refine g_iinc (lv' := [(0, _), (1, _)]) C (gd DX10_undo_0 31 rfl) 1 [1, 0] rfl rfl (by decide) rfl ?_
        refine g_goto (tgt := 25) C (gd DX10_undo_0 32 rfl) (by decide) ?_
        refine GW.cast (by rw [inc1]) rfl ?_ (ih (k + 1) (by omega))
        rw [← hh, sI_sF_same, unF_s]
  refine g_iconst (v := 0) C (gd DX10_undo_0 13 rfl) (by decide) ?_
  refine g_istore_n (lv' := [(0, _), (1, _)]) C (gd DX10_undo_0 14 rfl) [1, 0] rfl (by decide) rfl ?_
  refine GW.cast rfl rfl ?_ (loop 2456 0 (by omega))
  have e0 : unF (hI h (m + 1)) (hI h (m + 2)) b 0 = hI (sI h m 7 (nI b)) (m + 1) := by funext j; rw [hI_sI, if_neg (by omega)]; exact if_neg (by omega)
  rw [e0, sF_self]
end M43
