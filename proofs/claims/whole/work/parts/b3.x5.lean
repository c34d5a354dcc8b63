/-! The class's questions: same, kinds, both, count, needs, fewest -/
def qKin (V : aV) (v st : Int32) : Prop := v = nI (kdN (fun p t => kEq (vP2 V (vS V) t p)) (vNp V)) ∧ st = 0
/-- a question with a long -/
def qL (V : aV) (M : aM) (Q : Int64 → Int32 → Prop) (v : Value) (V' : aV) (M' : aM) : Prop := ∃ i st, v = .long i ∧ Q i st ∧ V' = V ∧ M' = mSt M st
def twoL (n : Nat) (p o : Int32) (Q : Nat → Nat → Int64 → Int32 → Prop) (v : Int64) (st : Int32) : Prop := (¬ (inP n p ∧ inP n o) ∧ v = (-1 : Int32).toInt64 ∧ st = 2) ∨ ∃ r q, r < n ∧ q < n ∧ p = nI r ∧ o = nI q ∧ Q r q v st
def gatL (c : Prop) (k : Int32) (Q : Int64 → Int32 → Prop) (v : Int64) (st : Int32) : Prop := (¬ c ∧ v = (-1 : Int32).toInt64 ∧ st = k) ∨ (c ∧ Q v st)
noncomputable def qBth (V : aV) (k : Int32) (r q : Nat) (v : Int64) (st : Int32) : Prop := v = gWn (kSg (vP2 V (vS V) r q) 1) (cE (vP2 V (vS V) r q)) k.toNatClampNeg BEG ∧ st = 0
def clr (s f : Nat) : Nat := (nI s &&& (1 <<< (nI f &&& 31) ^^^ -1)).toNatClampNeg
theorem clr_e : ∀ s, s < 4 → ∀ f, f < 2 → nI s &&& (1 <<< (nI f &&& 31) ^^^ -1) = nI (clr s f) ∧ clr s f < 4 := by decide
def qNee (V : aV) (r q : Nat) (v st : Int32) : Prop := (¬ kEq (vP2 V (vS V) r q) ∧ v = -1 ∧ st = 5) ∨ (kEq (vP2 V (vS V) r q) ∧ v = bitF (fun f => hasB (nI (vS V)) (nI f) ∧ ¬ kEq (vP2 V (clr (vS V) f) r q)) (vNf V) ∧ st = 0)
def qFew (V : aV) (r q : Nat) (v st : Int32) : Prop := (∃ k, k < 2 ^ vNf V ∧ kEq (vP2 V k r q) ∧ (∀ t, t < k → ¬ kEq (vP2 V t r q)) ∧ v = nI k ∧ st = 0) ∨ ((∀ t, t < 2 ^ vNf V → ¬ kEq (vP2 V t r q)) ∧ v = -1 ∧ st = 5)
theorem vOK.nf {V : aV} (h : vOK V) : vNf V ≤ 2 := h.1.2.2.1
theorem pop4 : ∀ j, j < 4 → ∃ b, b ≤ 2 ∧ bcF (nI j) = nI b ∧ (∀ t, t < j → ∃ c, c ≤ b ∧ bcF (nI t) = nI c) := by
  intro j hj
  rcases (show j = 0 ∨ j = 1 ∨ j = 2 ∨ j = 3 by omega) with rfl | rfl | rfl | rfl
  · exact ⟨0, by decide, by decide, fun t ht => absurd ht (Nat.not_lt_zero _)⟩
  · refine ⟨1, by decide, by decide, fun t ht => ?_⟩
    have e : t = 0 := by omega
    subst e
    exact ⟨0, by decide, by decide⟩
  · refine ⟨1, by decide, by decide, fun t ht => ?_⟩
    rcases (show t = 0 ∨ t = 1 by omega) with rfl | rfl
    · exact ⟨0, by decide, by decide⟩
    · exact ⟨1, by decide, by decide⟩
  · refine ⟨2, by decide, by decide, fun t ht => ?_⟩
    rcases (show t = 0 ∨ t = 1 ∨ t = 2 by omega) with rfl | rfl | rfl
    · exact ⟨0, by decide, by decide⟩
    · exact ⟨1, by decide, by decide⟩
    · exact ⟨1, by decide, by decide⟩
section X5
variable {w : gD} {x W : Nat} {h : HS} {V : aV} {RC : Nat → Nat → Int32} {M : aM}
theorem e_x_same (K : K0 x W h V RC) (hM : kvM x h M) (p : Int32) : Ev w 7 0 0 yX9_same cX9_same 2 (some .int) [.ref x, .int p] h (aQ x (qQ V M (one (vNp V) p (qSam V)))) := by
  refine g_start (by decide) (Nat.le_of_ble_eq_true rfl) [(0, _), (1, _)] rfl (fun z hfl C => ?_)
  have hx := K.1
  obtain ⟨w0, w1, w2, w3, w4⟩ := K.2.2.1.1
  have hnp := K.2.1.np
  refine g_aload_n C (gd DX9_same_0 0 rfl) 0 rfl rfl ?_
  refine g_iload_n C (gd DX9_same_0 1 rfl) 1 rfl rfl ?_
  refine g_cV1 (ci := 9) C [_] mX9_lacks lm_TestJudge_154 (by exact hx.1) rfl rfl (e_x_lacks hx (by omega) w2 p) hfl (by first | decide | omega) (by decide) (by omega) (by omega) rfl rfl (Nat.le_of_ble_eq_true rfl) (gd DX9_same_0 2 rfl) ?_
  by_cases n1 : 0 ≤ p ∧ p ≤ nI (vNp V) - 1
  rotate_left
  · rw [b1_t (show ¬ (0 ≤ p ∧ p ≤ nI (vNp V) - 1) from n1)]
    refine g_if_eq C 14 (gd DX9_same_0 3 rfl) (by decide) (fun c5 => ?_) (fun c5 => ?_)
    · exact absurd c5 (by decide)
    · refine g_aload_n C (gd DX9_same_0 4 rfl) 0 rfl rfl ?_
      refine g_iconst (v := 2) C (gd DX9_same_0 5 rfl) (by decide) ?_
      refine g_cV1 (ci := 9) C [_] mX9_refuse lm_TestJudge_90 (by exact hx.1) rfl rfl (e_x_refuse hx 2) hfl (by first | decide | omega) (by decide) (by omega) (by omega) rfl rfl (Nat.le_of_ble_eq_true rfl) (gd DX9_same_0 6 rfl) ?_
      exact g_iret C (by omega) (by omega) (aQ.r K hM rfl (Or.inl ⟨n1, rfl, rfl⟩)) (gd DX9_same_0 7 rfl)
  rw [b1_f (show ¬ ¬ (0 ≤ p ∧ p ≤ nI (vNp V) - 1) from fun q => q n1)]
  refine g_if_eq C 14 (gd DX9_same_0 3 rfl) (by decide) (fun c5 => ?_) (fun c5 => ?_)
  rotate_left
  · exact absurd rfl c5
  obtain ⟨r, hr, rfl⟩ := below_of (by omega) n1
  refine g_aload_n C (gd DX9_same_0 8 rfl) 0 rfl rfl ?_
  refine g_aload_n C (gd DX9_same_0 9 rfl) 0 rfl rfl ?_
  refine g_iload_n C (gd DX9_same_0 10 rfl) 1 rfl rfl ?_
  refine g_callV (ci := 9) C [_] mX9_leastAlike lm_TestJudge_222 (by exact hx.1) rfl rfl (e_x_leastAlike K hr) hfl (by first | decide | omega) (by decide) (by omega) (by omega) rfl rfl (Nat.le_of_ble_eq_true rfl) (gd DX9_same_0 11 rfl) (fun r g hp => ?_)
  obtain ⟨K2, k2, o, o1, o2, o3, rfl⟩ := hp
  have hx2 := K2.1
  show GW z w 2 _ _ _ _ _ (.int (nI o) :: _) _
  refine g_cV1 (ci := 9) C [_] mX9_allow lm_TestJudge_128 (by exact hx2.1) rfl rfl (e_x_allow hx2 _) hfl (by first | decide | omega) (by decide) (by omega) (by omega) rfl rfl (Nat.le_of_ble_eq_true rfl) (gd DX9_same_0 12 rfl) ?_
  exact g_iret C (by omega) (by omega) (aQ.q K hM rfl K2 k2 (Or.inr ⟨r, hr, rfl, ⟨o, o1, o2, o3, rfl⟩, rfl⟩)) (gd DX9_same_0 13 rfl)
theorem e_x_kinds (K : K0 x W h V RC) (hM : kvM x h M) : Ev w 7 0 0 yX9_kinds cX9_kinds 3 (some .int) [.ref x] h (aQ x (qQ V M (qKin V))) := by
  refine g_start (by decide) (Nat.le_of_ble_eq_true rfl) [(0, _)] rfl (fun z hfl C => ?_)
  have hnp := K.2.1.np
  have loop : ∀ y i g, i + y = vNp V → K0 x W g V RC → qKp x h g → GW z w 3 (gQ z w 0 0 (fun r' h'' => aQ x (qQ V M (qKin V)) r' h'')) 0 0 4 [(0, .ref x), (1, .int (nI (kdN (fun p t => kEq (vP2 V (vS V) t p)) i))), (2, .int (nI i))] [] g := by
    intro y
    induction y with
    | zero =>
      intro i g hi K1 k1
      have ei : i = vNp V := by omega
      have hx := K1.1
      have w2 := K1.2.2.1.1.2.2.1
      refine g_iload_n C (gd DX9_kinds_0 4 rfl) 2 rfl rfl ?_
      refine g_aload_n C (gd DX9_kinds_0 5 rfl) 0 rfl rfl ?_
      refine g_getr (ci := 9) (k := 6) C rfl (by decide) rfl lf_TestJudge_36 hx.1 hx.2.2.2.1.1 (gd DX9_kinds_0 6 rfl) ?_
      refine g_geti (ci := 8) (k := 2) C rfl (by decide) rfl lf_TestJudge_125 hx.2.2.2.1.2.1 (gd DX9_kinds_0 7 rfl) ?_
      rw [w2]
      refine g_icmp_ge C 41 (gd DX9_kinds_0 8 rfl) (by decide) (fun c12 => ?_) (fun c12 => ?_)
      · refine g_aload_n C (gd DX9_kinds_0 23 rfl) 0 rfl rfl ?_
        refine g_iload_n C (gd DX9_kinds_0 24 rfl) 1 rfl rfl ?_
        refine g_cV1 (ci := 9) C [_] mX9_allow lm_TestJudge_128 (by exact hx.1) rfl rfl (e_x_allow hx _) hfl (by first | decide | omega) (by decide) (by omega) (by omega) rfl rfl (Nat.le_of_ble_eq_true rfl) (gd DX9_kinds_0 25 rfl) ?_
        exact g_iret C (by omega) (by omega) (aQ.q K hM rfl K1 k1 ⟨by rw [ei], rfl⟩) (gd DX9_kinds_0 26 rfl)
      · exact absurd (by rw [ei]; exact nI_le (Nat.le_refl _) (by omega)) c12
    | succ y ih =>
      intro i g hi K1 k1
      have hx := K1.1
      have w2 := K1.2.2.1.1.2.2.1
      refine g_iload_n C (gd DX9_kinds_0 4 rfl) 2 rfl rfl ?_
      refine g_aload_n C (gd DX9_kinds_0 5 rfl) 0 rfl rfl ?_
      refine g_getr (ci := 9) (k := 6) C rfl (by decide) rfl lf_TestJudge_36 hx.1 hx.2.2.2.1.1 (gd DX9_kinds_0 6 rfl) ?_
      refine g_geti (ci := 8) (k := 2) C rfl (by decide) rfl lf_TestJudge_125 hx.2.2.2.1.2.1 (gd DX9_kinds_0 7 rfl) ?_
      rw [w2]
      refine g_icmp_ge C 41 (gd DX9_kinds_0 8 rfl) (by decide) (fun c12 => ?_) (fun c12 => ?_)
      · exact absurd c12 (nI_ge (a := i) (b := vNp V) (by omega) (by omega))
      · refine g_iload_n C (gd DX9_kinds_0 9 rfl) 1 rfl rfl ?_
        refine g_aload_n C (gd DX9_kinds_0 10 rfl) 0 rfl rfl ?_
        refine g_iload_n C (gd DX9_kinds_0 11 rfl) 2 rfl rfl ?_
        refine g_callV (ci := 9) C [_] mX9_leastAlike lm_TestJudge_222 (by exact hx.1) rfl rfl (e_x_leastAlike K1 (show i < vNp V by omega)) hfl (by first | decide | omega) (by decide) (by omega) (by omega) rfl rfl (Nat.le_of_ble_eq_true rfl) (gd DX9_kinds_0 12 rfl) (fun r g2 hp => ?_)
        obtain ⟨K2, k2, o, o1, o2, o3, rfl⟩ := hp
        have hx2 := K2.1
        show GW z w 3 _ _ _ _ _ (.int (nI o) :: _) _
        refine g_iload_n C (gd DX9_kinds_0 13 rfl) 2 rfl rfl ?_
        refine g_icmp_ne C 29 (gd DX9_kinds_0 14 rfl) (by decide) (fun c22 => ?_) (fun c22 => ?_)
        · have ne : o ≠ i := fun q => c22 (by rw [q])
          have no : ¬ ∀ t, t < i → ¬ kEq (vP2 V (vS V) t i) := by
            rcases o2 with e | e
            · exact absurd e ne
            · exact fun q => q o (by omega) e
          refine g_iconst (v := 0) C (gd DX9_kinds_0 17 rfl) (by decide) ?_
          refine g_cS1 C [_] mX9_bit lm_TestJudge_164 (e_x_bit (Or.inl rfl)) hfl (by first | decide | omega) (by decide) (by omega) (by omega) rfl rfl (Nat.le_of_ble_eq_true rfl) (gd DX9_kinds_0 18 rfl) ?_
          refine g_iadd C (gd DX9_kinds_0 19 rfl) ?_
          rw [show nI (kdN (fun p t => kEq (vP2 V (vS V) t p)) i) + 0 = nI (kdN (fun p t => kEq (vP2 V (vS V) t p)) (i + 1)) from (nx_add (b := 0) rfl rfl).trans (by rw [kdN_f no])]
          refine g_istore_n (lv' := [(0, _), (1, _), (2, _)]) C (gd DX9_kinds_0 20 rfl) [1, 0, 2] rfl (by decide) rfl ?_
          refine g_iinc (lv' := [(0, _), (1, _), (2, _)]) C (gd DX9_kinds_0 21 rfl) 2 [1, 2, 0] rfl rfl (by decide) rfl ?_
          refine g_goto (tgt := 4) C (gd DX9_kinds_0 22 rfl) (by decide) ?_
          exact GW.cast (by rw [inc1]) rfl rfl (ih (i + 1) g2 (by omega) K2 (k1.tr k2))
        · have eq : o = i := (nI_eq (by omega) (by omega)).mp (by first | exact c22 | exact Decidable.of_not_not c22)
          subst eq
          refine g_iconst (v := 1) C (gd DX9_kinds_0 15 rfl) (by decide) ?_
          refine g_goto (tgt := 30) C (gd DX9_kinds_0 16 rfl) (by decide) ?_
          refine g_cS1 C [_] mX9_bit lm_TestJudge_164 (e_x_bit (Or.inr rfl)) hfl (by first | decide | omega) (by decide) (by omega) (by omega) rfl rfl (Nat.le_of_ble_eq_true rfl) (gd DX9_kinds_0 18 rfl) ?_
          refine g_iadd C (gd DX9_kinds_0 19 rfl) ?_
          rw [show nI (kdN (fun p t => kEq (vP2 V (vS V) t p)) o) + 1 = nI (kdN (fun p t => kEq (vP2 V (vS V) t p)) (o + 1)) from (nx_add (b := 1) rfl rfl).trans (by rw [kdN_t o3])]
          refine g_istore_n (lv' := [(0, _), (1, _), (2, _)]) C (gd DX9_kinds_0 20 rfl) [1, 0, 2] rfl (by decide) rfl ?_
          refine g_iinc (lv' := [(0, _), (1, _), (2, _)]) C (gd DX9_kinds_0 21 rfl) 2 [1, 2, 0] rfl rfl (by decide) rfl ?_
          refine g_goto (tgt := 4) C (gd DX9_kinds_0 22 rfl) (by decide) ?_
          exact GW.cast (by rw [inc1]) rfl rfl (ih (o + 1) g2 (by omega) K2 (k1.tr k2))
  refine g_iconst (v := 0) C (gd DX9_kinds_0 0 rfl) (by decide) ?_
  refine g_istore_n (lv' := [(0, _), (1, _)]) C (gd DX9_kinds_0 1 rfl) [1, 0] rfl (by decide) rfl ?_
  refine g_iconst (v := 0) C (gd DX9_kinds_0 2 rfl) (by decide) ?_
  refine g_istore_n (lv' := [(0, _), (1, _), (2, _)]) C (gd DX9_kinds_0 3 rfl) [1, 2, 0] rfl (by decide) rfl ?_
  exact loop (vNp V) 0 h (by omega) K (qKp.rf x h)
theorem e_x_needs (K : K0 x W h V RC) (hM : kvM x h M) (p o : Int32) : Ev w 7 0 0 yX9_needs cX9_needs 7 (some .int) [.ref x, .int p, .int o] h (aQ x (qQ V M (two (vNp V) p o (qNee V)))) := by
  refine g_start (by decide) (Nat.le_of_ble_eq_true rfl) [(0, _), (1, _), (2, _)] rfl (fun z hfl C => ?_)
  have hx := K.1
  obtain ⟨w0, w1, w2, w3, w4⟩ := K.2.2.1.1
  have hnp := K.2.1.np
  have hs4 := K.2.1.s4
  have hnf := K.2.1.nf
  refine g_aload_n C (gd DX9_needs_0 0 rfl) 0 rfl rfl ?_
  refine g_iload_n C (gd DX9_needs_0 1 rfl) 1 rfl rfl ?_
  refine g_cV1 (ci := 9) C [_] mX9_lacks lm_TestJudge_154 (by exact hx.1) rfl rfl (e_x_lacks hx (by omega) w2 p) hfl (by first | decide | omega) (by decide) (by omega) (by omega) rfl rfl (Nat.le_of_ble_eq_true rfl) (gd DX9_needs_0 2 rfl) ?_
  by_cases n1 : 0 ≤ p ∧ p ≤ nI (vNp V) - 1
  rotate_left
  · rw [b1_t (show ¬ (0 ≤ p ∧ p ≤ nI (vNp V) - 1) from n1)]
    refine g_if_ne C 16 (gd DX9_needs_0 3 rfl) (by decide) (fun c5 => ?_) (fun c5 => ?_)
    · refine g_aload_n C (gd DX9_needs_0 8 rfl) 0 rfl rfl ?_
      refine g_iconst (v := 2) C (gd DX9_needs_0 9 rfl) (by decide) ?_
      refine g_cV1 (ci := 9) C [_] mX9_refuse lm_TestJudge_90 (by exact hx.1) rfl rfl (e_x_refuse hx 2) hfl (by first | decide | omega) (by decide) (by omega) (by omega) rfl rfl (Nat.le_of_ble_eq_true rfl) (gd DX9_needs_0 10 rfl) ?_
      exact g_iret C (by omega) (by omega) (aQ.r K hM rfl (Or.inl ⟨fun q => n1 q.1, rfl, rfl⟩)) (gd DX9_needs_0 11 rfl)
    · exact absurd c5 (by decide)
  rw [b1_f (show ¬ ¬ (0 ≤ p ∧ p ≤ nI (vNp V) - 1) from fun q => q n1)]
  refine g_if_ne C 16 (gd DX9_needs_0 3 rfl) (by decide) (fun c5 => ?_) (fun c5 => ?_)
  · exact absurd rfl c5
  refine g_aload_n C (gd DX9_needs_0 4 rfl) 0 rfl rfl ?_
  refine g_iload_n C (gd DX9_needs_0 5 rfl) 2 rfl rfl ?_
  refine g_cV1 (ci := 9) C [_] mX9_lacks lm_TestJudge_154 (by exact hx.1) rfl rfl (e_x_lacks hx (by omega) w2 o) hfl (by first | decide | omega) (by decide) (by omega) (by omega) rfl rfl (Nat.le_of_ble_eq_true rfl) (gd DX9_needs_0 6 rfl) ?_
  by_cases n2 : 0 ≤ o ∧ o ≤ nI (vNp V) - 1
  rotate_left
  · rw [b1_t (show ¬ (0 ≤ o ∧ o ≤ nI (vNp V) - 1) from n2)]
    refine g_if_eq C 22 (gd DX9_needs_0 7 rfl) (by decide) (fun c13 => ?_) (fun c13 => ?_)
    · exact absurd c13 (by decide)
    · refine g_aload_n C (gd DX9_needs_0 8 rfl) 0 rfl rfl ?_
      refine g_iconst (v := 2) C (gd DX9_needs_0 9 rfl) (by decide) ?_
      refine g_cV1 (ci := 9) C [_] mX9_refuse lm_TestJudge_90 (by exact hx.1) rfl rfl (e_x_refuse hx 2) hfl (by first | decide | omega) (by decide) (by omega) (by omega) rfl rfl (Nat.le_of_ble_eq_true rfl) (gd DX9_needs_0 10 rfl) ?_
      exact g_iret C (by omega) (by omega) (aQ.r K hM rfl (Or.inl ⟨fun q => n2 q.2, rfl, rfl⟩)) (gd DX9_needs_0 11 rfl)
  rw [b1_f (show ¬ ¬ (0 ≤ o ∧ o ≤ nI (vNp V) - 1) from fun q => q n2)]
  refine g_if_eq C 22 (gd DX9_needs_0 7 rfl) (by decide) (fun c13 => ?_) (fun c13 => ?_)
  rotate_left
  · exact absurd rfl c13
  obtain ⟨r, hr, rfl⟩ := below_of (by omega) n1
  obtain ⟨q, hq, rfl⟩ := below_of (by omega) n2
  refine g_aload_n C (gd DX9_needs_0 12 rfl) 0 rfl rfl ?_
  refine g_getr (ci := 9) (k := 6) C rfl (by decide) rfl lf_TestJudge_36 hx.1 hx.2.2.2.1.1 (gd DX9_needs_0 13 rfl) ?_
  refine g_geti (ci := 8) (k := 4) C rfl (by decide) rfl lf_TestJudge_144 hx.2.2.2.1.2.1 (gd DX9_needs_0 14 rfl) ?_
  rw [w4]
  refine g_istore_n (lv' := [(0, _), (1, _), (2, _), (3, _)]) C (gd DX9_needs_0 15 rfl) [1, 2, 3, 0] rfl (by decide) rfl ?_
  refine g_aload_n C (gd DX9_needs_0 16 rfl) 0 rfl rfl ?_
  refine g_iload_n C (gd DX9_needs_0 17 rfl) 3 rfl rfl ?_
  refine g_iload_n C (gd DX9_needs_0 18 rfl) 1 rfl rfl ?_
  refine g_iload_n C (gd DX9_needs_0 19 rfl) 2 rfl rfl ?_
  refine g_callV (ci := 9) C [_, _, _] mX9_alike lm_TestJudge_214 (by exact hx.1) rfl rfl (e_x_alike K hs4 hr hq) hfl (by first | decide | omega) (by decide) (by omega) (by omega) rfl rfl (Nat.le_of_ble_eq_true rfl) (gd DX9_needs_0 20 rfl) (fun r g hp => ?_)
  obtain ⟨K2, k2, hp⟩ := hp
  have hx2 := K2.1
  rcases hp with ⟨rfl, eq⟩ | ⟨rfl, ne, -⟩
  rotate_left
  · show GW z w 7 _ _ _ _ _ (.int 0 :: _) _
    refine g_if_ne C 46 (gd DX9_needs_0 21 rfl) (by decide) (fun c37 => ?_) (fun c37 => ?_)
    · exact absurd rfl c37
    · refine g_aload_n C (gd DX9_needs_0 22 rfl) 0 rfl rfl ?_
      refine g_iconst (v := 5) C (gd DX9_needs_0 23 rfl) (by decide) ?_
      refine g_cV1 (ci := 9) C [_] mX9_refuse lm_TestJudge_90 (by exact hx2.1) rfl rfl (e_x_refuse hx2 5) hfl (by first | decide | omega) (by decide) (by omega) (by omega) rfl rfl (Nat.le_of_ble_eq_true rfl) (gd DX9_needs_0 24 rfl) ?_
      exact g_iret C (by omega) (by omega) (aQ.q K hM rfl K2 k2 (Or.inr ⟨r, q, hr, hq, rfl, rfl, Or.inl ⟨ne, rfl, rfl⟩⟩)) (gd DX9_needs_0 25 rfl)
  show GW z w 7 _ _ _ _ _ (.int 1 :: _) _
  generalize hB : (fun f => hasB (nI (vS V)) (nI f) ∧ ¬ kEq (vP2 V (clr (vS V) f) r q)) = B
  have loop : ∀ y i g, i + y = vNf V → K0 x W g V RC → qKp x h g → GW z w 7 (gQ z w 0 0 (fun r' h'' => aQ x (qQ V M (two (vNp V) (nI r) (nI q) (qNee V))) r' h'')) 0 0 52 [(0, .ref x), (1, .int (nI r)), (2, .int (nI q)), (3, .int (nI (vS V))), (4, .int (bitF B i)), (5, .int (nI i))] [] g := by
    intro y
    induction y with
    | zero =>
      intro i g hi K1 k1
      have ei : i = vNf V := by omega
      have hx := K1.1
      have w3 := K1.2.2.1.1.2.2.2.1
      refine g_iload C (gd DX9_needs_0 30 rfl) 5 rfl ?_
      refine g_aload_n C (gd DX9_needs_0 31 rfl) 0 rfl rfl ?_
      refine g_getr (ci := 9) (k := 6) C rfl (by decide) rfl lf_TestJudge_36 hx.1 hx.2.2.2.1.1 (gd DX9_needs_0 32 rfl) ?_
      refine g_geti (ci := 8) (k := 3) C rfl (by decide) rfl lf_TestJudge_137 hx.2.2.2.1.2.1 (gd DX9_needs_0 33 rfl) ?_
      rw [w3]
      refine g_icmp_ge C 105 (gd DX9_needs_0 34 rfl) (by decide) (fun c61 => ?_) (fun c61 => ?_)
      · refine g_aload_n C (gd DX9_needs_0 59 rfl) 0 rfl rfl ?_
        refine g_iload C (gd DX9_needs_1 0 rfl) 4 rfl ?_
        refine g_cV1 (ci := 9) C [_] mX9_allow lm_TestJudge_128 (by exact hx.1) rfl rfl (e_x_allow hx _) hfl (by first | decide | omega) (by decide) (by omega) (by omega) rfl rfl (Nat.le_of_ble_eq_true rfl) (gd DX9_needs_1 1 rfl) ?_
        exact g_iret C (by omega) (by omega) (aQ.q K hM rfl K1 k1 (Or.inr ⟨r, q, hr, hq, rfl, rfl, Or.inr ⟨eq, by rw [ei, hB], rfl⟩⟩)) (gd DX9_needs_1 2 rfl)
      · exact absurd (by rw [ei]; exact nI_le (Nat.le_refl _) (by omega)) c61
    | succ y ih =>
      intro i g hi K1 k1
      have hx := K1.1
      have w3 := K1.2.2.1.1.2.2.2.1
      obtain ⟨ec, lc⟩ := clr_e (vS V) hs4 i (by omega)
      have go99 : ∀ g2 v6, K0 x W g2 V RC → qKp x g g2 → ¬ B i → GW z w 7 (gQ z w 0 0 (fun r' h'' => aQ x (qQ V M (two (vNp V) (nI r) (nI q) (qNee V))) r' h'')) 0 0 99 [(0, .ref x), (1, .int (nI r)), (2, .int (nI q)), (3, .int (nI (vS V))), (4, .int (bitF B i)), (5, .int (nI i)), (6, .int v6)] [] g2 := by
        intro g2 v6 K3 k3 nb
        refine g_iinc (lv' := [(0, _), (1, _), (2, _), (3, _), (4, _), (5, _), (6, _)]) C (gd DX9_needs_0 57 rfl) 5 [1, 2, 3, 4, 5, 0, 6] rfl rfl (by decide) rfl ?_
        refine g_goto (tgt := 52) C (gd DX9_needs_0 58 rfl) (by decide) ?_
        refine GW.sub [0, 1, 2, 3, 4, 5] rfl (Nat.le_refl _) (Nat.le_refl _) (lv' := [(0, _), (1, _), (2, _), (3, _), (4, _), (5, _)]) ?_
        refine GW.cast (by rw [inc1, bitF_f nb, show bitF B i ||| 0 = bitF B i from by simp]) rfl rfl (ih (i + 1) g2 (by omega) K3 (k1.tr k3))
      refine g_iload C (gd DX9_needs_0 30 rfl) 5 rfl ?_
      refine g_aload_n C (gd DX9_needs_0 31 rfl) 0 rfl rfl ?_
      refine g_getr (ci := 9) (k := 6) C rfl (by decide) rfl lf_TestJudge_36 hx.1 hx.2.2.2.1.1 (gd DX9_needs_0 32 rfl) ?_
      refine g_geti (ci := 8) (k := 3) C rfl (by decide) rfl lf_TestJudge_137 hx.2.2.2.1.2.1 (gd DX9_needs_0 33 rfl) ?_
      rw [w3]
      refine g_icmp_ge C 105 (gd DX9_needs_0 34 rfl) (by decide) (fun c61 => ?_) (fun c61 => ?_)
      · exact absurd c61 (nI_ge (a := i) (b := vNf V) (by omega) (by omega))
      · refine g_iconst (v := 1) C (gd DX9_needs_0 35 rfl) (by decide) ?_
        refine g_iload C (gd DX9_needs_0 36 rfl) 5 rfl ?_
        refine g_ishl C (gd DX9_needs_0 37 rfl) ?_
        refine g_istore (lv' := [(0, _), (1, _), (2, _), (3, _), (4, _), (5, _), (6, _)]) C (gd DX9_needs_0 38 rfl) [1, 2, 3, 4, 5, 6, 0] (by decide) rfl ?_
        refine g_iload_n C (gd DX9_needs_0 39 rfl) 3 rfl rfl ?_
        refine g_iload C (gd DX9_needs_0 40 rfl) 6 rfl ?_
        refine g_iand C (gd DX9_needs_0 41 rfl) ?_
        by_cases b : hasB (nI (vS V)) (nI i)
        · have ne0 : ¬ nI (vS V) &&& 1 <<< (nI i &&& 31) = 0 := fun z0 => hasB_0 (a := i) (by omega) (z0 ▸ (hasB_and (by omega)).mpr ⟨b, (hasB_one (by omega) (by omega)).mpr rfl⟩)
          refine g_if_eq C 99 (gd DX9_needs_0 42 rfl) (by decide) (fun c74 => ?_) (fun c74 => ?_)
          · exact absurd c74 ne0
          · refine g_aload_n C (gd DX9_needs_0 43 rfl) 0 rfl rfl ?_
            refine g_iload_n C (gd DX9_needs_0 44 rfl) 3 rfl rfl ?_
            refine g_iload C (gd DX9_needs_0 45 rfl) 6 rfl ?_
            refine g_iconst (v := -1) C (gd DX9_needs_0 46 rfl) (by decide) ?_
            refine g_ixor C (gd DX9_needs_0 47 rfl) ?_
            refine g_iand C (gd DX9_needs_0 48 rfl) ?_
            rw [ec]
            refine g_iload_n C (gd DX9_needs_0 49 rfl) 1 rfl rfl ?_
            refine g_iload_n C (gd DX9_needs_0 50 rfl) 2 rfl rfl ?_
            refine g_callV (ci := 9) C [_, _, _] mX9_alike lm_TestJudge_214 (by exact hx.1) rfl rfl (e_x_alike K1 lc hr hq) hfl (by first | decide | omega) (by decide) (by omega) (by omega) rfl rfl (Nat.le_of_ble_eq_true rfl) (gd DX9_needs_0 51 rfl) (fun r g2 hp => ?_)
            obtain ⟨K3, k3, hp⟩ := hp
            rcases hp with ⟨rfl, eq2⟩ | ⟨rfl, ne2, -⟩
            · show GW z w 7 _ _ _ _ _ (.int 1 :: _) _
              refine g_if_ne C 99 (gd DX9_needs_0 52 rfl) (by decide) (fun c89 => ?_) (fun c89 => ?_)
              · exact go99 g2 _ K3 k3 (fun n => by rw [← hB] at n; exact n.2 eq2)
              · exact absurd (by first | exact c89 | exact Decidable.of_not_not c89) (by decide)
            · show GW z w 7 _ _ _ _ _ (.int 0 :: _) _
              refine g_if_ne C 99 (gd DX9_needs_0 52 rfl) (by decide) (fun c89 => ?_) (fun c89 => ?_)
              · exact absurd rfl c89
              · have bi : B i := by rw [← hB]; exact ⟨b, ne2⟩
                refine g_iload C (gd DX9_needs_0 53 rfl) 4 rfl ?_
                refine g_iload C (gd DX9_needs_0 54 rfl) 6 rfl ?_
                refine g_ior C (gd DX9_needs_0 55 rfl) ?_
                refine g_istore (lv' := [(0, _), (1, _), (2, _), (3, _), (4, _), (5, _), (6, _)]) C (gd DX9_needs_0 56 rfl) [1, 2, 3, 4, 0, 5, 6] (by decide) rfl ?_
                refine g_iinc (lv' := [(0, _), (1, _), (2, _), (3, _), (4, _), (5, _), (6, _)]) C (gd DX9_needs_0 57 rfl) 5 [1, 2, 3, 4, 5, 0, 6] rfl rfl (by decide) rfl ?_
                refine g_goto (tgt := 52) C (gd DX9_needs_0 58 rfl) (by decide) ?_
                refine GW.sub [0, 1, 2, 3, 4, 5] rfl (Nat.le_refl _) (Nat.le_refl _) (lv' := [(0, _), (1, _), (2, _), (3, _), (4, _), (5, _)]) ?_
                exact GW.cast (by rw [inc1, bitF_t bi]) rfl rfl (ih (i + 1) g2 (by omega) K3 (k1.tr k3))
        · have e0 : nI (vS V) &&& 1 <<< (nI i &&& 31) = 0 := hasB_ext fun a ha => by
            rw [hasB_and ha, hasB_one (by omega) ha]
            exact ⟨fun n => absurd (n.2 ▸ n.1) b, fun n => absurd n (hasB_0 ha)⟩
          refine g_if_eq C 99 (gd DX9_needs_0 42 rfl) (by decide) (fun c74 => ?_) (fun c74 => ?_)
          · exact go99 g _ K1 (qKp.rf x g) (fun n => by rw [← hB] at n; exact b n.1)
          · exact absurd e0 c74
  refine g_if_ne C 46 (gd DX9_needs_0 21 rfl) (by decide) (fun c37 => ?_) (fun c37 => ?_)
  · refine g_iconst (v := 0) C (gd DX9_needs_0 26 rfl) (by decide) ?_
    refine g_istore (lv' := [(0, _), (1, _), (2, _), (3, _), (4, _)]) C (gd DX9_needs_0 27 rfl) [1, 2, 3, 4, 0] (by decide) rfl ?_
    refine g_iconst (v := 0) C (gd DX9_needs_0 28 rfl) (by decide) ?_
    refine g_istore (lv' := [(0, _), (1, _), (2, _), (3, _), (4, _), (5, _)]) C (gd DX9_needs_0 29 rfl) [1, 2, 3, 4, 5, 0] (by decide) rfl ?_
    exact loop (vNf V) 0 g (by omega) K2 k2
  · exact absurd (by first | exact c37 | exact Decidable.of_not_not c37) (by decide)
end X5
