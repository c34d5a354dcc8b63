/-! Table: what a built table is asked -/
/-- rows that hold n rests -/
def tbN (n : Nat) (ρ : Nat → Nat → Int32) : Prop := n ≤ 125 ∧ ρ 0 0 = nI n ∧ tgV (ρ 3) n
theorem tbO.n {P : kP} {ρ : Nat → Nat → Int32} (o : tbO P ρ) : ∃ n, tbN n ρ := by
  obtain ⟨v, N, R, h1, h2, h3, h4, h5, h6, _⟩ := o
  refine ⟨R.length, h3, h4, h3, fun e he => ?_⟩
  obtain ⟨_, _, _, x⟩ := h5 (e / 24) _ (List.getElem?_eq_getElem (by omega : e / 24 < R.length))
  have := x (e % 24) (by omega)
  rw [show 24 * (e / 24) + e % 24 = e by omega] at this
  rcases this with ⟨_, y⟩ | ⟨_, j, p, _, y1, _, y2⟩
  · exact Or.inl y
  · exact Or.inr ⟨j, (List.getElem?_eq_some_iff.mp y1).1, y2⟩
/-- atoms with which strings end that begin with one of some, letters before l -/
def efF (Tg RE : Nat → Int32) (e0 ahead : Int32) : Nat → Int32
  | 0 => e0 &&& ahead
  | l + 1 => efF Tg RE e0 ahead l ||| (if Tg l = -1 then 0 else if ahead >>> (nI (l / 3) &&& 31) &&& 1 = 0 then 0 else RE (Tg l).toNatClampNeg)
def efA (ρ : Nat → Nat → Int32) (ahead : Int32) : Int32 := if ρ 0 0 = 0 then 0 else efF (ρ 3) (ρ 4) (ρ 1 0) ahead 24
def bgF (ρ : Nat → Nat → Int32) : Nat → Int32
  | 0 => 0
  | a + 1 => bgF ρ a ||| (if efA ρ (1 <<< (nI a &&& 31)) = 0 then 0 else (1 : Int32) <<< (nI a &&& 31))
def sfF (ρ : Nat → Nat → Int32) (ahead behind : Int32) : Nat → Int32
  | 0 => 0
  | a + 1 => sfF ρ ahead behind a ||| (if efA ρ (ahead &&& 1 <<< (nI a &&& 31)) &&& (behind ^^^ -1) = 0 then ahead &&& 1 <<< (nI a &&& 31) else 0)
def auF (Tg : Nat → Int32) : Nat → Int32
  | 0 => 0
  | i + 1 => auF Tg i ||| (if Tg i = -1 then 0 else (1 : Int32) <<< (nI (i % 3) &&& 31))
section C24
variable {w : gD} {t : Nat} {h : HS}
theorem e_t_isOf (ht : tSh t h) {ρ : Nat → Nat → Int32} (a : Nat) (fa : Int32) : EvF w 0 0 0 yX6_isOf cX6_isOf 3 (some .boolean) [.ref t, .ref a, .int fa] (tR t h ρ) (some (.int (b1 (hR h t 5 = some a ∧ ρ 0 6 = fa)))) (tR t h ρ) := by
  refine g_start (by decide) (Nat.le_of_ble_eq_true rfl) [(0, _), (1, _), (2, _)] rfl (fun z hfl C => ?_)
  refine g_aload_n C (gd DX6_isOf_0 0 rfl) 0 rfl rfl ?_
  refine g_getq (ci := 6) (k := 5) C rfl (by decide) rfl lf_TestJudge_Table_28 ht.1 (gd DX6_isOf_0 1 rfl) ?_
  refine g_aload_n C (gd DX6_isOf_0 2 rfl) 1 rfl rfl ?_
  refine g_acmp_ne (rx := hR h t 5) (ry := some a) C 20 (gd DX6_isOf_0 3 rfl) (by decide) (fun c5 => ?_) (fun c5 => ?_)
  · refine g_iconst (v := 0) C (gd DX6_isOf_0 10 rfl) (by decide) ?_
    exact g_zret C (by decide) (by omega) (by omega) ⟨by rw [b1_f (fun x => c5 x.1)], rfl⟩ (gd DX6_isOf_0 11 rfl)
  · refine g_aload_n C (gd DX6_isOf_0 4 rfl) 0 rfl rfl ?_
    refine g_geti (ci := 6) (k := 6) C rfl (by decide) rfl lf_TestJudge_Table_32 ht.1 (gd DX6_isOf_0 5 rfl) ?_
    refine g_iload_n C (gd DX6_isOf_0 6 rfl) 2 rfl rfl ?_
    rw [tR_0]
    refine g_icmp_ne C 20 (gd DX6_isOf_0 7 rfl) (by decide) (fun c13 => ?_) (fun c13 => ?_)
    · refine g_iconst (v := 0) C (gd DX6_isOf_0 10 rfl) (by decide) ?_
      exact g_zret C (by decide) (by omega) (by omega) ⟨by rw [b1_f (fun x => c13 x.2)], rfl⟩ (gd DX6_isOf_0 11 rfl)
    · refine g_iconst (v := 1) C (gd DX6_isOf_0 8 rfl) (by decide) ?_
      refine g_goto (tgt := 21) C (gd DX6_isOf_0 9 rfl) (by decide) ?_
      exact g_zret C (by decide) (by omega) (by omega) ⟨by rw [b1_t ⟨c5, c13⟩], rfl⟩ (gd DX6_isOf_0 11 rfl)
theorem e_t_target (ht : tSh t h) {n : Nat} {ρ : Nat → Nat → Int32} (o : tbN n ρ) {i x y : Nat} (hi : i < n) (hx : x < 8) (hy : y < 3) : EvF w 1 0 0 yX6_target cX6_target 4 (some .int) [.ref t, .int (nI i), .int (nI x), .int (nI y)] (tR t h ρ) (some (.int (ρ 3 (24 * i + (3 * x + y))))) (tR t h ρ) := by
  refine g_start (by decide) (Nat.le_of_ble_eq_true rfl) [(0, _), (1, _), (2, _), (3, _)] rfl (fun z hfl C => ?_)
  obtain ⟨o1, o2, o3⟩ := o
  refine g_aload_n C (gd DX6_target_0 0 rfl) 0 rfl rfl ?_
  refine g_iload_n C (gd DX6_target_0 1 rfl) 1 rfl rfl ?_
  refine g_cV1 (ci := 6) C [_] mX6_has lm_TestJudge_Table_126 (by exact ht.1) rfl rfl (e_t_has ht _) hfl (by first | decide | omega) (by decide) (by omega) (by omega) rfl rfl (Nat.le_of_ble_eq_true rfl) (gd DX6_target_0 2 rfl) ?_
  rw [o2, b1_t ⟨nI_nn (by omega), nI_ge hi (by omega)⟩]
  refine g_if_eq C 27 (gd DX6_target_0 3 rfl) (by decide) (fun c5 => ?_) (fun c5 => ?_)
  · exact absurd c5 (by decide)
  · refine g_iload_n C (gd DX6_target_0 4 rfl) 2 rfl rfl ?_
    refine g_if_lt C 27 (gd DX6_target_0 5 rfl) (by decide) (fun c9 => ?_) (fun c9 => ?_)
    · exact absurd c9 (nI_nn (by omega))
    · refine g_iload_n C (gd DX6_target_0 6 rfl) 2 rfl rfl ?_
      refine g_bipush (v := 8) C (gd DX6_target_0 7 rfl) (by decide) ?_
      refine g_icmp_ge C 27 (gd DX6_target_0 8 rfl) (by decide) (fun c15 => ?_) (fun c15 => ?_)
      · exact absurd c15 (nI_ge (a := x) (b := 8) hx (by omega))
      · refine g_iload_n C (gd DX6_target_0 9 rfl) 3 rfl rfl ?_
        refine g_if_lt C 27 (gd DX6_target_0 10 rfl) (by decide) (fun c19 => ?_) (fun c19 => ?_)
        · exact absurd c19 (nI_nn (by omega))
        · refine g_iload_n C (gd DX6_target_0 11 rfl) 3 rfl rfl ?_
          refine g_iconst (v := 3) C (gd DX6_target_0 12 rfl) (by decide) ?_
          refine g_icmp_lt C 29 (gd DX6_target_0 13 rfl) (by decide) (fun c24 => ?_) (fun c24 => ?_)
          · refine g_aload_n C (gd DX6_target_0 16 rfl) 0 rfl rfl ?_
            refine g_getr (ci := 6) (k := 3) C rfl (by decide) rfl lf_TestJudge_Table_22 ht.1 ht.2.2.2.1.1 (gd DX6_target_0 17 rfl) ?_
            refine g_iload_n C (gd DX6_target_0 18 rfl) 1 rfl rfl ?_
            refine g_bipush (v := 24) C (gd DX6_target_0 19 rfl) (by decide) ?_
            refine g_imul C (gd DX6_target_0 20 rfl) ?_
            refine g_iload_n C (gd DX6_target_0 21 rfl) 2 rfl rfl ?_
            refine g_iconst (v := 3) C (gd DX6_target_0 22 rfl) (by decide) ?_
            refine g_imul C (gd DX6_target_0 23 rfl) ?_
            refine g_iadd C (gd DX6_target_0 24 rfl) ?_
            refine g_iload_n C (gd DX6_target_0 25 rfl) 3 rfl rfl ?_
            refine g_iadd C (gd DX6_target_0 26 rfl) ?_
            refine g_iaj (j := (((i * 24) + (x * 3)) + y)) C ht.2.2.2.1.2.1 ht.2.2.2.1.2.2 (by first | decide | omega) (nx_add (nx_add (nx_mul rfl rfl) (nx_mul rfl rfl)) rfl) (by omega) (gd DX6_target_0 27 rfl) ?_
            rw [tR_at (by omega), show i * 24 + x * 3 + y = 24 * i + (3 * x + y) by omega]
            exact g_iret C (by omega) (by omega) ⟨rfl, rfl⟩ (gd DX6_target_0 28 rfl)
          · exact absurd (Int32.not_le.mp (nI_ge (a := y) (b := 3) hy (by omega))) c24
theorem e_t_targetN (ht : tSh t h) {n : Nat} {ρ : Nat → Nat → Int32} (o : tbN n ρ) {k : Int32} (hk : ¬ (¬ k < 0 ∧ ¬ nI n ≤ k)) (x y : Int32) : EvF w 1 0 0 yX6_target cX6_target 4 (some .int) [.ref t, .int k, .int x, .int y] (tR t h ρ) (some (.int (-1))) (tR t h ρ) := by
  refine g_start (by decide) (Nat.le_of_ble_eq_true rfl) [(0, _), (1, _), (2, _), (3, _)] rfl (fun z hfl C => ?_)
  refine g_aload_n C (gd DX6_target_0 0 rfl) 0 rfl rfl ?_
  refine g_iload_n C (gd DX6_target_0 1 rfl) 1 rfl rfl ?_
  refine g_cV1 (ci := 6) C [_] mX6_has lm_TestJudge_Table_126 (by exact ht.1) rfl rfl (e_t_has ht _) hfl (by first | decide | omega) (by decide) (by omega) (by omega) rfl rfl (Nat.le_of_ble_eq_true rfl) (gd DX6_target_0 2 rfl) ?_
  rw [o.2.1, b1_f hk]
  refine g_if_eq C 27 (gd DX6_target_0 3 rfl) (by decide) (fun c5 => ?_) (fun c5 => ?_)
  · refine g_iconst (v := -1) C (gd DX6_target_0 14 rfl) (by decide) ?_
    exact g_iret C (by omega) (by omega) ⟨rfl, rfl⟩ (gd DX6_target_0 15 rfl)
  · exact absurd rfl c5
theorem e_t_endings (ht : tSh t h) {n : Nat} {ρ : Nat → Nat → Int32} (o : tbN n ρ) : EvF w 0 0 0 yX6_endings cX6_endings 1 (some .int) [.ref t] (tR t h ρ) (some (.int (if ρ 0 0 = 0 then 0 else ρ 4 0))) (tR t h ρ) := by
  refine g_start (by decide) (Nat.le_of_ble_eq_true rfl) [(0, _)] rfl (fun z hfl C => ?_)
  refine g_aload_n C (gd DX6_endings_0 0 rfl) 0 rfl rfl ?_
  refine g_geti (ci := 6) (k := 0) C rfl (by decide) rfl lf_TestJudge_Table_9 ht.1 (gd DX6_endings_0 1 rfl) ?_
  rw [tR_0]
  refine g_if_ne C 11 (gd DX6_endings_0 2 rfl) (by decide) (fun c4 => ?_) (fun c4 => ?_)
  · refine g_aload_n C (gd DX6_endings_0 5 rfl) 0 rfl rfl ?_
    refine g_getr (ci := 6) (k := 4) C rfl (by decide) rfl lf_TestJudge_Table_25 ht.1 ht.2.2.2.2.1.1 (gd DX6_endings_0 6 rfl) ?_
    refine g_iconst (v := 0) C (gd DX6_endings_0 7 rfl) (by decide) ?_
    refine g_iaj (j := 0) C ht.2.2.2.2.1.2.1 ht.2.2.2.2.1.2.2 (by first | decide | omega) rfl (by decide) (gd DX6_endings_0 8 rfl) ?_
    rw [tR_at (by omega)]
    exact g_iret C (by omega) (by omega) ⟨by rw [if_neg c4], rfl⟩ (gd DX6_endings_0 9 rfl)
  · refine g_iconst (v := 0) C (gd DX6_endings_0 3 rfl) (by decide) ?_
    refine g_goto (tgt := 17) C (gd DX6_endings_0 4 rfl) (by decide) ?_
    exact g_iret C (by omega) (by omega) ⟨by rw [if_pos c4], rfl⟩ (gd DX6_endings_0 9 rfl)
theorem e_t_actsUsed (ht : tSh t h) {n : Nat} {ρ : Nat → Nat → Int32} (o : tbN n ρ) : EvF w 0 0 0 yX6_actsUsed cX6_actsUsed 3 (some .int) [.ref t] (tR t h ρ) (some (.int (auF (ρ 3) (24 * n)))) (tR t h ρ) := by
  refine g_start (by decide) (Nat.le_of_ble_eq_true rfl) [(0, _)] rfl (fun z hfl C => ?_)
  obtain ⟨o1, o2, o3⟩ := o
  have e24 : nI n * 24 = nI (24 * n) := by rw [show 24 * n = n * 24 by omega]; exact nx_mul (b := 24) rfl rfl
  have key : ∀ y i, i + y = 24 * n → GW z w 3 (gQ z w 0 0 (fun r' h'' => r' = some (.int (auF (ρ 3) (24 * n))) ∧ h'' = tR t h ρ)) 0 0 4 [(0, .ref t), (1, .int (auF (ρ 3) i)), (2, .int (nI i))] [] (tR t h ρ) := by
    intro y
    induction y with
    | zero =>
      intro i hi
      refine g_iload_n C (gd DX6_actsUsed_0 4 rfl) 2 rfl rfl ?_
      refine g_aload_n C (gd DX6_actsUsed_0 5 rfl) 0 rfl rfl ?_
      refine g_geti (ci := 6) (k := 0) C rfl (by decide) rfl lf_TestJudge_Table_9 ht.1 (gd DX6_actsUsed_0 6 rfl) ?_
      refine g_bipush (v := 24) C (gd DX6_actsUsed_0 7 rfl) (by decide) ?_
      refine g_imul C (gd DX6_actsUsed_0 8 rfl) ?_
      rw [tR_0, o2, e24]
      refine g_icmp_ge C 42 (gd DX6_actsUsed_0 9 rfl) (by decide) (fun c12 => ?_) (fun c12 => ?_)
      · refine g_iload_n C (gd DX6_actsUsed_0 27 rfl) 1 rfl rfl ?_
        exact g_iret C (by omega) (by omega) ⟨by rw [show i = 24 * n by omega], rfl⟩ (gd DX6_actsUsed_0 28 rfl)
      · exact absurd (nI_le (by omega) (by omega)) c12
    | succ y ih =>
      intro i hi
      have nx : ∀ v : Int32, v = (if ρ 3 i = -1 then 0 else (1 : Int32) <<< (nI (i % 3) &&& 31)) → GW z w 3 (gQ z w 0 0 (fun r' h'' => r' = some (.int (auF (ρ 3) (24 * n))) ∧ h'' = tR t h ρ)) 0 0 34 [(0, .ref t), (1, .int (auF (ρ 3) i)), (2, .int (nI i))] [.int v, .int (auF (ρ 3) i)] (tR t h ρ) := by
        intro v hv
        refine g_ior C (gd DX6_actsUsed_0 23 rfl) ?_
        refine g_istore_n (lv' := [(0, _), (1, _), (2, _)]) C (gd DX6_actsUsed_0 24 rfl) [1, 0, 2] rfl (by decide) rfl ?_
        refine g_iinc (lv' := [(0, _), (1, _), (2, _)]) C (gd DX6_actsUsed_0 25 rfl) 2 [1, 2, 0] rfl rfl (by decide) rfl ?_
        refine g_goto (tgt := 4) C (gd DX6_actsUsed_0 26 rfl) (by decide) ?_
        exact GW.cast (by rw [inc1, hv]; rfl) rfl rfl (ih (i + 1) (by omega))
      refine g_iload_n C (gd DX6_actsUsed_0 4 rfl) 2 rfl rfl ?_
      refine g_aload_n C (gd DX6_actsUsed_0 5 rfl) 0 rfl rfl ?_
      refine g_geti (ci := 6) (k := 0) C rfl (by decide) rfl lf_TestJudge_Table_9 ht.1 (gd DX6_actsUsed_0 6 rfl) ?_
      refine g_bipush (v := 24) C (gd DX6_actsUsed_0 7 rfl) (by decide) ?_
      refine g_imul C (gd DX6_actsUsed_0 8 rfl) ?_
      rw [tR_0, o2, e24]
      refine g_icmp_ge C 42 (gd DX6_actsUsed_0 9 rfl) (by decide) (fun c12 => ?_) (fun c12 => ?_)
      · exact absurd c12 (nI_ge (by omega) (by omega))
      · refine g_iload_n C (gd DX6_actsUsed_0 10 rfl) 1 rfl rfl ?_
        refine g_aload_n C (gd DX6_actsUsed_0 11 rfl) 0 rfl rfl ?_
        refine g_getr (ci := 6) (k := 3) C rfl (by decide) rfl lf_TestJudge_Table_22 ht.1 ht.2.2.2.1.1 (gd DX6_actsUsed_0 12 rfl) ?_
        refine g_iload_n C (gd DX6_actsUsed_0 13 rfl) 2 rfl rfl ?_
        refine g_iaj (j := i) C ht.2.2.2.1.2.1 ht.2.2.2.1.2.2 (by first | decide | omega) rfl (by omega) (gd DX6_actsUsed_0 14 rfl) ?_
        rw [tR_at (by omega)]
        rcases o3.2 i (by omega) with e | ⟨j, hj, e⟩
        · rw [e]
          refine g_if_ge C 29 (gd DX6_actsUsed_0 15 rfl) (by decide) (fun c22 => ?_) (fun c22 => ?_)
          · exact absurd c22 (by decide)
          · refine g_iconst (v := 0) C (gd DX6_actsUsed_0 16 rfl) (by decide) ?_
            refine g_goto (tgt := 34) C (gd DX6_actsUsed_0 17 rfl) (by decide) ?_
            exact nx _ (by rw [if_pos e])
        · rw [e]
          refine g_if_ge C 29 (gd DX6_actsUsed_0 15 rfl) (by decide) (fun c22 => ?_) (fun c22 => ?_)
          · refine g_iconst (v := 1) C (gd DX6_actsUsed_0 18 rfl) (by decide) ?_
            refine g_iload_n C (gd DX6_actsUsed_0 19 rfl) 2 rfl rfl ?_
            refine g_iconst (v := 3) C (gd DX6_actsUsed_0 20 rfl) (by decide) ?_
            refine g_irem C (gd DX6_actsUsed_0 21 rfl) (by decide) ?_
            rw [show nI i - nI i / 3 * 3 = nI (i % 3) from nx_rem (b := 3) rfl rfl (by omega) (by decide) (by decide)]
            refine g_ishl C (gd DX6_actsUsed_0 22 rfl) ?_
            exact nx _ (by rw [e, if_neg (nI_neg1 (by omega))])
          · exact absurd (Int32.not_lt.mp (nI_nn (by omega))) c22
  refine g_iconst (v := 0) C (gd DX6_actsUsed_0 0 rfl) (by decide) ?_
  refine g_istore_n (lv' := [(0, _), (1, _)]) C (gd DX6_actsUsed_0 1 rfl) [1, 0] rfl (by decide) rfl ?_
  refine g_iconst (v := 0) C (gd DX6_actsUsed_0 2 rfl) (by decide) ?_
  refine g_istore_n (lv' := [(0, _), (1, _), (2, _)]) C (gd DX6_actsUsed_0 3 rfl) [1, 2, 0] rfl (by decide) rfl ?_
  exact key (24 * n) 0 (by omega)
theorem e_t_endingsFrom (ht : tSh t h) {n : Nat} {ρ : Nat → Nat → Int32} (o : tbN n ρ) (ah : Int32) : EvF w 1 0 0 yX6_endingsFrom cX6_endingsFrom 5 (some .int) [.ref t, .int ah] (tR t h ρ) (some (.int (efA ρ ah))) (tR t h ρ) := by
  refine g_start (by decide) (Nat.le_of_ble_eq_true rfl) [(0, _), (1, _)] rfl (fun z hfl C => ?_)
  obtain ⟨o1, o2, o3⟩ := o
  refine g_aload_n C (gd DX6_endingsFrom_0 0 rfl) 0 rfl rfl ?_
  refine g_geti (ci := 6) (k := 0) C rfl (by decide) rfl lf_TestJudge_Table_9 ht.1 (gd DX6_endingsFrom_0 1 rfl) ?_
  rw [tR_0]
  refine g_if_ne C 9 (gd DX6_endingsFrom_0 2 rfl) (by decide) (fun c4 => ?_) (fun c4 => ?_)
  · have n0 : 0 < n := Nat.pos_of_ne_zero fun x => c4 (by rw [o2, x]; rfl)
    have key : ∀ y l v4, l + y = 24 → GW z w 5 (gQ z w 0 0 (fun r' h'' => r' = some (.int (efA ρ ah)) ∧ h'' = tR t h ρ)) 0 0 20 ([(0, .ref t), (1, .int ah), (2, .int (efF (ρ 3) (ρ 4) (ρ 1 0) ah l)), (3, .int (nI l))] ++ v4) [] (tR t h ρ) := by
      intro y
      induction y with
      | zero =>
        intro l v4 hl
        refine GW.sub [0, 1, 2, 3] rfl (Nat.le_refl _) (Nat.le_refl _) (lv' := [(0, _), (1, _), (2, _), (3, _)]) ?_
        refine g_iload_n C (gd DX6_endingsFrom_0 14 rfl) 3 rfl rfl ?_
        refine g_bipush (v := 24) C (gd DX6_endingsFrom_0 15 rfl) (by decide) ?_
        refine g_icmp_ge C 73 (gd DX6_endingsFrom_0 16 rfl) (by decide) (fun c23 => ?_) (fun c23 => ?_)
        · refine g_iload_n C (gd DX6_endingsFrom_0 45 rfl) 2 rfl rfl ?_
          exact g_iret C (by omega) (by omega) ⟨by rw [efA, if_neg c4, show l = 24 by omega], rfl⟩ (gd DX6_endingsFrom_0 46 rfl)
        · exact absurd (nI_le (a := 24) (b := l) (by omega) (by omega)) c23
      | succ y ih =>
        intro l v4 hl
        refine GW.sub [0, 1, 2, 3] rfl (Nat.le_refl _) (Nat.le_refl _) (lv' := [(0, _), (1, _), (2, _), (3, _)]) ?_
        have nx : ∀ v4 v, v = (if ρ 3 l = -1 then 0 else if ah >>> (nI (l / 3) &&& 31) &&& 1 = 0 then 0 else ρ 4 (ρ 3 l).toNatClampNeg) → GW z w 5 (gQ z w 0 0 (fun r' h'' => r' = some (.int (efA ρ ah)) ∧ h'' = tR t h ρ)) 0 0 65 [(0, .ref t), (1, .int ah), (2, .int (efF (ρ 3) (ρ 4) (ρ 1 0) ah l)), (3, .int (nI l)), (4, .int v4)] [.int v, .int (efF (ρ 3) (ρ 4) (ρ 1 0) ah l)] (tR t h ρ) := by
          intro v4 v hv
          refine g_ior C (gd DX6_endingsFrom_0 41 rfl) ?_
          refine g_istore_n (lv' := [(0, _), (1, _), (2, _), (3, _), (4, _)]) C (gd DX6_endingsFrom_0 42 rfl) [1, 2, 0, 3, 4] rfl (by decide) rfl ?_
          refine g_iinc (lv' := [(0, _), (1, _), (2, _), (3, _), (4, _)]) C (gd DX6_endingsFrom_0 43 rfl) 3 [1, 2, 3, 0, 4] rfl rfl (by decide) rfl ?_
          refine g_goto (tgt := 20) C (gd DX6_endingsFrom_0 44 rfl) (by decide) ?_
          refine GW.sub [0, 1, 2, 3] rfl (Nat.le_refl _) (Nat.le_refl _) (lv' := [(0, _), (1, _), (2, _), (3, _)]) ?_
          exact GW.cast (by rw [inc1, hv]; rfl) rfl rfl (ih (l + 1) [] (by omega))
        refine g_iload_n C (gd DX6_endingsFrom_0 14 rfl) 3 rfl rfl ?_
        refine g_bipush (v := 24) C (gd DX6_endingsFrom_0 15 rfl) (by decide) ?_
        refine g_icmp_ge C 73 (gd DX6_endingsFrom_0 16 rfl) (by decide) (fun c23 => ?_) (fun c23 => ?_)
        · exact absurd c23 (nI_ge (a := l) (b := 24) (by omega) (by omega))
        · refine g_aload_n C (gd DX6_endingsFrom_0 17 rfl) 0 rfl rfl ?_
          refine g_getr (ci := 6) (k := 3) C rfl (by decide) rfl lf_TestJudge_Table_22 ht.1 ht.2.2.2.1.1 (gd DX6_endingsFrom_0 18 rfl) ?_
          refine g_iload_n C (gd DX6_endingsFrom_0 19 rfl) 3 rfl rfl ?_
          refine g_iaj (j := l) C ht.2.2.2.1.2.1 ht.2.2.2.1.2.2 (by first | decide | omega) rfl (by omega) (gd DX6_endingsFrom_0 20 rfl) ?_
          rw [tR_at (by omega)]
          rcases o3.2 l (by omega) with e | ⟨j, hj, e⟩
          · rw [e]
            refine g_istore (lv' := [(0, _), (1, _), (2, _), (3, _), (4, _)]) C (gd DX6_endingsFrom_0 21 rfl) [1, 2, 3, 4, 0] (by decide) rfl ?_
            refine g_iload_n C (gd DX6_endingsFrom_0 22 rfl) 2 rfl rfl ?_
            refine g_aload_n C (gd DX6_endingsFrom_0 23 rfl) 0 rfl rfl ?_
            refine g_iload C (gd DX6_endingsFrom_0 24 rfl) 4 rfl ?_
            refine g_cV1 (ci := 6) C [_] mX6_has lm_TestJudge_Table_126 (by exact ht.1) rfl rfl (e_t_has ht (ρ := ρ) _) hfl (by first | decide | omega) (by decide) (by omega) (by omega) rfl rfl (Nat.le_of_ble_eq_true rfl) (gd DX6_endingsFrom_0 25 rfl) ?_
            rw [b1_f (fun q => q.1 (by decide))]
            refine g_if_eq C 64 (gd DX6_endingsFrom_0 26 rfl) (by decide) (fun c41 => ?_) (fun c41 => ?_)
            · refine g_iconst (v := 0) C (gd DX6_endingsFrom_0 40 rfl) (by decide) ?_
              exact nx _ _ (by rw [if_pos e])
            · exact absurd rfl c41
          · rw [e]
            refine g_istore (lv' := [(0, _), (1, _), (2, _), (3, _), (4, _)]) C (gd DX6_endingsFrom_0 21 rfl) [1, 2, 3, 4, 0] (by decide) rfl ?_
            refine g_iload_n C (gd DX6_endingsFrom_0 22 rfl) 2 rfl rfl ?_
            refine g_aload_n C (gd DX6_endingsFrom_0 23 rfl) 0 rfl rfl ?_
            refine g_iload C (gd DX6_endingsFrom_0 24 rfl) 4 rfl ?_
            refine g_cV1 (ci := 6) C [_] mX6_has lm_TestJudge_Table_126 (by exact ht.1) rfl rfl (e_t_has ht (ρ := ρ) _) hfl (by first | decide | omega) (by decide) (by omega) (by omega) rfl rfl (Nat.le_of_ble_eq_true rfl) (gd DX6_endingsFrom_0 25 rfl) ?_
            rw [b1_t ⟨nI_nn (by omega), by rw [o2]; exact nI_ge hj (by omega)⟩]
            refine g_if_eq C 64 (gd DX6_endingsFrom_0 26 rfl) (by decide) (fun c41 => ?_) (fun c41 => ?_)
            · exact absurd c41 (by decide)
            · refine g_iload_n C (gd DX6_endingsFrom_0 27 rfl) 1 rfl rfl ?_
              refine g_iload_n C (gd DX6_endingsFrom_0 28 rfl) 3 rfl rfl ?_
              refine g_iconst (v := 3) C (gd DX6_endingsFrom_0 29 rfl) (by decide) ?_
              refine g_idiv C (gd DX6_endingsFrom_0 30 rfl) (by decide) ?_
              rw [show nI l / 3 = nI (l / 3) from nx_div (b := 3) rfl rfl (by omega) (by decide) (by decide)]
              refine g_ishr C (gd DX6_endingsFrom_0 31 rfl) ?_
              refine g_iconst (v := 1) C (gd DX6_endingsFrom_0 32 rfl) (by decide) ?_
              refine g_iand C (gd DX6_endingsFrom_0 33 rfl) ?_
              refine g_if_eq C 64 (gd DX6_endingsFrom_0 34 rfl) (by decide) (fun c51 => ?_) (fun c51 => ?_)
              · refine g_iconst (v := 0) C (gd DX6_endingsFrom_0 40 rfl) (by decide) ?_
                exact nx _ _ (by rw [e, if_neg (nI_neg1 (by omega)), if_pos c51])
              · refine g_aload_n C (gd DX6_endingsFrom_0 35 rfl) 0 rfl rfl ?_
                refine g_getr (ci := 6) (k := 4) C rfl (by decide) rfl lf_TestJudge_Table_25 ht.1 ht.2.2.2.2.1.1 (gd DX6_endingsFrom_0 36 rfl) ?_
                refine g_iload C (gd DX6_endingsFrom_0 37 rfl) 4 rfl ?_
                refine g_iaj (j := j) C ht.2.2.2.2.1.2.1 ht.2.2.2.2.1.2.2 (by first | decide | omega) rfl (by omega) (gd DX6_endingsFrom_0 38 rfl) ?_
                refine g_goto (tgt := 65) C (gd DX6_endingsFrom_0 39 rfl) (by decide) ?_
                rw [tR_at (by omega)]
                exact nx _ _ (by rw [e, if_neg (nI_neg1 (by omega)), if_neg c51, nI_clamp (by omega)])
    refine g_aload_n C (gd DX6_endingsFrom_0 5 rfl) 0 rfl rfl ?_
    refine g_getr (ci := 6) (k := 1) C rfl (by decide) rfl lf_TestJudge_Table_15 ht.1 ht.2.1.1 (gd DX6_endingsFrom_0 6 rfl) ?_
    refine g_iconst (v := 0) C (gd DX6_endingsFrom_0 7 rfl) (by decide) ?_
    refine g_iaj (j := 0) C ht.2.1.2.1 ht.2.1.2.2 (by first | decide | omega) rfl (by decide) (gd DX6_endingsFrom_0 8 rfl) ?_
    rw [tR_at (by omega)]
    refine g_iload_n C (gd DX6_endingsFrom_0 9 rfl) 1 rfl rfl ?_
    refine g_iand C (gd DX6_endingsFrom_0 10 rfl) ?_
    refine g_istore_n (lv' := [(0, _), (1, _), (2, _)]) C (gd DX6_endingsFrom_0 11 rfl) [1, 2, 0] rfl (by decide) rfl ?_
    refine g_iconst (v := 0) C (gd DX6_endingsFrom_0 12 rfl) (by decide) ?_
    refine g_istore_n (lv' := [(0, _), (1, _), (2, _), (3, _)]) C (gd DX6_endingsFrom_0 13 rfl) [1, 2, 3, 0] rfl (by decide) rfl ?_
    exact GW.cast rfl rfl rfl (key 24 0 [] rfl)
  · refine g_iconst (v := 0) C (gd DX6_endingsFrom_0 3 rfl) (by decide) ?_
    exact g_iret C (by omega) (by omega) ⟨by rw [efA, if_pos c4], rfl⟩ (gd DX6_endingsFrom_0 4 rfl)
theorem e_t_beginnings (ht : tSh t h) {n : Nat} {ρ : Nat → Nat → Int32} (o : tbN n ρ) : EvF w 2 0 0 yX6_beginnings cX6_beginnings 3 (some .int) [.ref t] (tR t h ρ) (some (.int (bgF ρ 8))) (tR t h ρ) := by
  refine g_start (by decide) (Nat.le_of_ble_eq_true rfl) [(0, _)] rfl (fun z hfl C => ?_)
  have key : ∀ y a, a + y = 8 → GW z w 3 (gQ z w 0 0 (fun r' h'' => r' = some (.int (bgF ρ 8)) ∧ h'' = tR t h ρ)) 0 0 4 [(0, .ref t), (1, .int (bgF ρ a)), (2, .int (nI a))] [] (tR t h ρ) := by
    intro y
    induction y with
    | zero =>
      intro a ha
      refine g_iload_n C (gd DX6_beginnings_0 4 rfl) 2 rfl rfl ?_
      refine g_bipush (v := 8) C (gd DX6_beginnings_0 5 rfl) (by decide) ?_
      refine g_icmp_ge C 36 (gd DX6_beginnings_0 6 rfl) (by decide) (fun c7 => ?_) (fun c7 => ?_)
      · refine g_iload_n C (gd DX6_beginnings_0 23 rfl) 1 rfl rfl ?_
        exact g_iret C (by omega) (by omega) ⟨by rw [show a = 8 by omega], rfl⟩ (gd DX6_beginnings_0 24 rfl)
      · exact absurd (nI_le (a := 8) (b := a) (by omega) (by omega)) c7
    | succ y ih =>
      intro a ha
      have nx : ∀ v : Int32, v = (if efA ρ (1 <<< (nI a &&& 31)) = 0 then 0 else (1 : Int32) <<< (nI a &&& 31)) → GW z w 3 (gQ z w 0 0 (fun r' h'' => r' = some (.int (bgF ρ 8)) ∧ h'' = tR t h ρ)) 0 0 28 [(0, .ref t), (1, .int (bgF ρ a)), (2, .int (nI a))] [.int v, .int (bgF ρ a)] (tR t h ρ) := by
        intro v hv
        refine g_ior C (gd DX6_beginnings_0 19 rfl) ?_
        refine g_istore_n (lv' := [(0, _), (1, _), (2, _)]) C (gd DX6_beginnings_0 20 rfl) [1, 0, 2] rfl (by decide) rfl ?_
        refine g_iinc (lv' := [(0, _), (1, _), (2, _)]) C (gd DX6_beginnings_0 21 rfl) 2 [1, 2, 0] rfl rfl (by decide) rfl ?_
        refine g_goto (tgt := 4) C (gd DX6_beginnings_0 22 rfl) (by decide) ?_
        exact GW.cast (by rw [inc1, hv]; rfl) rfl rfl (ih (a + 1) (by omega))
      refine g_iload_n C (gd DX6_beginnings_0 4 rfl) 2 rfl rfl ?_
      refine g_bipush (v := 8) C (gd DX6_beginnings_0 5 rfl) (by decide) ?_
      refine g_icmp_ge C 36 (gd DX6_beginnings_0 6 rfl) (by decide) (fun c7 => ?_) (fun c7 => ?_)
      · exact absurd c7 (nI_ge (a := a) (b := 8) (by omega) (by omega))
      · refine g_iload_n C (gd DX6_beginnings_0 7 rfl) 1 rfl rfl ?_
        refine g_aload_n C (gd DX6_beginnings_0 8 rfl) 0 rfl rfl ?_
        refine g_iconst (v := 1) C (gd DX6_beginnings_0 9 rfl) (by decide) ?_
        refine g_iload_n C (gd DX6_beginnings_0 10 rfl) 2 rfl rfl ?_
        refine g_ishl C (gd DX6_beginnings_0 11 rfl) ?_
        refine g_cV1 (ci := 6) C [_] mX6_endingsFrom lm_TestJudge_Table_129 (by exact ht.1) rfl rfl (e_t_endingsFrom ht o _) hfl (by first | decide | omega) (by decide) (by omega) (by omega) rfl rfl (Nat.le_of_ble_eq_true rfl) (gd DX6_beginnings_0 12 rfl) ?_
        refine g_if_ne C 25 (gd DX6_beginnings_0 13 rfl) (by decide) (fun c18 => ?_) (fun c18 => ?_)
        · refine g_iconst (v := 1) C (gd DX6_beginnings_0 16 rfl) (by decide) ?_
          refine g_iload_n C (gd DX6_beginnings_0 17 rfl) 2 rfl rfl ?_
          refine g_ishl C (gd DX6_beginnings_0 18 rfl) ?_
          exact nx _ (by rw [if_neg c18])
        · refine g_iconst (v := 0) C (gd DX6_beginnings_0 14 rfl) (by decide) ?_
          refine g_goto (tgt := 28) C (gd DX6_beginnings_0 15 rfl) (by decide) ?_
          exact nx _ (by rw [if_pos c18])
  refine g_iconst (v := 0) C (gd DX6_beginnings_0 0 rfl) (by decide) ?_
  refine g_istore_n (lv' := [(0, _), (1, _)]) C (gd DX6_beginnings_0 1 rfl) [1, 0] rfl (by decide) rfl ?_
  refine g_iconst (v := 0) C (gd DX6_beginnings_0 2 rfl) (by decide) ?_
  refine g_istore_n (lv' := [(0, _), (1, _), (2, _)]) C (gd DX6_beginnings_0 3 rfl) [1, 2, 0] rfl (by decide) rfl ?_
  exact key 8 0 rfl
theorem e_t_safeAtoms (ht : tSh t h) {n : Nat} {ρ : Nat → Nat → Int32} (o : tbN n ρ) (ah be : Int32) : EvF w 2 0 0 yX6_safeAtoms cX6_safeAtoms 6 (some .int) [.ref t, .int ah, .int be] (tR t h ρ) (some (.int (sfF ρ ah be 8))) (tR t h ρ) := by
  refine g_start (by decide) (Nat.le_of_ble_eq_true rfl) [(0, _), (1, _), (2, _)] rfl (fun z hfl C => ?_)
  have key : ∀ y a v5, a + y = 8 → GW z w 6 (gQ z w 0 0 (fun r' h'' => r' = some (.int (sfF ρ ah be 8)) ∧ h'' = tR t h ρ)) 0 0 5 ([(0, .ref t), (1, .int ah), (2, .int be), (3, .int (sfF ρ ah be a)), (4, .int (nI a))] ++ v5) [] (tR t h ρ) := by
    intro y
    induction y with
    | zero =>
      intro a v5 ha
      refine GW.sub [0, 1, 2, 3, 4] rfl (Nat.le_refl _) (Nat.le_refl _) (lv' := [(0, _), (1, _), (2, _), (3, _), (4, _)]) ?_
      refine g_iload C (gd DX6_safeAtoms_0 4 rfl) 4 rfl ?_
      refine g_bipush (v := 8) C (gd DX6_safeAtoms_0 5 rfl) (by decide) ?_
      refine g_icmp_ge C 48 (gd DX6_safeAtoms_0 6 rfl) (by decide) (fun c9 => ?_) (fun c9 => ?_)
      · refine g_iload_n C (gd DX6_safeAtoms_0 29 rfl) 3 rfl rfl ?_
        exact g_iret C (by omega) (by omega) ⟨by rw [show a = 8 by omega], rfl⟩ (gd DX6_safeAtoms_0 30 rfl)
      · exact absurd (nI_le (a := 8) (b := a) (by omega) (by omega)) c9
    | succ y ih =>
      intro a v5 ha
      refine GW.sub [0, 1, 2, 3, 4] rfl (Nat.le_refl _) (Nat.le_refl _) (lv' := [(0, _), (1, _), (2, _), (3, _), (4, _)]) ?_
      have nx : ∀ v5 v, v = (if efA ρ (ah &&& 1 <<< (nI a &&& 31)) &&& (be ^^^ -1) = 0 then ah &&& 1 <<< (nI a &&& 31) else 0) → GW z w 6 (gQ z w 0 0 (fun r' h'' => r' = some (.int (sfF ρ ah be 8)) ∧ h'' = tR t h ρ)) 0 0 40 [(0, .ref t), (1, .int ah), (2, .int be), (3, .int (sfF ρ ah be a)), (4, .int (nI a)), (5, .int v5)] [.int v, .int (sfF ρ ah be a)] (tR t h ρ) := by
        intro v5 v hv
        refine g_ior C (gd DX6_safeAtoms_0 25 rfl) ?_
        refine g_istore_n (lv' := [(0, _), (1, _), (2, _), (3, _), (4, _), (5, _)]) C (gd DX6_safeAtoms_0 26 rfl) [1, 2, 3, 0, 4, 5] rfl (by decide) rfl ?_
        refine g_iinc (lv' := [(0, _), (1, _), (2, _), (3, _), (4, _), (5, _)]) C (gd DX6_safeAtoms_0 27 rfl) 4 [1, 2, 3, 4, 0, 5] rfl rfl (by decide) rfl ?_
        refine g_goto (tgt := 5) C (gd DX6_safeAtoms_0 28 rfl) (by decide) ?_
        refine GW.sub [0, 1, 2, 3, 4] rfl (Nat.le_refl _) (Nat.le_refl _) (lv' := [(0, _), (1, _), (2, _), (3, _), (4, _)]) ?_
        exact GW.cast (by rw [inc1, hv]; rfl) rfl rfl (ih (a + 1) [] (by omega))
      refine g_iload C (gd DX6_safeAtoms_0 4 rfl) 4 rfl ?_
      refine g_bipush (v := 8) C (gd DX6_safeAtoms_0 5 rfl) (by decide) ?_
      refine g_icmp_ge C 48 (gd DX6_safeAtoms_0 6 rfl) (by decide) (fun c9 => ?_) (fun c9 => ?_)
      · exact absurd c9 (nI_ge (a := a) (b := 8) (by omega) (by omega))
      · refine g_iload_n C (gd DX6_safeAtoms_0 7 rfl) 1 rfl rfl ?_
        refine g_iconst (v := 1) C (gd DX6_safeAtoms_0 8 rfl) (by decide) ?_
        refine g_iload C (gd DX6_safeAtoms_0 9 rfl) 4 rfl ?_
        refine g_ishl C (gd DX6_safeAtoms_0 10 rfl) ?_
        refine g_iand C (gd DX6_safeAtoms_0 11 rfl) ?_
        refine g_istore (lv' := [(0, _), (1, _), (2, _), (3, _), (4, _), (5, _)]) C (gd DX6_safeAtoms_0 12 rfl) [1, 2, 3, 4, 5, 0] (by decide) rfl ?_
        refine g_iload_n C (gd DX6_safeAtoms_0 13 rfl) 3 rfl rfl ?_
        refine g_aload_n C (gd DX6_safeAtoms_0 14 rfl) 0 rfl rfl ?_
        refine g_iload C (gd DX6_safeAtoms_0 15 rfl) 5 rfl ?_
        refine g_cV1 (ci := 6) C [_] mX6_endingsFrom lm_TestJudge_Table_129 (by exact ht.1) rfl rfl (e_t_endingsFrom ht o _) hfl (by first | decide | omega) (by decide) (by omega) (by omega) rfl rfl (Nat.le_of_ble_eq_true rfl) (gd DX6_safeAtoms_0 16 rfl) ?_
        refine g_iload_n C (gd DX6_safeAtoms_0 17 rfl) 2 rfl rfl ?_
        refine g_iconst (v := -1) C (gd DX6_safeAtoms_0 18 rfl) (by decide) ?_
        refine g_ixor C (gd DX6_safeAtoms_0 19 rfl) ?_
        refine g_iand C (gd DX6_safeAtoms_0 20 rfl) ?_
        refine g_if_ne C 39 (gd DX6_safeAtoms_0 21 rfl) (by decide) (fun c31 => ?_) (fun c31 => ?_)
        · refine g_iconst (v := 0) C (gd DX6_safeAtoms_0 24 rfl) (by decide) ?_
          exact nx _ _ (by rw [if_neg c31])
        · refine g_iload C (gd DX6_safeAtoms_0 22 rfl) 5 rfl ?_
          refine g_goto (tgt := 40) C (gd DX6_safeAtoms_0 23 rfl) (by decide) ?_
          exact nx _ _ (by rw [if_pos c31])
  refine g_iconst (v := 0) C (gd DX6_safeAtoms_0 0 rfl) (by decide) ?_
  refine g_istore_n (lv' := [(0, _), (1, _), (2, _), (3, _)]) C (gd DX6_safeAtoms_0 1 rfl) [1, 2, 3, 0] rfl (by decide) rfl ?_
  refine g_iconst (v := 0) C (gd DX6_safeAtoms_0 2 rfl) (by decide) ?_
  refine g_istore (lv' := [(0, _), (1, _), (2, _), (3, _), (4, _)]) C (gd DX6_safeAtoms_0 3 rfl) [1, 2, 3, 4, 0] (by decide) rfl ?_
  exact GW.cast rfl rfl rfl (key 8 0 [] rfl)
theorem e_t_oneWayEach (ht : tSh t h) {n : Nat} {ρ : Nat → Nat → Int32} (o : tbN n ρ) : Ev w 0 0 0 yX6_oneWayEach cX6_oneWayEach 4 (some .boolean) [.ref t] (tR t h ρ) (fun r' h' => h' = tR t h ρ ∧ ((r' = some (.int 1) ∧ ∀ i, i < 8 * n → clN (ρ 1 (i / 8)) (fun i k => ρ 3 (24 * i + k)) 3 (i / 8) (i % 8) ≤ 1) ∨ (r' = some (.int 0) ∧ ¬ ∀ i, i < 8 * n → clN (ρ 1 (i / 8)) (fun i k => ρ 3 (24 * i + k)) 3 (i / 8) (i % 8) ≤ 1))) := by
  refine g_start (by decide) (Nat.le_of_ble_eq_true rfl) [(0, _)] rfl (fun z hfl C => ?_)
  obtain ⟨o1, o2, o3⟩ := o
  have e8 : nI n * 8 = nI (8 * n) := by rw [show 8 * n = n * 8 by omega]; exact nx_mul (b := 8) rfl rfl
  generalize hT : (fun i k => ρ 3 (24 * i + k)) = T
  have key : ∀ y i v, i + y = 8 * n → (∀ j, j < i → clN (ρ 1 (j / 8)) T 3 (j / 8) (j % 8) ≤ 1) → GW z w 4 (gQ z w 0 0 (fun r' h'' => h'' = tR t h ρ ∧ ((r' = some (.int 1) ∧ ∀ i, i < 8 * n → clN (ρ 1 (i / 8)) (fun i k => ρ 3 (24 * i + k)) 3 (i / 8) (i % 8) ≤ 1) ∨ (r' = some (.int 0) ∧ ¬ ∀ i, i < 8 * n → clN (ρ 1 (i / 8)) (fun i k => ρ 3 (24 * i + k)) 3 (i / 8) (i % 8) ≤ 1)))) 0 0 2 ([(0, .ref t), (1, .int (nI i))] ++ v) [] (tR t h ρ) := by
    rw [hT]
    intro y
    induction y with
    | zero =>
      intro i v hi hj
      refine GW.sub [0, 1] rfl (Nat.le_refl _) (Nat.le_refl _) (lv' := [(0, _), (1, _)]) ?_
      refine g_iload_n C (gd DX6_oneWayEach_0 2 rfl) 1 rfl rfl ?_
      refine g_aload_n C (gd DX6_oneWayEach_0 3 rfl) 0 rfl rfl ?_
      refine g_geti (ci := 6) (k := 0) C rfl (by decide) rfl lf_TestJudge_Table_9 ht.1 (gd DX6_oneWayEach_0 4 rfl) ?_
      refine g_bipush (v := 8) C (gd DX6_oneWayEach_0 5 rfl) (by decide) ?_
      refine g_imul C (gd DX6_oneWayEach_0 6 rfl) ?_
      rw [tR_0, o2, e8]
      refine g_icmp_ge C 77 (gd DX6_oneWayEach_0 7 rfl) (by decide) (fun c10 => ?_) (fun c10 => ?_)
      · refine g_iconst (v := 1) C (gd DX6_oneWayEach_0 50 rfl) (by decide) ?_
        refine g_zret C (Or.inr rfl) (by omega) (by omega) ⟨rfl, Or.inl ⟨rfl, fun j hj2 => hj j (by omega)⟩⟩ (gd DX6_oneWayEach_0 51 rfl)
      · exact absurd (nI_le (by omega) (by omega)) c10
    | succ y ih =>
      intro i v hi hj
      refine GW.sub [0, 1] rfl (Nat.le_refl _) (Nat.le_refl _) (lv' := [(0, _), (1, _)]) ?_
      have acts : ∀ x c, c + x = 3 → GW z w 4 (gQ z w 0 0 (fun r' h'' => h'' = tR t h ρ ∧ ((r' = some (.int 1) ∧ ∀ i, i < 8 * n → clN (ρ 1 (i / 8)) T 3 (i / 8) (i % 8) ≤ 1) ∨ (r' = some (.int 0) ∧ ¬ ∀ i, i < 8 * n → clN (ρ 1 (i / 8)) T 3 (i / 8) (i % 8) ≤ 1)))) 0 0 32 [(0, .ref t), (1, .int (nI i)), (2, .int (nI (clN (ρ 1 (i / 8)) T c (i / 8) (i % 8)))), (3, .int (nI c))] [] (tR t h ρ) := by
        intro x
        induction x with
        | zero =>
          intro c hc
          have ec : c = 3 := by omega
          subst ec
          have hb : clN (ρ 1 (i / 8)) T 3 (i / 8) (i % 8) ≤ 4 := by
            have := clC_le T (i / 8) (i % 8) 3
            unfold clN
            split <;> omega
          refine g_iload_n C (gd DX6_oneWayEach_0 23 rfl) 3 rfl rfl ?_
          refine g_iconst (v := 3) C (gd DX6_oneWayEach_0 24 rfl) (by decide) ?_
          refine g_icmp_ge C 64 (gd DX6_oneWayEach_0 25 rfl) (by decide) (fun c34 => ?_) (fun c34 => ?_)
          · refine g_iload_n C (gd DX6_oneWayEach_0 43 rfl) 2 rfl rfl ?_
            refine g_iconst (v := 1) C (gd DX6_oneWayEach_0 44 rfl) (by decide) ?_
            refine g_icmp_le C 71 (gd DX6_oneWayEach_0 45 rfl) (by decide) (fun c66 => ?_) (fun c66 => ?_)
            · refine GW.sub [0, 1, 2, 3] rfl (Nat.le_refl _) (Nat.le_refl _) (lv' := [(0, _), (1, _), (2, _), (3, _)]) ?_
              refine g_iinc (lv' := [(0, _), (1, _), (2, _), (3, _)]) C (gd DX6_oneWayEach_0 48 rfl) 1 [1, 0, 2, 3] rfl rfl (by decide) rfl ?_
              refine g_goto (tgt := 2) C (gd DX6_oneWayEach_0 49 rfl) (by decide) ?_
              refine GW.sub [0, 1] rfl (Nat.le_refl _) (Nat.le_refl _) (lv' := [(0, _), (1, _)]) ?_
              refine GW.cast (by rw [inc1]; rfl) rfl rfl (ih (i + 1) [] (by omega) (fun j hj2 => ?_))
              by_cases e : j = i
              · subst e; exact (nI_leI (b := 1) (by omega) (by omega)).mp c66
              · exact hj j (by omega)
            · refine g_iconst (v := 0) C (gd DX6_oneWayEach_0 46 rfl) (by decide) ?_
              refine g_zret C (Or.inl rfl) (by omega) (by omega) ⟨rfl, Or.inr ⟨rfl, fun x => c66 (nI_le (b := 1) (x i (by omega)) (by omega))⟩⟩ (gd DX6_oneWayEach_0 47 rfl)
          · exact absurd (nI_le (a := 3) (b := 3) (by omega) (by omega)) c34
        | succ x ihx =>
          intro c hc
          have nx : ∀ v, v = nI (if T (i / 8) (3 * (i % 8) + c) = -1 then 0 else 1) → GW z w 4 (gQ z w 0 0 (fun r' h'' => h'' = tR t h ρ ∧ ((r' = some (.int 1) ∧ ∀ i, i < 8 * n → clN (ρ 1 (i / 8)) T 3 (i / 8) (i % 8) ≤ 1) ∨ (r' = some (.int 0) ∧ ¬ ∀ i, i < 8 * n → clN (ρ 1 (i / 8)) T 3 (i / 8) (i % 8) ≤ 1)))) 0 0 56 [(0, .ref t), (1, .int (nI i)), (2, .int (nI (clN (ρ 1 (i / 8)) T c (i / 8) (i % 8)))), (3, .int (nI c))] [.int v, .int (nI (clN (ρ 1 (i / 8)) T c (i / 8) (i % 8)))] (tR t h ρ) := by
            intro v hv
            refine g_iadd C (gd DX6_oneWayEach_0 39 rfl) ?_
            refine g_istore_n (lv' := [(0, _), (1, _), (2, _), (3, _)]) C (gd DX6_oneWayEach_0 40 rfl) [1, 2, 0, 3] rfl (by decide) rfl ?_
            refine g_iinc (lv' := [(0, _), (1, _), (2, _), (3, _)]) C (gd DX6_oneWayEach_0 41 rfl) 3 [1, 2, 3, 0] rfl rfl (by decide) rfl ?_
            refine g_goto (tgt := 32) C (gd DX6_oneWayEach_0 42 rfl) (by decide) ?_
            refine GW.cast ?_ rfl rfl (ihx (c + 1) (by omega))
            rw [inc1, hv, nI_add, show clN (ρ 1 (i / 8)) T (c + 1) (i / 8) (i % 8) = clN (ρ 1 (i / 8)) T c (i / 8) (i % 8) + (if T (i / 8) (3 * (i % 8) + c) = -1 then 0 else 1) from by unfold clN; rw [clC, Nat.add_assoc]]
          have eT : T (i / 8) (3 * (i % 8) + c) = ρ 3 (i * 3 + c) := by
            rw [← hT]
            show ρ 3 (24 * (i / 8) + (3 * (i % 8) + c)) = _
            congr 1
            omega
          refine g_iload_n C (gd DX6_oneWayEach_0 23 rfl) 3 rfl rfl ?_
          refine g_iconst (v := 3) C (gd DX6_oneWayEach_0 24 rfl) (by decide) ?_
          refine g_icmp_ge C 64 (gd DX6_oneWayEach_0 25 rfl) (by decide) (fun c34 => ?_) (fun c34 => ?_)
          · exact absurd c34 (nI_ge (a := c) (b := 3) (by omega) (by omega))
          · refine g_iload_n C (gd DX6_oneWayEach_0 26 rfl) 2 rfl rfl ?_
            refine g_aload_n C (gd DX6_oneWayEach_0 27 rfl) 0 rfl rfl ?_
            refine g_getr (ci := 6) (k := 3) C rfl (by decide) rfl lf_TestJudge_Table_22 ht.1 ht.2.2.2.1.1 (gd DX6_oneWayEach_0 28 rfl) ?_
            refine g_iload_n C (gd DX6_oneWayEach_0 29 rfl) 1 rfl rfl ?_
            refine g_iconst (v := 3) C (gd DX6_oneWayEach_0 30 rfl) (by decide) ?_
            refine g_imul C (gd DX6_oneWayEach_0 31 rfl) ?_
            refine g_iload_n C (gd DX6_oneWayEach_0 32 rfl) 3 rfl rfl ?_
            refine g_iadd C (gd DX6_oneWayEach_0 33 rfl) ?_
            refine g_iaj (j := ((i * 3) + c)) C ht.2.2.2.1.2.1 ht.2.2.2.1.2.2 (by first | decide | omega) (nx_add (nx_mul rfl rfl) rfl) (by omega) (gd DX6_oneWayEach_0 34 rfl) ?_
            rw [tR_at (by omega), ← eT]
            rcases o3.2 (i * 3 + c) (by omega) with e | ⟨j, hj, e⟩
            · rw [eT, e]
              refine g_if_ge C 55 (gd DX6_oneWayEach_0 35 rfl) (by decide) (fun c48 => ?_) (fun c48 => ?_)
              · exact absurd c48 (by decide)
              · refine g_iconst (v := 0) C (gd DX6_oneWayEach_0 36 rfl) (by decide) ?_
                refine g_goto (tgt := 56) C (gd DX6_oneWayEach_0 37 rfl) (by decide) ?_
                exact nx _ (by rw [eT, if_pos e]; rfl)
            · rw [eT, e]
              refine g_if_ge C 55 (gd DX6_oneWayEach_0 35 rfl) (by decide) (fun c48 => ?_) (fun c48 => ?_)
              · refine g_iconst (v := 1) C (gd DX6_oneWayEach_0 38 rfl) (by decide) ?_
                exact nx _ (by rw [eT, e, if_neg (nI_neg1 (by omega))]; rfl)
              · exact absurd (Int32.not_lt.mp (nI_nn (by omega))) c48
      refine g_iload_n C (gd DX6_oneWayEach_0 2 rfl) 1 rfl rfl ?_
      refine g_aload_n C (gd DX6_oneWayEach_0 3 rfl) 0 rfl rfl ?_
      refine g_geti (ci := 6) (k := 0) C rfl (by decide) rfl lf_TestJudge_Table_9 ht.1 (gd DX6_oneWayEach_0 4 rfl) ?_
      refine g_bipush (v := 8) C (gd DX6_oneWayEach_0 5 rfl) (by decide) ?_
      refine g_imul C (gd DX6_oneWayEach_0 6 rfl) ?_
      rw [tR_0, o2, e8]
      refine g_icmp_ge C 77 (gd DX6_oneWayEach_0 7 rfl) (by decide) (fun c10 => ?_) (fun c10 => ?_)
      · exact absurd c10 (nI_ge (by omega) (by omega))
      · refine g_aload_n C (gd DX6_oneWayEach_0 8 rfl) 0 rfl rfl ?_
        refine g_getr (ci := 6) (k := 1) C rfl (by decide) rfl lf_TestJudge_Table_15 ht.1 ht.2.1.1 (gd DX6_oneWayEach_0 9 rfl) ?_
        refine g_iload_n C (gd DX6_oneWayEach_0 10 rfl) 1 rfl rfl ?_
        refine g_bipush (v := 8) C (gd DX6_oneWayEach_0 11 rfl) (by decide) ?_
        refine g_idiv C (gd DX6_oneWayEach_0 12 rfl) (by decide) ?_
        refine g_iaj (j := (i / 8)) C ht.2.1.2.1 ht.2.1.2.2 (by first | decide | omega) (nx_div rfl rfl (by omega) (by decide) (by decide)) (by omega) (gd DX6_oneWayEach_0 13 rfl) ?_
        rw [tR_at (by omega)]
        refine g_iload_n C (gd DX6_oneWayEach_0 14 rfl) 1 rfl rfl ?_
        refine g_bipush (v := 8) C (gd DX6_oneWayEach_0 15 rfl) (by decide) ?_
        refine g_irem C (gd DX6_oneWayEach_0 16 rfl) (by decide) ?_
        rw [show nI i - nI i / 8 * 8 = nI (i % 8) from nx_rem (b := 8) rfl rfl (by omega) (by decide) (by decide)]
        refine g_ishr C (gd DX6_oneWayEach_0 17 rfl) ?_
        refine g_iconst (v := 1) C (gd DX6_oneWayEach_0 18 rfl) (by decide) ?_
        refine g_iand C (gd DX6_oneWayEach_0 19 rfl) ?_
        refine g_istore_n (lv' := [(0, _), (1, _), (2, _)]) C (gd DX6_oneWayEach_0 20 rfl) [1, 2, 0] rfl (by decide) rfl ?_
        refine g_iconst (v := 0) C (gd DX6_oneWayEach_0 21 rfl) (by decide) ?_
        refine g_istore_n (lv' := [(0, _), (1, _), (2, _), (3, _)]) C (gd DX6_oneWayEach_0 22 rfl) [1, 2, 3, 0] rfl (by decide) rfl ?_
        refine GW.cast ?_ rfl rfl (acts 3 0 rfl)
        rcases bit01 (ρ 1 (i / 8)) (k := i % 8) (by omega) with e | e
        · rw [e, clN, if_neg (by rw [e]; decide)]; rfl
        · rw [e, clN, if_pos e]; rfl
  rw [hT] at key
  refine g_iconst (v := 0) C (gd DX6_oneWayEach_0 0 rfl) (by decide) ?_
  refine g_istore_n (lv' := [(0, _), (1, _)]) C (gd DX6_oneWayEach_0 1 rfl) [1, 0] rfl (by decide) rfl ?_
  exact GW.cast rfl rfl rfl (key (8 * n) 0 [] (by omega) (fun j hj => by omega))
end C24
