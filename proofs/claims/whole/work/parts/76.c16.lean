/-! Table: kindBehind, goesOn, sameBehind, leaveOutEmpty -/
/-- the raw rows: N states and where they go -/
def tgO (N : Nat) (ρ : Nat → Nat → Int32) : Prop := (N ≤ 125 ∧ 0 < N) ∧ ρ 0 7 = nI N ∧ ∀ e, e < 24 * N → ρ 6 e = -1 ∨ ∃ j, j < N ∧ ρ 6 e = nI j
/-- the kind behind a letter -/
def kBe (G K : Nat → Int32) (i l : Nat) : Int32 := if G (24 * i + l) = -1 then -1 else K (G (24 * i + l)).toNatClampNeg
theorem kBe_n {G K : Nat → Int32} {i l : Nat} (h : G (24 * i + l) = -1) : kBe G K i l = -1 := if_pos h
theorem nI_neg1 {j : Nat} (hj : j < 2 ^ 31) : ¬ nI j = -1 := fun e => by
  have h1 : (nI j).toInt = (-1 : Int32).toInt := by rw [e]
  rw [nI_toInt hj] at h1
  have h2 : (-1 : Int32).toInt = -1 := rfl
  omega
theorem kBe_j {G K : Nat → Int32} {i l j : Nat} (hj : j < 2 ^ 31) (h : G (24 * i + l) = nI j) : kBe G K i l = K j := by
  unfold kBe
  rw [h, if_neg (nI_neg1 hj), nI_clamp hj]
theorem i24 (i l : Nat) : nI i * 24 + nI l = nI (24 * i + l) := by rw [show 24 * i + l = i * 24 + l by omega]; exact nx_add (nx_mul (b := 24) rfl rfl) rfl
def ctZ (K : Nat → Int32) : Nat → Nat
  | 0 => 0
  | n + 1 => ctZ K n + (if K n = -1 then 0 else 1)
theorem ctZ_le (K : Nat → Int32) : ∀ n, ctZ K n ≤ n
  | 0 => Nat.le_refl _
  | n + 1 => by have := ctZ_le K n; rw [ctZ]; split <;> omega
theorem ctZ_mono {K K' : Nat → Int32} : ∀ n, (∀ i, i < n → ¬ K i = -1 → ¬ K' i = -1) → ctZ K n ≤ ctZ K' n
  | 0, _ => Nat.le_refl _
  | n + 1, h => by
    have h1 := ctZ_mono n (fun i hi => h i (by omega))
    have h2 := h n (by omega)
    rw [ctZ, ctZ]
    by_cases e : K n = -1
    · rw [if_pos e]; omega
    · rw [if_neg e, if_neg (h2 e)]; omega
theorem ctZ_lt {K K' : Nat → Int32} : ∀ n, (∀ i, i < n → ¬ K i = -1 → ¬ K' i = -1) → (∃ i, i < n ∧ K i = -1 ∧ ¬ K' i = -1) → ctZ K n < ctZ K' n
  | 0, _, ⟨i, hi, _⟩ => by omega
  | n + 1, h, ⟨i, hi, h1, h2⟩ => by
    rw [ctZ, ctZ]
    by_cases e : i = n
    · subst e
      have h3 := ctZ_mono i (fun j hj => h j (by omega))
      rw [if_pos h1, if_neg h2]; omega
    · have h3 := ctZ_lt n (fun j hj => h j (by omega)) ⟨i, by omega, h1, h2⟩
      by_cases e2 : K n = -1
      · rw [if_pos e2]; omega
      · rw [if_neg e2, if_neg (h n (by omega) e2)]; omega
theorem ctZ_pos {K : Nat → Int32} {n i : Nat} (hi : i < n) (h : ¬ K i = -1) : 1 ≤ ctZ K n := by
  have := ctZ_lt (K := fun _ => -1) (K' := K) n (fun i _ x => absurd rfl x) ⟨i, hi, rfl, h⟩
  omega
section C16
variable {w : gD} {t : Nat} {h : HS}
theorem e_t_kindBehind (ht : tSh t h) {N : Nat} {ρ : Nat → Nat → Int32} (g : tgO N ρ) {i l : Nat} (hi : i < N) (hl : l < 24) : EvF w 0 0 0 yX6_kindBehind cX6_kindBehind 4 (some .int) [.ref t, .int (nI i), .int (nI l)] (tR t h ρ) (some (.int (kBe (ρ 6) (ρ 7) i l))) (tR t h ρ) := by
  refine g_start (by decide) (Nat.le_of_ble_eq_true rfl) [(0, _), (1, _), (2, _)] rfl (fun z hfl C => ?_)
  obtain ⟨⟨g0, -⟩, g1, g2⟩ := g
  refine g_aload_n C (gd DX6_kindBehind_0 0 rfl) 0 rfl rfl ?_
  refine g_getr (ci := 6) (k := 9) C rfl (by decide) rfl lf_TestJudge_Table_41 ht.1 ht.2.2.2.2.2.2.1.1 (gd DX6_kindBehind_0 1 rfl) ?_
  refine g_iload_n C (gd DX6_kindBehind_0 2 rfl) 1 rfl rfl ?_
  refine g_bipush (v := 24) C (gd DX6_kindBehind_0 3 rfl) (by decide) ?_
  refine g_imul C (gd DX6_kindBehind_0 4 rfl) ?_
  refine g_iload_n C (gd DX6_kindBehind_0 5 rfl) 2 rfl rfl ?_
  refine g_iadd C (gd DX6_kindBehind_0 6 rfl) ?_
  refine g_iaj (j := 24 * i + l) C ht.2.2.2.2.2.2.1.2.1 ht.2.2.2.2.2.2.1.2.2 (by first | decide | omega) (i24 i l) (by omega) (gd DX6_kindBehind_0 7 rfl) ?_
  rw [tR_at (by omega)]
  rcases g2 (24 * i + l) (by omega) with e | ⟨j, hj, e⟩
  · rw [e]
    refine g_istore_n (lv' := [(0, _), (1, _), (2, _), (3, _)]) C (gd DX6_kindBehind_0 8 rfl) [1, 2, 3, 0] rfl (by decide) rfl ?_
    refine g_iload_n C (gd DX6_kindBehind_0 9 rfl) 3 rfl rfl ?_
    refine g_if_lt C 24 (gd DX6_kindBehind_0 10 rfl) (by decide) (fun c13 => ?_) (fun c13 => ?_)
    · refine g_iconst (v := -1) C (gd DX6_kindBehind_0 15 rfl) (by decide) ?_
      refine g_goto (tgt := 34) C (gd DX6_kindBehind_0 16 rfl) (by decide) ?_
      exact g_iret C (by omega) (by omega) ⟨by rw [kBe_n e], rfl⟩ (gd DX6_kindBehind_0 21 rfl)
    · exact absurd (by decide) c13
  · rw [e]
    refine g_istore_n (lv' := [(0, _), (1, _), (2, _), (3, _)]) C (gd DX6_kindBehind_0 8 rfl) [1, 2, 3, 0] rfl (by decide) rfl ?_
    refine g_iload_n C (gd DX6_kindBehind_0 9 rfl) 3 rfl rfl ?_
    refine g_if_lt C 24 (gd DX6_kindBehind_0 10 rfl) (by decide) (fun c13 => ?_) (fun c13 => ?_)
    · exact absurd c13 (nI_nn (by omega))
    · refine g_iload_n C (gd DX6_kindBehind_0 11 rfl) 3 rfl rfl ?_
      refine g_aload_n C (gd DX6_kindBehind_0 12 rfl) 0 rfl rfl ?_
      refine g_geti (ci := 6) (k := 7) C rfl (by decide) rfl lf_TestJudge_Table_35 ht.1 (gd DX6_kindBehind_0 13 rfl) ?_
      rw [tR_0, g1]
      refine g_icmp_lt C 28 (gd DX6_kindBehind_0 14 rfl) (by decide) (fun c21 => ?_) (fun c21 => ?_)
      · refine g_aload_n C (gd DX6_kindBehind_0 17 rfl) 0 rfl rfl ?_
        refine g_getr (ci := 6) (k := 10) C rfl (by decide) rfl lf_TestJudge_Table_44 ht.1 ht.2.2.2.2.2.2.2.1.1 (gd DX6_kindBehind_0 18 rfl) ?_
        refine g_iload_n C (gd DX6_kindBehind_0 19 rfl) 3 rfl rfl ?_
        refine g_iaj (j := j) C ht.2.2.2.2.2.2.2.1.2.1 ht.2.2.2.2.2.2.2.1.2.2 (by first | decide | omega) rfl (by omega) (gd DX6_kindBehind_0 20 rfl) ?_
        rw [tR_at (by omega)]
        exact g_iret C (by omega) (by omega) ⟨by rw [kBe_j (by omega) e], rfl⟩ (gd DX6_kindBehind_0 21 rfl)
      · exact absurd (nI_lt hj (by omega)) c21
theorem e_t_goesOn (ht : tSh t h) {N : Nat} {ρ : Nat → Nat → Int32} (g : tgO N ρ) {i : Nat} (hi : i < N) : Ev w 1 0 0 yX6_goesOn cX6_goesOn 3 (some .boolean) [.ref t, .int (nI i)] (tR t h ρ) (fun r' h' => h' = tR t h ρ ∧ ((r' = some (.int 1) ∧ ∃ l, l < 24 ∧ ¬ kBe (ρ 6) (ρ 7) i l = -1) ∨ (r' = some (.int 0) ∧ ∀ l, l < 24 → kBe (ρ 6) (ρ 7) i l = -1))) := by
  refine g_start (by decide) (Nat.le_of_ble_eq_true rfl) [(0, _), (1, _)] rfl (fun z hfl C => ?_)
  have key : ∀ y l, l + y = 24 → (∀ k, k < l → kBe (ρ 6) (ρ 7) i k = -1) → GW z w 3 (gQ z w 0 0 (fun r' h'' => h'' = tR t h ρ ∧ ((r' = some (.int 1) ∧ ∃ l, l < 24 ∧ ¬ kBe (ρ 6) (ρ 7) i l = -1) ∨ (r' = some (.int 0) ∧ ∀ l, l < 24 → kBe (ρ 6) (ρ 7) i l = -1)))) 0 0 2 [(0, .ref t), (1, .int (nI i)), (2, .int (nI l))] [] (tR t h ρ) := by
    intro y
    induction y with
    | zero =>
      intro l hl hb
      refine g_iload_n C (gd DX6_goesOn_0 2 rfl) 2 rfl rfl ?_
      refine g_bipush (v := 24) C (gd DX6_goesOn_0 3 rfl) (by decide) ?_
      refine g_icmp_ge C 26 (gd DX6_goesOn_0 4 rfl) (by decide) (fun c5 => ?_) (fun c5 => ?_)
      · refine g_iconst (v := 0) C (gd DX6_goesOn_0 15 rfl) (by decide) ?_
        exact g_zret C (by decide) (by omega) (by omega) ⟨rfl, Or.inr ⟨rfl, fun k hk => hb k (by omega)⟩⟩ (gd DX6_goesOn_0 16 rfl)
      · exact absurd (nI_le (a := 24) (b := l) (by omega) (by omega)) c5
    | succ y ih =>
      intro l hl hb
      refine g_iload_n C (gd DX6_goesOn_0 2 rfl) 2 rfl rfl ?_
      refine g_bipush (v := 24) C (gd DX6_goesOn_0 3 rfl) (by decide) ?_
      refine g_icmp_ge C 26 (gd DX6_goesOn_0 4 rfl) (by decide) (fun c5 => ?_) (fun c5 => ?_)
      · exact absurd c5 (nI_ge (a := l) (b := 24) (by omega) (by omega))
      · refine g_aload_n C (gd DX6_goesOn_0 5 rfl) 0 rfl rfl ?_
        refine g_iload_n C (gd DX6_goesOn_0 6 rfl) 1 rfl rfl ?_
        refine g_iload_n C (gd DX6_goesOn_0 7 rfl) 2 rfl rfl ?_
        refine g_cV1 (ci := 6) C [_, _] mX6_kindBehind lm_TestJudge_Table_99 (by exact ht.1) rfl rfl (e_t_kindBehind ht g hi (by omega)) hfl (by first | decide | omega) (by decide) (by omega) (by omega) rfl rfl (Nat.le_of_ble_eq_true rfl) (gd DX6_goesOn_0 8 rfl) ?_
        refine g_iconst (v := -1) C (gd DX6_goesOn_0 9 rfl) (by decide) ?_
        refine g_icmp_eq C 20 (gd DX6_goesOn_0 10 rfl) (by decide) (fun c15 => ?_) (fun c15 => ?_)
        · refine g_iinc (lv' := [(0, _), (1, _), (2, _)]) C (gd DX6_goesOn_0 13 rfl) 2 [1, 2, 0] rfl rfl (by decide) rfl ?_
          refine g_goto (tgt := 2) C (gd DX6_goesOn_0 14 rfl) (by decide) ?_
          refine GW.cast (by rw [inc1]) rfl rfl (ih (l + 1) (by omega) (fun k hk => ?_))
          by_cases e : k = l
          · subst e; exact c15
          · exact hb k (by omega)
        · refine g_iconst (v := 1) C (gd DX6_goesOn_0 11 rfl) (by decide) ?_
          exact g_zret C (by decide) (by omega) (by omega) ⟨rfl, Or.inl ⟨rfl, l, by omega, c15⟩⟩ (gd DX6_goesOn_0 12 rfl)
  refine g_iconst (v := 0) C (gd DX6_goesOn_0 0 rfl) (by decide) ?_
  refine g_istore_n (lv' := [(0, _), (1, _), (2, _)]) C (gd DX6_goesOn_0 1 rfl) [1, 2, 0] rfl (by decide) rfl ?_
  exact key 24 0 rfl (fun k hk => by omega)
theorem e_t_sameBehind (ht : tSh t h) {N : Nat} {ρ : Nat → Nat → Int32} (g : tgO N ρ) {i j : Nat} (hi : i < N) (hj : j < N) : Ev w 1 0 0 yX6_sameBehind cX6_sameBehind 4 (some .boolean) [.ref t, .int (nI i), .int (nI j)] (tR t h ρ) (fun r' h' => h' = tR t h ρ ∧ ((r' = some (.int 1) ∧ ∀ l, l < 24 → kBe (ρ 6) (ρ 7) i l = kBe (ρ 6) (ρ 7) j l) ∨ (r' = some (.int 0) ∧ ¬ ∀ l, l < 24 → kBe (ρ 6) (ρ 7) i l = kBe (ρ 6) (ρ 7) j l))) := by
  refine g_start (by decide) (Nat.le_of_ble_eq_true rfl) [(0, _), (1, _), (2, _)] rfl (fun z hfl C => ?_)
  have key : ∀ y l, l + y = 24 → (∀ k, k < l → kBe (ρ 6) (ρ 7) i k = kBe (ρ 6) (ρ 7) j k) → GW z w 4 (gQ z w 0 0 (fun r' h'' => h'' = tR t h ρ ∧ ((r' = some (.int 1) ∧ ∀ l, l < 24 → kBe (ρ 6) (ρ 7) i l = kBe (ρ 6) (ρ 7) j l) ∨ (r' = some (.int 0) ∧ ¬ ∀ l, l < 24 → kBe (ρ 6) (ρ 7) i l = kBe (ρ 6) (ρ 7) j l)))) 0 0 2 [(0, .ref t), (1, .int (nI i)), (2, .int (nI j)), (3, .int (nI l))] [] (tR t h ρ) := by
    intro y
    induction y with
    | zero =>
      intro l hl hb
      refine g_iload_n C (gd DX6_sameBehind_0 2 rfl) 3 rfl rfl ?_
      refine g_bipush (v := 24) C (gd DX6_sameBehind_0 3 rfl) (by decide) ?_
      refine g_icmp_ge C 31 (gd DX6_sameBehind_0 4 rfl) (by decide) (fun c5 => ?_) (fun c5 => ?_)
      · refine g_iconst (v := 1) C (gd DX6_sameBehind_0 18 rfl) (by decide) ?_
        exact g_zret C (by decide) (by omega) (by omega) ⟨rfl, Or.inl ⟨rfl, fun k hk => hb k (by omega)⟩⟩ (gd DX6_sameBehind_0 19 rfl)
      · exact absurd (nI_le (a := 24) (b := l) (by omega) (by omega)) c5
    | succ y ih =>
      intro l hl hb
      refine g_iload_n C (gd DX6_sameBehind_0 2 rfl) 3 rfl rfl ?_
      refine g_bipush (v := 24) C (gd DX6_sameBehind_0 3 rfl) (by decide) ?_
      refine g_icmp_ge C 31 (gd DX6_sameBehind_0 4 rfl) (by decide) (fun c5 => ?_) (fun c5 => ?_)
      · exact absurd c5 (nI_ge (a := l) (b := 24) (by omega) (by omega))
      · refine g_aload_n C (gd DX6_sameBehind_0 5 rfl) 0 rfl rfl ?_
        refine g_iload_n C (gd DX6_sameBehind_0 6 rfl) 1 rfl rfl ?_
        refine g_iload_n C (gd DX6_sameBehind_0 7 rfl) 3 rfl rfl ?_
        refine g_cV1 (ci := 6) C [_, _] mX6_kindBehind lm_TestJudge_Table_99 (by exact ht.1) rfl rfl (e_t_kindBehind ht g hi (by omega)) hfl (by first | decide | omega) (by decide) (by omega) (by omega) rfl rfl (Nat.le_of_ble_eq_true rfl) (gd DX6_sameBehind_0 8 rfl) ?_
        refine g_aload_n C (gd DX6_sameBehind_0 9 rfl) 0 rfl rfl ?_
        refine g_iload_n C (gd DX6_sameBehind_0 10 rfl) 2 rfl rfl ?_
        refine g_iload_n C (gd DX6_sameBehind_0 11 rfl) 3 rfl rfl ?_
        refine g_cV1 (ci := 6) C [_, _] mX6_kindBehind lm_TestJudge_Table_99 (by exact ht.1) rfl rfl (e_t_kindBehind ht g hj (by omega)) hfl (by first | decide | omega) (by decide) (by omega) (by omega) rfl rfl (Nat.le_of_ble_eq_true rfl) (gd DX6_sameBehind_0 12 rfl) ?_
        refine g_icmp_eq C 25 (gd DX6_sameBehind_0 13 rfl) (by decide) (fun c20 => ?_) (fun c20 => ?_)
        · refine g_iinc (lv' := [(0, _), (1, _), (2, _), (3, _)]) C (gd DX6_sameBehind_0 16 rfl) 3 [1, 2, 3, 0] rfl rfl (by decide) rfl ?_
          refine g_goto (tgt := 2) C (gd DX6_sameBehind_0 17 rfl) (by decide) ?_
          refine GW.cast (by rw [inc1]) rfl rfl (ih (l + 1) (by omega) (fun k hk => ?_))
          by_cases e : k = l
          · subst e; exact c20
          · exact hb k (by omega)
        · refine g_iconst (v := 0) C (gd DX6_sameBehind_0 14 rfl) (by decide) ?_
          exact g_zret C (by decide) (by omega) (by omega) ⟨rfl, Or.inr ⟨rfl, fun x => c20 (x l (by omega))⟩⟩ (gd DX6_sameBehind_0 15 rfl)
  refine g_iconst (v := 0) C (gd DX6_sameBehind_0 0 rfl) (by decide) ?_
  refine g_istore_n (lv' := [(0, _), (1, _), (2, _), (3, _)]) C (gd DX6_sameBehind_0 1 rfl) [1, 2, 3, 0] rfl (by decide) rfl ?_
  exact key 24 0 rfl (fun k hk => by omega)
/-- kinds while empty ones are left out: what isn't -1 goes on to an end -/
def lvI (G E : Nat → Int32) (N : Nat) (K : Nat → Int32) : Prop := ∀ i, i < N → ((K i = -1 ∧ E i = 0) ∨ (K i = 0 ∧ Us G E i))
theorem e_t_leaveOutEmpty (ht : tSh t h) {N : Nat} {ρ : Nat → Nat → Int32} (g : tgO N ρ) : Ev w 2 0 0 yX6_leaveOutEmpty cX6_leaveOutEmpty 4 none [.ref t] (tR t h ρ) (fun r' h' => r' = none ∧ ∃ K, h' = tR t h (rset ρ 7 K) ∧ ∀ i, i < N → ((K i = -1 ∧ ¬ Us (ρ 6) (ρ 5) i) ∨ (K i = 0 ∧ Us (ρ 6) (ρ 5) i))) := by
  refine g_start (by decide) (Nat.le_of_ble_eq_true rfl) [(0, _)] rfl (fun z hfl C => ?_)
  have g0 := g
  obtain ⟨⟨g1, g2⟩, g3, g4⟩ := g
  have gk : ∀ K, tgO N (rset ρ 7 K) := fun K => ⟨⟨g1, g2⟩, by rw [rset_ne (by omega)]; exact g3, fun e he => by rw [rset_ne (by omega)]; exact g4 e he⟩
  have close : ∀ K, lvI (ρ 6) (ρ 5) N K → (∀ i, i < N → K i = -1 → ∀ l, l < 24 → kBe (ρ 6) K i l = -1) → ∀ i, i < N → ((K i = -1 ∧ ¬ Us (ρ 6) (ρ 5) i) ∨ (K i = 0 ∧ Us (ρ 6) (ρ 5) i)) := by
    intro K hK hc
    have no : ∀ d i, i < N → rch (ρ 6) (ρ 5) d i → ¬ K i = -1 := by
      intro d
      induction d with
      | zero =>
        intro i hi hr hk
        rcases hK i hi with ⟨_, x⟩ | ⟨x, _⟩
        · exact hr x
        · rw [x] at hk; exact absurd hk (by decide)
      | succ d ih =>
        intro i hi hr hk
        rcases hr with hr | ⟨l, j, hl, hg, hj, hr⟩
        · exact ih i hi hr hk
        · have hjN : j < N := by
            rcases g4 (24 * i + l) (by omega) with x | ⟨j', hj', x⟩
            · rw [x] at hg; exact absurd hg.symm (nI_neg1 (by omega))
            · rw [x] at hg
              have := (nI_eq (by omega) (by omega)).mp hg
              omega
          have := hc i hi hk l hl
          rw [kBe_j (by omega) hg] at this
          exact ih j hjN hr this
    intro i hi
    rcases hK i hi with ⟨x, _⟩ | x
    · exact Or.inl ⟨x, fun ⟨d, hd⟩ => no d i hi hd x⟩
    · exact Or.inr x
  have round : ∀ y r K mo v3, r + y = N → lvI (ρ 6) (ρ 5) N K → (mo = 0 ∨ mo = 1) → (mo = 0 → ∀ i, i < N → K i = -1 → ∀ l, l < 24 → kBe (ρ 6) K i l = -1) → (mo = 1 → r = 0 ∨ r + 1 ≤ ctZ K N) → GW z w 4 (gQ z w 0 0 (fun r' h'' => r' = none ∧ ∃ K, h'' = tR t h (rset ρ 7 K) ∧ ∀ i, i < N → ((K i = -1 ∧ ¬ Us (ρ 6) (ρ 5) i) ∨ (K i = 0 ∧ Us (ρ 6) (ρ 5) i)))) 0 0 40 ([(0, .ref t), (1, .int mo), (2, .int (nI r))] ++ v3) [] (tR t h (rset ρ 7 K)) := by
    intro y
    have out : ∀ K mo r v3, lvI (ρ 6) (ρ 5) N K → (∀ i, i < N → K i = -1 → ∀ l, l < 24 → kBe (ρ 6) K i l = -1) → GW z w 4 (gQ z w 0 0 (fun r' h'' => r' = none ∧ ∃ K, h'' = tR t h (rset ρ 7 K) ∧ ∀ i, i < N → ((K i = -1 ∧ ¬ Us (ρ 6) (ρ 5) i) ∨ (K i = 0 ∧ Us (ρ 6) (ρ 5) i)))) 0 0 104 ([(0, .ref t), (1, .int mo), (2, .int (nI r))] ++ v3) [] (tR t h (rset ρ 7 K)) := by
      intro K mo r v3 hK hc
      exact g_vret C (by omega) (by omega) ⟨rfl, K, rfl, close K hK hc⟩ (gd DX6_leaveOutEmpty_1 0 rfl)
    induction y with
    | zero =>
      intro r K mo v3 hr hK hmo hm0 hm1
      have hc := ctZ_le K N
      have hmz : mo = 0 := by
        rcases hmo with x | x
        · exact x
        · rcases hm1 x with y | y <;> omega
      refine GW.sub [0, 1, 2] rfl (Nat.le_refl _) (Nat.le_refl _) (lv' := [(0, _), (1, _), (2, _)]) ?_
      refine g_iload_n C (gd DX6_leaveOutEmpty_0 24 rfl) 2 rfl rfl ?_
      refine g_aload_n C (gd DX6_leaveOutEmpty_0 25 rfl) 0 rfl rfl ?_
      refine g_geti (ci := 6) (k := 7) C rfl (by decide) rfl lf_TestJudge_Table_35 ht.1 (gd DX6_leaveOutEmpty_0 26 rfl) ?_
      rw [tR_0, rset_ne (by omega), g3]
      refine g_icmp_ge C 104 (gd DX6_leaveOutEmpty_0 27 rfl) (by decide) (fun c45 => ?_) (fun c45 => ?_)
      · exact out K mo r [] hK (hm0 hmz)
      · exact absurd (nI_le (by omega) (by omega)) c45
    | succ y ih =>
      intro r K mo v3 hr hK hmo hm0 hm1
      refine GW.sub [0, 1, 2] rfl (Nat.le_refl _) (Nat.le_refl _) (lv' := [(0, _), (1, _), (2, _)]) ?_
      refine g_iload_n C (gd DX6_leaveOutEmpty_0 24 rfl) 2 rfl rfl ?_
      refine g_aload_n C (gd DX6_leaveOutEmpty_0 25 rfl) 0 rfl rfl ?_
      refine g_geti (ci := 6) (k := 7) C rfl (by decide) rfl lf_TestJudge_Table_35 ht.1 (gd DX6_leaveOutEmpty_0 26 rfl) ?_
      rw [tR_0, rset_ne (by omega), g3]
      refine g_icmp_ge C 104 (gd DX6_leaveOutEmpty_0 27 rfl) (by decide) (fun c45 => ?_) (fun c45 => ?_)
      · exact absurd c45 (nI_ge (by omega) (by omega))
      · refine g_iload_n C (gd DX6_leaveOutEmpty_0 28 rfl) 1 rfl rfl ?_
        refine g_if_eq C 104 (gd DX6_leaveOutEmpty_0 29 rfl) (by decide) (fun c49 => ?_) (fun c49 => ?_)
        · exact out K mo r [] hK (hm0 c49)
        · have hm1' : mo = 1 := by
            rcases hmo with x | x
            · exact absurd x c49
            · exact x
          have inner : ∀ x K' mo', x ≤ N → lvI (ρ 6) (ρ 5) N K' → (∀ i, i < N → ¬ K i = -1 → ¬ K' i = -1) → ((mo' = 0 ∧ (∀ i, x ≤ i → i < N → K' i = -1 → ∀ l, l < 24 → kBe (ρ 6) K' i l = -1) ∧ K' = K) ∨ (mo' = 1 ∧ ctZ K N < ctZ K' N ∧ 1 ≤ ctZ K N)) → GW z w 4 (gQ z w 0 0 (fun r' h'' => r' = none ∧ ∃ K, h'' = tR t h (rset ρ 7 K) ∧ ∀ i, i < N → ((K i = -1 ∧ ¬ Us (ρ 6) (ρ 5) i) ∨ (K i = 0 ∧ Us (ρ 6) (ρ 5) i)))) 0 0 61 [(0, .ref t), (1, .int mo'), (2, .int (nI r)), (3, .int (nI x - 1))] [] (tR t h (rset ρ 7 K')) := by
            intro x
            induction x with
            | zero =>
              intro K' mo' hx hK' hm hq
              refine g_iload_n C (gd DX6_leaveOutEmpty_0 37 rfl) 3 rfl rfl ?_
              refine g_if_lt C 98 (gd DX6_leaveOutEmpty_0 38 rfl) (by decide) (fun c62 => ?_) (fun c62 => ?_)
              · refine g_iinc (lv' := [(0, _), (1, _), (2, _), (3, _)]) C (gd DX6_leaveOutEmpty_0 58 rfl) 2 [1, 2, 0, 3] rfl rfl (by decide) rfl ?_
                refine g_goto (tgt := 40) C (gd DX6_leaveOutEmpty_0 59 rfl) (by decide) ?_
                refine GW.sub [0, 1, 2] rfl (Nat.le_refl _) (Nat.le_refl _) (lv' := [(0, _), (1, _), (2, _)]) ?_
                refine GW.cast (by rw [inc1]; rfl) rfl rfl (ih (r + 1) K' mo' [] (by omega) hK' (by rcases hq with q | q; exact Or.inl q.1; exact Or.inr q.1) (fun e => ?_) (fun e => ?_))
                · rcases hq with ⟨-, q, -⟩ | ⟨q, -⟩
                  · exact fun i hi => q i (by omega) hi
                  · rw [q] at e; exact absurd e (by decide)
                · rcases hq with ⟨q, -⟩ | ⟨-, q1, q2⟩
                  · rw [q] at e; exact absurd e (by decide)
                  · rcases hm1 hm1' with u | u
                    · right; omega
                    · right; omega
              · exact absurd (by decide) c62
            | succ x ihx =>
              intro K' mo' hx hK' hm hq
              have ex : nI (x + 1) - 1 = nI x := nx_sub (b := 1) rfl rfl (by omega)
              have nx : ∀ K2 mo2, lvI (ρ 6) (ρ 5) N K2 → (∀ i, i < N → ¬ K i = -1 → ¬ K2 i = -1) → ((mo2 = 0 ∧ (∀ i, x ≤ i → i < N → K2 i = -1 → ∀ l, l < 24 → kBe (ρ 6) K2 i l = -1) ∧ K2 = K) ∨ (mo2 = 1 ∧ ctZ K N < ctZ K2 N ∧ 1 ≤ ctZ K N)) → GW z w 4 (gQ z w 0 0 (fun r' h'' => r' = none ∧ ∃ K, h'' = tR t h (rset ρ 7 K) ∧ ∀ i, i < N → ((K i = -1 ∧ ¬ Us (ρ 6) (ρ 5) i) ∨ (K i = 0 ∧ Us (ρ 6) (ρ 5) i)))) 0 0 92 [(0, .ref t), (1, .int mo2), (2, .int (nI r)), (3, .int (nI x))] [] (tR t h (rset ρ 7 K2)) := by
                intro K2 mo2 a1 a2 a3
                refine g_iinc (lv' := [(0, _), (1, _), (2, _), (3, _)]) C (gd DX6_leaveOutEmpty_0 56 rfl) 3 [1, 2, 3, 0] rfl rfl (by decide) rfl ?_
                refine g_goto (tgt := 61) C (gd DX6_leaveOutEmpty_0 57 rfl) (by decide) ?_
                refine GW.cast (by rw [show nI x + Int32.ofInt (-1) = nI x - 1 from by rw [Int32.sub_eq_add_neg]; rfl]) rfl rfl (ihx K2 mo2 (by omega) a1 a2 a3)
              rw [ex]
              refine g_iload_n C (gd DX6_leaveOutEmpty_0 37 rfl) 3 rfl rfl ?_
              refine g_if_lt C 98 (gd DX6_leaveOutEmpty_0 38 rfl) (by decide) (fun c62 => ?_) (fun c62 => ?_)
              · exact absurd c62 (nI_nn (by omega))
              · refine g_aload_n C (gd DX6_leaveOutEmpty_0 39 rfl) 0 rfl rfl ?_
                refine g_getr (ci := 6) (k := 10) C rfl (by decide) rfl lf_TestJudge_Table_44 ht.1 ht.2.2.2.2.2.2.2.1.1 (gd DX6_leaveOutEmpty_0 40 rfl) ?_
                refine g_iload_n C (gd DX6_leaveOutEmpty_0 41 rfl) 3 rfl rfl ?_
                refine g_iaj (j := x) C ht.2.2.2.2.2.2.2.1.2.1 ht.2.2.2.2.2.2.2.1.2.2 (by first | decide | omega) rfl (by omega) (gd DX6_leaveOutEmpty_0 42 rfl) ?_
                rw [tR_at (by omega), rset_eq]
                refine g_iconst (v := -1) C (gd DX6_leaveOutEmpty_0 43 rfl) (by decide) ?_
                refine g_icmp_ne C 92 (gd DX6_leaveOutEmpty_0 44 rfl) (by decide) (fun c72 => ?_) (fun c72 => ?_)
                · refine nx K' mo' hK' hm ?_
                  rcases hq with ⟨q1, q2, q3⟩ | q
                  · refine Or.inl ⟨q1, fun i h1 h2 h3 => ?_, q3⟩
                    by_cases e : i = x
                    · subst e; exact absurd h3 c72
                    · exact q2 i (by omega) h2 h3
                  · exact Or.inr q
                · have hkx : K' x = -1 := c72
                  refine g_aload_n C (gd DX6_leaveOutEmpty_0 45 rfl) 0 rfl rfl ?_
                  refine g_iload_n C (gd DX6_leaveOutEmpty_0 46 rfl) 3 rfl rfl ?_
                  refine g_callV (ci := 6) C [_] mX6_goesOn lm_TestJudge_Table_95 (by exact ht.1) rfl rfl (e_t_goesOn ht (gk K') (by omega)) hfl (by first | decide | omega) (by decide) (by omega) (by omega) rfl rfl (Nat.le_of_ble_eq_true rfl) (gd DX6_leaveOutEmpty_0 47 rfl) (fun r h2 hp => ?_)
                  obtain ⟨rfl, ⟨rfl, l, hl, hne⟩ | ⟨rfl, hall⟩⟩ := hp
                  · rw [rset_ne (show 6 ≠ 7 by omega), rset_eq] at hne
                    show GW z w 4 _ 0 0 _ _ [.int 1] _
                    refine g_if_eq C 92 (gd DX6_leaveOutEmpty_0 48 rfl) (by decide) (fun c80 => ?_) (fun c80 => ?_)
                    · exact absurd c80 (by decide)
                    · refine g_aload_n C (gd DX6_leaveOutEmpty_0 49 rfl) 0 rfl rfl ?_
                      refine g_getr (ci := 6) (k := 10) C rfl (by decide) rfl lf_TestJudge_Table_44 ht.1 ht.2.2.2.2.2.2.2.1.1 (gd DX6_leaveOutEmpty_0 50 rfl) ?_
                      refine g_iload_n C (gd DX6_leaveOutEmpty_0 51 rfl) 3 rfl rfl ?_
                      refine g_iconst (v := 0) C (gd DX6_leaveOutEmpty_0 52 rfl) (by decide) ?_
                      refine g_isj (j := x) C ht.2.2.2.2.2.2.2.1.2.1 ht.2.2.2.2.2.2.2.1.2.2 (by first | decide | omega) rfl (by omega) (gd DX6_leaveOutEmpty_0 53 rfl) ?_
                      refine g_iconst (v := 1) C (gd DX6_leaveOutEmpty_0 54 rfl) (by decide) ?_
                      refine g_istore_n (lv' := [(0, _), (1, _), (2, _), (3, _)]) C (gd DX6_leaveOutEmpty_0 55 rfl) [1, 0, 2, 3] rfl (by decide) rfl ?_
                      rw [tR_i (by omega), rset_eq, rset_rset]
                      obtain ⟨j, hj, ej⟩ : ∃ j, j < N ∧ ρ 6 (24 * x + l) = nI j := by
                        rcases g4 (24 * x + l) (by omega) with u | u
                        · exact absurd (kBe_n u) hne
                        · exact u
                      rw [kBe_j (by omega) ej] at hne
                      have hus : Us (ρ 6) (ρ 5) j := by
                        rcases hK' j hj with ⟨u, _⟩ | ⟨_, u⟩
                        · exact absurd u hne
                        · exact u
                      have hlt : ctZ K' N < ctZ (upd K' x 0) N := ctZ_lt N (fun i hi hi2 => by unfold upd; split; decide; exact hi2) ⟨x, by omega, hkx, by rw [upd, if_pos rfl]; decide⟩
                      have hmono := ctZ_mono N hm
                      refine nx (upd K' x 0) 1 (fun i hi => ?_) (fun i hi hi2 => ?_) (Or.inr ⟨rfl, by omega, ?_⟩)
                      · by_cases e : i = x
                        · subst e; right; rw [upd, if_pos rfl]; exact ⟨rfl, Us_step hl (by omega) ej hus⟩
                        · rw [upd, if_neg e]; exact hK' i hi
                      · unfold upd
                        split
                        · decide
                        · exact hm i hi hi2
                      · rcases hq with ⟨-, -, q3⟩ | ⟨-, -, q3⟩
                        · rw [← q3]; exact ctZ_pos hj hne
                        · exact q3
                  · rw [rset_ne (show 6 ≠ 7 by omega), rset_eq] at hall
                    show GW z w 4 _ 0 0 _ _ [.int 0] _
                    refine g_if_eq C 92 (gd DX6_leaveOutEmpty_0 48 rfl) (by decide) (fun c80 => ?_) (fun c80 => ?_)
                    · refine nx K' mo' hK' hm ?_
                      rcases hq with ⟨q1, q2, q3⟩ | q
                      · refine Or.inl ⟨q1, fun i h1 h2 h3 => ?_, q3⟩
                        by_cases e : i = x
                        · subst e; exact hall
                        · exact q2 i (by omega) h2 h3
                      · exact Or.inr q
                    · exact absurd rfl c80
          refine g_iconst (v := 0) C (gd DX6_leaveOutEmpty_0 30 rfl) (by decide) ?_
          refine g_istore_n (lv' := [(0, _), (1, _), (2, _)]) C (gd DX6_leaveOutEmpty_0 31 rfl) [1, 0, 2] rfl (by decide) rfl ?_
          refine g_aload_n C (gd DX6_leaveOutEmpty_0 32 rfl) 0 rfl rfl ?_
          refine g_geti (ci := 6) (k := 7) C rfl (by decide) rfl lf_TestJudge_Table_35 ht.1 (gd DX6_leaveOutEmpty_0 33 rfl) ?_
          rw [tR_0, rset_ne (by omega), g3]
          refine g_iconst (v := 1) C (gd DX6_leaveOutEmpty_0 34 rfl) (by decide) ?_
          refine g_isub C (gd DX6_leaveOutEmpty_0 35 rfl) ?_
          refine g_istore_n (lv' := [(0, _), (1, _), (2, _), (3, _)]) C (gd DX6_leaveOutEmpty_0 36 rfl) [1, 2, 3, 0] rfl (by decide) rfl ?_
          exact inner N K 0 (Nat.le_refl _) hK (fun i _ h => h) (Or.inl ⟨rfl, fun i h1 h2 => by omega, rfl⟩)
  have first : ∀ y i K, i + y = N → (∀ j, j < i → K j = if ρ 5 j = 0 then -1 else 0) → GW z w 4 (gQ z w 0 0 (fun r' h'' => r' = none ∧ ∃ K, h'' = tR t h (rset ρ 7 K) ∧ ∀ i, i < N → ((K i = -1 ∧ ¬ Us (ρ 6) (ρ 5) i) ∨ (K i = 0 ∧ Us (ρ 6) (ρ 5) i)))) 0 0 2 [(0, .ref t), (1, .int (nI i))] [] (tR t h (rset ρ 7 K)) := by
    intro y
    induction y with
    | zero =>
      intro i K hi hK
      refine g_iload_n C (gd DX6_leaveOutEmpty_0 2 rfl) 1 rfl rfl ?_
      refine g_aload_n C (gd DX6_leaveOutEmpty_0 3 rfl) 0 rfl rfl ?_
      refine g_geti (ci := 6) (k := 7) C rfl (by decide) rfl lf_TestJudge_Table_35 ht.1 (gd DX6_leaveOutEmpty_0 4 rfl) ?_
      rw [tR_0, rset_ne (by omega), g3]
      refine g_icmp_ge C 36 (gd DX6_leaveOutEmpty_0 5 rfl) (by decide) (fun c7 => ?_) (fun c7 => ?_)
      · refine g_iconst (v := 1) C (gd DX6_leaveOutEmpty_0 20 rfl) (by decide) ?_
        refine g_istore_n (lv' := [(0, _), (1, _)]) C (gd DX6_leaveOutEmpty_0 21 rfl) [1, 0] rfl (by decide) rfl ?_
        refine g_iconst (v := 0) C (gd DX6_leaveOutEmpty_0 22 rfl) (by decide) ?_
        refine g_istore_n (lv' := [(0, _), (1, _), (2, _)]) C (gd DX6_leaveOutEmpty_0 23 rfl) [1, 2, 0] rfl (by decide) rfl ?_
        refine GW.cast rfl rfl rfl (round N 0 K 1 [] (by omega) (fun j hj => ?_) (Or.inr rfl) (fun e => absurd e (by decide)) (fun _ => Or.inl rfl))
        rw [hK j (by omega)]
        by_cases e : ρ 5 j = 0
        · rw [if_pos e]; exact Or.inl ⟨rfl, e⟩
        · rw [if_neg e]; exact Or.inr ⟨rfl, 0, e⟩
      · exact absurd (nI_le (by omega) (by omega)) c7
    | succ y ih =>
      intro i K hi hK
      have nx : ∀ v, v = (if ρ 5 i = 0 then -1 else 0) → GW z w 4 (gQ z w 0 0 (fun r' h'' => r' = none ∧ ∃ K, h'' = tR t h (rset ρ 7 K) ∧ ∀ i, i < N → ((K i = -1 ∧ ¬ Us (ρ 6) (ρ 5) i) ∨ (K i = 0 ∧ Us (ρ 6) (ρ 5) i)))) 0 0 29 [(0, .ref t), (1, .int (nI i))] [.int v, .int (nI i), .ref (t + 7)] (tR t h (rset ρ 7 K)) := by
        intro v hv
        refine g_isj (j := i) C ht.2.2.2.2.2.2.2.1.2.1 ht.2.2.2.2.2.2.2.1.2.2 (by first | decide | omega) rfl (by omega) (gd DX6_leaveOutEmpty_0 17 rfl) ?_
        refine g_iinc (lv' := [(0, _), (1, _)]) C (gd DX6_leaveOutEmpty_0 18 rfl) 1 [1, 0] rfl rfl (by decide) rfl ?_
        refine g_goto (tgt := 2) C (gd DX6_leaveOutEmpty_0 19 rfl) (by decide) ?_
        rw [tR_i (by omega), rset_eq, rset_rset]
        refine GW.cast (by rw [inc1]) rfl rfl (ih (i + 1) _ (by omega) (fun j hj => ?_))
        by_cases e : j = i
        · subst e; rw [upd, if_pos rfl]; exact hv
        · rw [upd, if_neg e]; exact hK j (by omega)
      refine g_iload_n C (gd DX6_leaveOutEmpty_0 2 rfl) 1 rfl rfl ?_
      refine g_aload_n C (gd DX6_leaveOutEmpty_0 3 rfl) 0 rfl rfl ?_
      refine g_geti (ci := 6) (k := 7) C rfl (by decide) rfl lf_TestJudge_Table_35 ht.1 (gd DX6_leaveOutEmpty_0 4 rfl) ?_
      rw [tR_0, rset_ne (by omega), g3]
      refine g_icmp_ge C 36 (gd DX6_leaveOutEmpty_0 5 rfl) (by decide) (fun c7 => ?_) (fun c7 => ?_)
      · exact absurd c7 (nI_ge (by omega) (by omega))
      · refine g_aload_n C (gd DX6_leaveOutEmpty_0 6 rfl) 0 rfl rfl ?_
        refine g_getr (ci := 6) (k := 10) C rfl (by decide) rfl lf_TestJudge_Table_44 ht.1 ht.2.2.2.2.2.2.2.1.1 (gd DX6_leaveOutEmpty_0 7 rfl) ?_
        refine g_iload_n C (gd DX6_leaveOutEmpty_0 8 rfl) 1 rfl rfl ?_
        refine g_aload_n C (gd DX6_leaveOutEmpty_0 9 rfl) 0 rfl rfl ?_
        refine g_getr (ci := 6) (k := 8) C rfl (by decide) rfl lf_TestJudge_Table_38 ht.1 ht.2.2.2.2.2.1.1 (gd DX6_leaveOutEmpty_0 10 rfl) ?_
        refine g_iload_n C (gd DX6_leaveOutEmpty_0 11 rfl) 1 rfl rfl ?_
        refine g_iaj (j := i) C ht.2.2.2.2.2.1.2.1 ht.2.2.2.2.2.1.2.2 (by first | decide | omega) rfl (by omega) (gd DX6_leaveOutEmpty_0 12 rfl) ?_
        rw [tR_at (by omega), rset_ne (by omega)]
        refine g_if_ne C 28 (gd DX6_leaveOutEmpty_0 13 rfl) (by decide) (fun c21 => ?_) (fun c21 => ?_)
        · refine g_iconst (v := 0) C (gd DX6_leaveOutEmpty_0 16 rfl) (by decide) ?_
          exact nx _ (if_neg c21).symm
        · refine g_iconst (v := -1) C (gd DX6_leaveOutEmpty_0 14 rfl) (by decide) ?_
          refine g_goto (tgt := 29) C (gd DX6_leaveOutEmpty_0 15 rfl) (by decide) ?_
          exact nx _ (if_pos c21).symm
  refine g_iconst (v := 0) C (gd DX6_leaveOutEmpty_0 0 rfl) (by decide) ?_
  refine g_istore_n (lv' := [(0, _), (1, _)]) C (gd DX6_leaveOutEmpty_0 1 rfl) [1, 0] rfl (by decide) rfl ?_
  refine GW.cast rfl rfl ?_ (first N 0 (ρ 7) (by omega) (fun j hj => by omega))
  rw [rset_self]
end C16
