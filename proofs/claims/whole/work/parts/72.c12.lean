/-! Search: foundLength, foundPlace -/
theorem bfs_back (sc : Int64 → Nat → Option Int64) : ∀ e (j : Nat) (q : Int64 × Nat), (bfs sc e)[j]? = some q → 0 < j → q.2 / 24 < j := by
  intro e
  induction e with
  | zero =>
    intro j q hq hj
    have := (List.getElem?_eq_some_iff.mp hq).1
    simp [bfs] at this
    omega
  | succ e ih =>
    intro j q hq hj
    rcases bfs_grow sc e with x | ⟨k, x, y⟩
    · rw [x] at hq; exact ih j q hq hj
    · rw [x] at hq
      by_cases e1 : j < (bfs sc e).length
      · rw [List.getElem?_append_left e1] at hq; exact ih j q hq hj
      · have h1 := (List.getElem?_eq_some_iff.mp hq).1
        rw [List.length_append] at h1
        simp at h1
        have e2 : j = (bfs sc e).length := by omega
        subst e2
        rw [List.getElem?_append_right (Nat.le_refl _)] at hq
        simp at hq
        rw [← hq]
        exact y
/-- the way back from s to the beginning, of n steps -/
def wayL (L : List (Int64 × Nat)) (s n : Nat) (f : Nat → Nat) : Prop := f 0 = s ∧ f n = 0 ∧ n ≤ s ∧ s < L.length ∧ ∀ d, d < n → 0 < f d ∧ f d < L.length ∧ ∃ q : Int64 × Nat, L[f d]? = some q ∧ q.2 / 24 = f (d + 1)
theorem wayL_ex {L : List (Int64 × Nat)} (hb : ∀ (j : Nat) (q : Int64 × Nat), L[j]? = some q → 0 < j → q.2 / 24 < j) : ∀ b s, s < b → s < L.length → ∃ n f, wayL L s n f := by
  intro b
  induction b with
  | zero => intro s hs; omega
  | succ b ih =>
    intro s hsb hs
    by_cases e : s = 0
    · subst e; exact ⟨0, fun _ => 0, rfl, rfl, by omega, hs, fun d hd => by omega⟩
    · obtain ⟨q, hq⟩ : ∃ q, L[s]? = some q := ⟨_, List.getElem?_eq_getElem hs⟩
      have h1 := hb s q hq (by omega)
      obtain ⟨n, f, f0, fn, hn, hl, hf⟩ := ih (q.2 / 24) (by omega) (by omega)
      refine ⟨n + 1, fun d => if d = 0 then s else f (d - 1), if_pos rfl, ?_, by omega, hs, fun d hd => ?_⟩
      · show (if n + 1 = 0 then s else f (n + 1 - 1)) = 0
        rw [if_neg (by omega)]; exact fn
      · cases d with
        | zero => exact ⟨by show 0 < (if 0 = 0 then s else _); rw [if_pos rfl]; omega, by show (if 0 = 0 then s else _) < _; rw [if_pos rfl]; exact hs, q, by show L[(if 0 = 0 then s else _)]? = _; rw [if_pos rfl]; exact hq, by show q.2 / 24 = (if 0 + 1 = 0 then s else f (0 + 1 - 1)); rw [if_neg (by omega)]; exact f0.symm⟩
        | succ d =>
          have := hf d (by omega)
          show 0 < (if d + 1 = 0 then s else f (d + 1 - 1)) ∧ (if d + 1 = 0 then s else f (d + 1 - 1)) < L.length ∧ ∃ q : Int64 × Nat, L[(if d + 1 = 0 then s else f (d + 1 - 1))]? = some q ∧ q.2 / 24 = (if d + 1 + 1 = 0 then s else f (d + 1 + 1 - 1))
          rw [if_neg (by omega), if_neg (by omega)]
          exact this
/-- the k-th place of the string that ends in s with an atom; -1: there is none -/
noncomputable def plA (L : List (Int64 × Nat)) (n : Nat) (f : Nat → Nat) (atom : Int32) (j : Nat) : Int32 := if 2 * n < j then -1 else if j = 2 * n then atom else if j % 2 = 0 then nI (((L[f (n - 1 - j / 2)]?).getD (0, 0)).2 % 24 / 3) else nI (((L[f (n - 1 - j / 2)]?).getD (0, 0)).2 % 24 % 3)
theorem dec1 (i : Nat) : nI (i + 1) + Int32.ofInt (-1) = nI i := by
  rw [show Int32.ofInt (-1) = -1 by rfl]
  have := nx_sub (x := nI (i + 1)) (y := 1) (a := i + 1) (b := 1) rfl rfl (by omega)
  rw [show nI (i + 1) + -1 = nI (i + 1) - 1 by rw [Int32.sub_eq_add_neg], this]
  rfl
section C12
variable {w : gD} {s : Nat} {h : HS}
theorem e_s_foundLength (hs : sSh s h) {L : List (Int64 × Nat)} {F BH NU SI CA : Nat → Int32} (q : sQ L F NU SI CA) (hl : L.length ≤ 16385) (hL : ∀ (j : Nat) (p : Int64 × Nat), L[j]? = some p → p.2 < 1000000) {i n : Nat} {f : Nat → Nat} (h13 : F 13 = nI i) (wy : wayL L i n f) :
    EvF w 0 0 0 yX5_foundLength cX5_foundLength 3 (some .int) [.ref s] (hS s h F BH NU SI CA) (some (.int (nI n))) (hS s h F BH NU SI CA) := by
  refine g_start (by decide) (Nat.le_of_ble_eq_true rfl) [(0, _)] rfl (fun z hfl C => ?_)
  obtain ⟨f0, fn, hn, hi, hf⟩ := wy
  have loop : ∀ y d, d + y = n → GW z w 3 (gQ z w 0 0 (fun r' h'' => r' = some (.int (nI n)) ∧ h'' = hS s h F BH NU SI CA)) 0 0 7 [(0, .ref s), (1, .int (nI d)), (2, .int (nI (f d)))] [] (hS s h F BH NU SI CA) := by
    intro y
    induction y with
    | zero =>
      intro d hd
      have e : d = n := by omega
      subst e
      rw [fn]
      refine g_iload_n C (gd DX5_foundLength_0 5 rfl) 2 rfl rfl ?_
      refine g_if_le C 41 (gd DX5_foundLength_0 6 rfl) (by decide) (fun c8 => ?_) (fun c8 => ?_)
      · refine g_iload_n C (gd DX5_foundLength_0 22 rfl) 1 rfl rfl ?_
        exact g_iret C (by omega) (by omega) ⟨rfl, rfl⟩ (gd DX5_foundLength_0 23 rfl)
      · exact absurd (by decide) c8
    | succ y ih =>
      intro d hd
      obtain ⟨g1, g2, p, g3, g4⟩ := hf d (by omega)
      have hp := hL _ p g3
      refine g_iload_n C (gd DX5_foundLength_0 5 rfl) 2 rfl rfl ?_
      refine g_if_le C 41 (gd DX5_foundLength_0 6 rfl) (by decide) (fun c8 => ?_) (fun c8 => ?_)
      · exact absurd c8 (fun x => by have := Int32.le_iff_toInt_le.mp x; rw [nI_toInt (by omega)] at this; have h0 : (0 : Int32).toInt = 0 := rfl; omega)
      · have hfd := (List.getElem?_eq_some_iff.mp g3).1
        refine g_iload_n C (gd DX5_foundLength_0 7 rfl) 2 rfl rfl ?_
        refine g_sipush (v := 16385) C (gd DX5_foundLength_0 8 rfl) (by decide) ?_
        refine g_icmp_ge C 41 (gd DX5_foundLength_0 9 rfl) (by decide) (fun c15 => ?_) (fun c15 => ?_)
        · exact absurd c15 (nI_ge (a := f d) (b := 16385) (by omega) (by omega))
        refine g_iload_n C (gd DX5_foundLength_0 10 rfl) 1 rfl rfl ?_
        refine g_sipush (v := 16385) C (gd DX5_foundLength_0 11 rfl) (by decide) ?_
        refine g_icmp_ge C 41 (gd DX5_foundLength_0 12 rfl) (by decide) (fun c22 => ?_) (fun c22 => ?_)
        · exact absurd c22 (nI_ge (a := d) (b := 16385) (by omega) (by omega))
        · refine g_aload_n C (gd DX5_foundLength_0 13 rfl) 0 rfl rfl ?_
          refine g_getr (ci := 5) (k := 17) C rfl (by decide) rfl lf_TestJudge_Search_68 hs.1 hs.2.2.2.2.2.2.2.1.1 (gd DX5_foundLength_0 14 rfl) ?_
          refine g_iload_n C (gd DX5_foundLength_0 15 rfl) 2 rfl rfl ?_
          refine g_iaj (j := f d) C hs.2.2.2.2.2.2.2.1.2.1 hs.2.2.2.2.2.2.2.1.2.2 (by first | decide | omega) rfl (by omega) (gd DX5_foundLength_0 16 rfl) ?_
          rw [hS_16, (q.2.1 _ p g3).2.1]
          refine g_bipush (v := 24) C (gd DX5_foundLength_0 17 rfl) (by decide) ?_
          refine g_idiv C (gd DX5_foundLength_0 18 rfl) (by decide) ?_
          rw [show nI p.2 / 24 = nI (p.2 / 24) from nx_div (b := 24) rfl rfl (by omega) (by decide) (by decide), g4]
          refine g_istore_n (lv' := [(0, _), (1, _), (2, _)]) C (gd DX5_foundLength_0 19 rfl) [1, 2, 0] rfl (by decide) rfl ?_
          refine g_iinc (lv' := [(0, _), (1, _), (2, _)]) C (gd DX5_foundLength_0 20 rfl) 1 [1, 0, 2] rfl rfl (by decide) rfl ?_
          refine g_goto (tgt := 7) C (gd DX5_foundLength_0 21 rfl) (by decide) ?_
          exact GW.cast (by rw [inc1]) rfl rfl (ih (d + 1) (by omega))
  refine g_iconst (v := 0) C (gd DX5_foundLength_0 0 rfl) (by decide) ?_
  refine g_istore_n (lv' := [(0, _), (1, _)]) C (gd DX5_foundLength_0 1 rfl) [1, 0] rfl (by decide) rfl ?_
  refine g_aload_n C (gd DX5_foundLength_0 2 rfl) 0 rfl rfl ?_
  refine g_geti (ci := 5) (k := 13) C rfl (by decide) rfl lf_TestJudge_Search_56 hs.1 (gd DX5_foundLength_0 3 rfl) ?_
  rw [hS_0, h13]
  refine g_istore_n (lv' := [(0, _), (1, _), (2, _)]) C (gd DX5_foundLength_0 4 rfl) [1, 2, 0] rfl (by decide) rfl ?_
  exact GW.cast (by rw [f0]; rfl) rfl rfl (loop n 0 (by omega))
theorem e_s_foundPlace (hs : sSh s h) {L : List (Int64 × Nat)} {F BH NU SI CA : Nat → Int32} (q : sQ L F NU SI CA) (hl : L.length ≤ 16385) (hL : ∀ (j : Nat) (p : Int64 × Nat), L[j]? = some p → p.2 < 1000000) {i n j : Nat} {f : Nat → Nat} (h13 : F 13 = nI i) (wy : wayL L i n f) (hj : j < 2 ^ 31) :
    EvF w 1 0 0 yX5_foundPlace cX5_foundPlace 5 (some .int) [.ref s, .int (nI j)] (hS s h F BH NU SI CA) (some (.int (plA L n f (F 14) j))) (hS s h F BH NU SI CA) := by
  refine g_start (by decide) (Nat.le_of_ble_eq_true rfl) [(0, _), (1, _)] rfl (fun z hfl C => ?_)
  have wy0 := wy
  obtain ⟨f0, fn, hn, hi, hf⟩ := wy
  generalize hV : plA L n f (F 14) j = V
  have e2n : (2 : Int32) * nI n = nI (2 * n) := nx_mul (a := 2) rfl rfl
  refine g_aload_n C (gd DX5_foundPlace_0 0 rfl) 0 rfl rfl ?_
  refine g_cV1 (ci := 5) C [] mX5_foundLength lm_TestJudge_Search_134 (by exact hs.1) rfl rfl (e_s_foundLength hs q hl hL h13 wy0) hfl (by first | decide | omega) (by decide) (by omega) (by omega) rfl rfl (Nat.le_of_ble_eq_true rfl) (gd DX5_foundPlace_0 1 rfl) ?_
  refine g_istore_n (lv' := [(0, _), (1, _), (2, _)]) C (gd DX5_foundPlace_0 2 rfl) [1, 2, 0] rfl (by decide) rfl ?_
  refine g_iload_n C (gd DX5_foundPlace_0 3 rfl) 1 rfl rfl ?_
  refine g_if_lt C 16 (gd DX5_foundPlace_0 4 rfl) (by decide) (fun c6 => ?_) (fun c6 => ?_)
  · exact absurd c6 (nI_nn hj)
  · refine g_iload_n C (gd DX5_foundPlace_0 5 rfl) 1 rfl rfl ?_
    refine g_iconst (v := 2) C (gd DX5_foundPlace_0 6 rfl) (by decide) ?_
    refine g_iload_n C (gd DX5_foundPlace_0 7 rfl) 2 rfl rfl ?_
    refine g_imul C (gd DX5_foundPlace_0 8 rfl) ?_
    rw [e2n]
    refine g_icmp_le C 18 (gd DX5_foundPlace_0 9 rfl) (by decide) (fun c13 => ?_) (fun c13 => ?_)
    · have hle : j ≤ 2 * n := (nI_leI (by omega) (by omega)).mp c13
      refine g_iload_n C (gd DX5_foundPlace_0 12 rfl) 1 rfl rfl ?_
      refine g_iconst (v := 2) C (gd DX5_foundPlace_0 13 rfl) (by decide) ?_
      refine g_iload_n C (gd DX5_foundPlace_0 14 rfl) 2 rfl rfl ?_
      refine g_imul C (gd DX5_foundPlace_0 15 rfl) ?_
      rw [e2n]
      refine g_icmp_ne C 30 (gd DX5_foundPlace_0 16 rfl) (by decide) (fun c22 => ?_) (fun c22 => ?_)
      · have hne : ¬ j = 2 * n := fun x => c22 (by rw [x])
        have lp : ∀ y d, d + y = n - 1 - j / 2 → GW z w 5 (gQ z w 0 0 (fun r' h'' => r' = some (.int V) ∧ h'' = hS s h F BH NU SI CA)) 0 0 40 [(0, .ref s), (1, .int (nI j)), (2, .int (nI n)), (3, .int (nI (f d))), (4, .int (nI (n - 1 - d)))] [] (hS s h F BH NU SI CA) := by
          intro y
          induction y with
          | zero =>
            intro d hd
            have ed : d = n - 1 - j / 2 := by omega
            obtain ⟨g1, g2, p, g3, g4⟩ := hf d (by omega)
            have hp := hL _ p g3
            have hg : ((L[f (n - 1 - j / 2)]?).getD (0, 0)).2 = p.2 := by rw [← ed, g3]; rfl
            refine g_iload C (gd DX5_foundPlace_0 27 rfl) 4 rfl ?_
            refine g_iload_n C (gd DX5_foundPlace_0 28 rfl) 1 rfl rfl ?_
            refine g_iconst (v := 2) C (gd DX5_foundPlace_0 29 rfl) (by decide) ?_
            refine g_idiv C (gd DX5_foundPlace_0 30 rfl) (by decide) ?_
            rw [show nI j / 2 = nI (j / 2) from nx_div (b := 2) rfl rfl (by omega) (by decide) (by decide)]
            refine g_icmp_le C 71 (gd DX5_foundPlace_0 31 rfl) (by decide) (fun c45 => ?_) (fun c45 => ?_)
            · have hfd := (List.getElem?_eq_some_iff.mp g3).1
              refine g_iload_n C (gd DX5_foundPlace_0 44 rfl) 3 rfl rfl ?_
              refine g_cS1 C [_] mX5_fits lm_TestJudge_Search_78 (e_s_fits (by omega)) hfl (by first | decide | omega) (by decide) (by omega) (by omega) rfl rfl (Nat.le_of_ble_eq_true rfl) (gd DX5_foundPlace_0 45 rfl) ?_
              rw [b1_t (show f d < 16385 by omega)]
              refine g_if_eq C 90 (gd DX5_foundPlace_0 46 rfl) (by decide) (fun c75 => ?_) (fun c75 => ?_)
              · exact absurd c75 (by decide)
              refine g_aload_n C (gd DX5_foundPlace_0 47 rfl) 0 rfl rfl ?_
              refine g_getr (ci := 5) (k := 17) C rfl (by decide) rfl lf_TestJudge_Search_68 hs.1 hs.2.2.2.2.2.2.2.1.1 (gd DX5_foundPlace_0 48 rfl) ?_
              refine g_iload_n C (gd DX5_foundPlace_0 49 rfl) 3 rfl rfl ?_
              refine g_iaj (j := f d) C hs.2.2.2.2.2.2.2.1.2.1 hs.2.2.2.2.2.2.2.1.2.2 (by first | decide | omega) rfl (by omega) (gd DX5_foundPlace_0 50 rfl) ?_
              rw [hS_16, (q.2.1 _ p g3).2.1]
              refine g_bipush (v := 24) C (gd DX5_foundPlace_0 51 rfl) (by decide) ?_
              refine g_irem C (gd DX5_foundPlace_0 52 rfl) (by decide) ?_
              refine g_goto (tgt := 91) C (gd DX5_foundPlace_0 53 rfl) (by decide) ?_
              rw [show nI p.2 - nI p.2 / 24 * 24 = nI (p.2 % 24) from nx_rem (b := 24) rfl rfl (by omega) (by decide) (by decide)]
              refine g_istore (lv' := [(0, _), (1, _), (2, _), (3, _), (4, _)]) C (gd DX5_foundPlace_0 55 rfl) [1, 2, 3, 4, 0] (by decide) rfl ?_
              refine g_iload_n C (gd DX5_foundPlace_0 56 rfl) 1 rfl rfl ?_
              refine g_iconst (v := 2) C (gd DX5_foundPlace_0 57 rfl) (by decide) ?_
              refine g_irem C (gd DX5_foundPlace_0 58 rfl) (by decide) ?_
              rw [show nI j - nI j / 2 * 2 = nI (j % 2) from nx_rem (b := 2) rfl rfl (by omega) (by decide) (by decide)]
              refine g_if_ne C 106 (gd DX5_foundPlace_0 59 rfl) (by decide) (fun c96 => ?_) (fun c96 => ?_)
              · have h2 : ¬ j % 2 = 0 := fun x => c96 (by rw [x]; rfl)
                refine g_iload C (gd DX5_foundPlace_1 4 rfl) 4 rfl ?_
                refine g_iconst (v := 3) C (gd DX5_foundPlace_1 5 rfl) (by decide) ?_
                refine g_irem C (gd DX5_foundPlace_1 6 rfl) (by decide) ?_
                exact g_iret C (by omega) (by omega) ⟨by rw [← hV, plA, if_neg (by omega), if_neg hne, if_neg h2, hg]; exact congrArg (fun v => some (Value.int v)) (nx_rem (a := p.2 % 24) (b := 3) rfl rfl (by omega) (by decide) (by decide)), rfl⟩ (gd DX5_foundPlace_1 7 rfl)
              · have h2 : j % 2 = 0 := by
                  have := (nI_eq (a := j % 2) (b := 0) (by omega) (by omega)).mp c96
                  exact this
                refine g_iload C (gd DX5_foundPlace_1 0 rfl) 4 rfl ?_
                refine g_iconst (v := 3) C (gd DX5_foundPlace_1 1 rfl) (by decide) ?_
                refine g_idiv C (gd DX5_foundPlace_1 2 rfl) (by decide) ?_
                refine g_goto (tgt := 110) C (gd DX5_foundPlace_1 3 rfl) (by decide) ?_
                exact g_iret C (by omega) (by omega) ⟨by rw [← hV, plA, if_neg (by omega), if_neg hne, if_pos h2, hg]; exact congrArg (fun v => some (Value.int v)) (nx_div (a := p.2 % 24) (b := 3) rfl rfl (by omega) (by decide) (by decide)), rfl⟩ (gd DX5_foundPlace_1 7 rfl)
            · exact absurd (nI_le (by omega) (by omega)) c45
          | succ y ih =>
            intro d hd
            obtain ⟨g1, g2, p, g3, g4⟩ := hf d (by omega)
            have hp := hL _ p g3
            refine g_iload C (gd DX5_foundPlace_0 27 rfl) 4 rfl ?_
            refine g_iload_n C (gd DX5_foundPlace_0 28 rfl) 1 rfl rfl ?_
            refine g_iconst (v := 2) C (gd DX5_foundPlace_0 29 rfl) (by decide) ?_
            refine g_idiv C (gd DX5_foundPlace_0 30 rfl) (by decide) ?_
            rw [show nI j / 2 = nI (j / 2) from nx_div (b := 2) rfl rfl (by omega) (by decide) (by decide)]
            refine g_icmp_le C 71 (gd DX5_foundPlace_0 31 rfl) (by decide) (fun c45 => ?_) (fun c45 => ?_)
            · exact absurd c45 (nI_ge (by omega) (by omega))
            · have hfd := (List.getElem?_eq_some_iff.mp g3).1
              refine g_iload_n C (gd DX5_foundPlace_0 32 rfl) 3 rfl rfl ?_
              refine g_cS1 C [_] mX5_fits lm_TestJudge_Search_78 (e_s_fits (by omega)) hfl (by first | decide | omega) (by decide) (by omega) (by omega) rfl rfl (Nat.le_of_ble_eq_true rfl) (gd DX5_foundPlace_0 33 rfl) ?_
              rw [b1_t (show f d < 16385 by omega)]
              refine g_if_eq C 71 (gd DX5_foundPlace_0 34 rfl) (by decide) (fun c52 => ?_) (fun c52 => ?_)
              · exact absurd c52 (by decide)
              refine g_aload_n C (gd DX5_foundPlace_0 35 rfl) 0 rfl rfl ?_
              refine g_getr (ci := 5) (k := 17) C rfl (by decide) rfl lf_TestJudge_Search_68 hs.1 hs.2.2.2.2.2.2.2.1.1 (gd DX5_foundPlace_0 36 rfl) ?_
              refine g_iload_n C (gd DX5_foundPlace_0 37 rfl) 3 rfl rfl ?_
              refine g_iaj (j := f d) C hs.2.2.2.2.2.2.2.1.2.1 hs.2.2.2.2.2.2.2.1.2.2 (by first | decide | omega) rfl (by omega) (gd DX5_foundPlace_0 38 rfl) ?_
              rw [hS_16, (q.2.1 _ p g3).2.1]
              refine g_bipush (v := 24) C (gd DX5_foundPlace_0 39 rfl) (by decide) ?_
              refine g_idiv C (gd DX5_foundPlace_0 40 rfl) (by decide) ?_
              rw [show nI p.2 / 24 = nI (p.2 / 24) from nx_div (b := 24) rfl rfl (by omega) (by decide) (by decide), g4]
              refine g_istore_n (lv' := [(0, _), (1, _), (2, _), (3, _), (4, _)]) C (gd DX5_foundPlace_0 41 rfl) [1, 2, 3, 0, 4] rfl (by decide) rfl ?_
              refine g_iinc (lv' := [(0, _), (1, _), (2, _), (3, _), (4, _)]) C (gd DX5_foundPlace_0 42 rfl) 4 [1, 2, 3, 4, 0] rfl rfl (by decide) rfl ?_
              refine g_goto (tgt := 40) C (gd DX5_foundPlace_0 43 rfl) (by decide) ?_
              refine GW.cast ?_ rfl rfl (ih (d + 1) (by omega))
              rw [show n - 1 - d = (n - 1 - (d + 1)) + 1 by omega, dec1]
        refine g_aload_n C (gd DX5_foundPlace_0 20 rfl) 0 rfl rfl ?_
        refine g_geti (ci := 5) (k := 13) C rfl (by decide) rfl lf_TestJudge_Search_56 hs.1 (gd DX5_foundPlace_0 21 rfl) ?_
        rw [hS_0, h13]
        refine g_istore_n (lv' := [(0, _), (1, _), (2, _), (3, _)]) C (gd DX5_foundPlace_0 22 rfl) [1, 2, 3, 0] rfl (by decide) rfl ?_
        refine g_iload_n C (gd DX5_foundPlace_0 23 rfl) 2 rfl rfl ?_
        refine g_iconst (v := 1) C (gd DX5_foundPlace_0 24 rfl) (by decide) ?_
        refine g_isub C (gd DX5_foundPlace_0 25 rfl) ?_
        refine g_istore (lv' := [(0, _), (1, _), (2, _), (3, _), (4, _)]) C (gd DX5_foundPlace_0 26 rfl) [1, 2, 3, 4, 0] (by decide) rfl ?_
        refine GW.cast ?_ rfl rfl (lp (n - 1 - j / 2) 0 (by omega))
        rw [f0, show nI n - 1 = nI (n - 1 - 0) from nx_sub (b := 1) rfl rfl (by omega)]
      · have he : j = 2 * n := (nI_eq (by omega) (by omega)).mp c22
        refine g_aload_n C (gd DX5_foundPlace_0 17 rfl) 0 rfl rfl ?_
        refine g_geti (ci := 5) (k := 14) C rfl (by decide) rfl lf_TestJudge_Search_59 hs.1 (gd DX5_foundPlace_0 18 rfl) ?_
        rw [hS_0]
        exact g_iret C (by omega) (by omega) ⟨by rw [← hV, plA, if_neg (by omega), if_pos he], rfl⟩ (gd DX5_foundPlace_0 19 rfl)
    · have hgt : ¬ j ≤ 2 * n := fun x => c13 ((nI_leI (by omega) (by omega)).mpr x)
      refine g_iconst (v := -1) C (gd DX5_foundPlace_0 10 rfl) (by decide) ?_
      exact g_iret C (by omega) (by omega) ⟨by rw [← hV, plA, if_pos (by omega)], rfl⟩ (gd DX5_foundPlace_0 11 rfl)
end C12
