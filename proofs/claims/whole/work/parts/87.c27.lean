/-! Paper: putRest -/
theorem digs_1 {x : Nat} (h : x < 10) : (digs x).length = 1 := by
  unfold digs
  rw [if_neg (by omega), if_neg (by omega)]
  rfl
theorem digs_2 {x : Nat} (h : x < 100) : (digs x).length ≤ 2 := by
  unfold digs
  rw [if_neg (by omega)]
  split <;> simp
theorem digs_3 (x : Nat) : (digs x).length ≤ 3 := by
  unfold digs
  split <;> split <;> simp
theorem pxK_5 {T : Nat → Nat → Int32} {i m : Nat} (hm : m ≤ 60) (hT : ∀ k, k < 24 → T i k = -1 ∨ ∃ j, j < m ∧ T i k = nI j) : ∀ k, k ≤ 24 → (pxK T i k).length ≤ 5 * k := by
  intro k
  induction k with
  | zero => intro _; simp [pxK]
  | succ k ih =>
    intro hk
    have h1 := ih (by omega)
    rw [pxK, List.length_append]
    rcases hT k (by omega) with e | ⟨j, hj, e⟩
    · rw [if_pos e]; simp; omega
    · rw [e, if_neg (nI_neg1 (by omega)), nI_clamp (by omega)]
      have h2 := digs_1 (x := k / 3) (by omega)
      have h3 := digs_2 (x := j) (by omega)
      simp only [List.length_append, List.length_cons, List.length_nil]
      omega
theorem pH_tR {p t : Nat} {h : HS} {ρ : Nat → Nat → Int32} {BY : Nat → Int32} {n : Nat} (hd : p + 1 < t ∨ t + 10 < p) : pH p (tR t h ρ) BY n = tR t (pH p h BY n) ρ := by
  unfold pH tR sI sF
  congr 1
  funext b j
  by_cases e : t ≤ b ∧ b ≤ t + 10
  · simp only [if_pos e]
    rw [if_neg (by omega), if_neg (by omega)]
  · simp only [if_neg e]
section C27
variable {w : gD} {p t : Nat} {h : HS}
theorem e_p_putRest (hp : ppSh p h) (ht : tSh t h) (hd : p + 1 < t ∨ t + 10 < p) {m : Nat} {ρ : Nat → Nat → Int32} (o : tbN m ρ) (hm : m ≤ 60) {i e : Nat} (hi : i < m) (he : ρ 1 i = nI e) (he2 : e < 256) {BY : Nat → Int32} {n : Nat} (hn : n + 127 ≤ 7620) : EvF w 2 0 0 yX1_putRest cX1_putRest 5 none [.ref p, .ref t, .int (nI i)] (pH p (tR t h ρ) BY n) none (pH p (tR t h ρ) (byL BY n (pxR (ρ 1) (fun i k => ρ 3 (24 * i + k)) i)) (n + (pxR (ρ 1) (fun i k => ρ 3 (24 * i + k)) i).length)) := by
  refine g_start (by decide) (Nat.le_of_ble_eq_true rfl) [(0, _), (1, _), (2, _)] rfl (fun z hfl C => ?_)
  generalize hT : (fun i k => ρ 3 (24 * i + k)) = T
  have o0 := o
  obtain ⟨o1, o2, o3⟩ := o
  have eT : ∀ k, T i k = ρ 3 (24 * i + k) := fun k => by rw [← hT]
  have hTv : ∀ k, k < 24 → T i k = -1 ∨ ∃ j, j < m ∧ T i k = nI j := fun k hk => by rw [eT]; exact o3.2 (24 * i + k) (by omega)
  have d1 := digs_2 (x := i) (by omega)
  have d2 := digs_3 e
  have hE : (ρ 1 i).toNatClampNeg = e := by rw [he, nI_clamp (by omega)]
  generalize hA : digs i ++ ([58] ++ digs e) = A
  have lA : A.length ≤ 6 := by
    rw [← hA]
    simp only [List.length_append, List.length_cons, List.length_nil]
    omega
  have eR : pxR (ρ 1) T i = A ++ pxK T i 24 ++ [59] := by
    unfold pxR
    rw [hE, ← hA]
    simp [List.append_assoc]
  have loop : ∀ y k v4, k + y = 24 → GW z w 5 (gQ z w 0 0 (fun r' h'' => r' = none ∧ h'' = pH p (tR t h ρ) (byL BY n (pxR (ρ 1) T i)) (n + (pxR (ρ 1) T i).length))) 0 0 32 ([(0, .ref p), (1, .ref t), (2, .int (nI i)), (3, .int (nI k))] ++ v4) [] (pH p (tR t h ρ) (byL BY n (A ++ pxK T i k)) (n + (A ++ pxK T i k).length)) := by
    intro y
    induction y with
    | zero =>
      intro k v4 hk
      have ek : k = 24 := by omega
      subst ek
      have lk := pxK_5 hm hTv 24 (by omega)
      refine GW.sub [0, 1, 2, 3] rfl (Nat.le_refl _) (Nat.le_refl _) (lv' := [(0, _), (1, _), (2, _), (3, _)]) ?_
      refine g_iload_n C (gd DX1_putRest_0 19 rfl) 3 rfl rfl ?_
      refine g_bipush (v := 24) C (gd DX1_putRest_0 20 rfl) (by decide) ?_
      refine g_icmp_ge C 91 (gd DX1_putRest_0 21 rfl) (by decide) (fun c35 => ?_) (fun c35 => ?_)
      · refine g_aload_n C (gd DX1_putRest_0 54 rfl) 0 rfl rfl ?_
        refine g_bipush (v := 59) C (gd DX1_putRest_0 55 rfl) (by decide) ?_
        refine g_cV0 (v := .null) (ci := 1) C [_] mX1_put lm_TestJudge_Paper_29 (by exact hp.1) rfl rfl (e_p_put (c := 59) (h := tR t h ρ) hp (by rw [List.length_append]; omega)) hfl (by decide) (by decide) (by omega) (by omega) rfl rfl (Nat.le_of_ble_eq_true rfl) (gd DX1_putRest_0 56 rfl) ?_
        exact g_vret C (by omega) (by omega) ⟨rfl, by rw [eR, byL_app (l' := [59]), List.length_append (bs := [59])]; rfl⟩ (gd DX1_putRest_0 57 rfl)
      · exact absurd (nI_le (a := 24) (b := 24) (by omega) (by omega)) c35
    | succ y ih =>
      intro k v4 hk
      have lk := pxK_5 hm hTv k (by omega)
      refine GW.sub [0, 1, 2, 3] rfl (Nat.le_refl _) (Nat.le_refl _) (lv' := [(0, _), (1, _), (2, _), (3, _)]) ?_
      have nx : ∀ v4 l, l = A ++ pxK T i (k + 1) → GW z w 5 (gQ z w 0 0 (fun r' h'' => r' = none ∧ h'' = pH p (tR t h ρ) (byL BY n (pxR (ρ 1) T i)) (n + (pxR (ρ 1) T i).length))) 0 0 85 [(0, .ref p), (1, .ref t), (2, .int (nI i)), (3, .int (nI k)), (4, .int v4)] [] (pH p (tR t h ρ) (byL BY n l) (n + l.length)) := by
        intro v4 l hl
        rw [hl]
        refine g_iinc (lv' := [(0, _), (1, _), (2, _), (3, _), (4, _)]) C (gd DX1_putRest_0 52 rfl) 3 [1, 2, 3, 0, 4] rfl rfl (by decide) rfl ?_
        refine g_goto (tgt := 32) C (gd DX1_putRest_0 53 rfl) (by decide) ?_
        refine GW.sub [0, 1, 2, 3] rfl (Nat.le_refl _) (Nat.le_refl _) (lv' := [(0, _), (1, _), (2, _), (3, _)]) ?_
        exact GW.cast (by rw [inc1]; rfl) rfl rfl (ih (k + 1) [] (by omega))
      refine g_iload_n C (gd DX1_putRest_0 19 rfl) 3 rfl rfl ?_
      refine g_bipush (v := 24) C (gd DX1_putRest_0 20 rfl) (by decide) ?_
      refine g_icmp_ge C 91 (gd DX1_putRest_0 21 rfl) (by decide) (fun c35 => ?_) (fun c35 => ?_)
      · exact absurd c35 (nI_ge (a := k) (b := 24) (by omega) (by omega))
      · refine g_aload_n C (gd DX1_putRest_0 22 rfl) 1 rfl rfl ?_
        refine g_iload_n C (gd DX1_putRest_0 23 rfl) 2 rfl rfl ?_
        refine g_iload_n C (gd DX1_putRest_0 24 rfl) 3 rfl rfl ?_
        refine g_iconst (v := 3) C (gd DX1_putRest_0 25 rfl) (by decide) ?_
        refine g_idiv C (gd DX1_putRest_0 26 rfl) (by decide) ?_
        refine g_iload_n C (gd DX1_putRest_0 27 rfl) 3 rfl rfl ?_
        refine g_iconst (v := 3) C (gd DX1_putRest_0 28 rfl) (by decide) ?_
        refine g_irem C (gd DX1_putRest_0 29 rfl) (by decide) ?_
        rw [show nI k / 3 = nI (k / 3) from nx_div (b := 3) rfl rfl (by omega) (by decide) (by decide), show nI k - nI (k / 3) * 3 = nI (k % 3) from by rw [← nx_div (x := nI k) (y := 3) (a := k) (b := 3) rfl rfl (by omega) (by decide) (by decide)]; exact nx_rem (b := 3) rfl rfl (by omega) (by decide) (by decide)]
        refine GW.cast rfl rfl (pH_tR hd) ?_
        refine g_cV1 (ci := 6) C [_, _, _] mX6_target lm_TestJudge_Paper_36 (by exact ht.1) rfl rfl (e_t_target (h := pH p h _ _) (by exact ht) o0 hi (by omega : k / 3 < 8) (by omega : k % 3 < 3)) hfl (by decide) (by decide) (by omega) (by omega) rfl rfl (Nat.le_of_ble_eq_true rfl) (gd DX1_putRest_0 30 rfl) ?_
        refine GW.cast rfl rfl (pH_tR hd).symm ?_
        rw [show 3 * (k / 3) + k % 3 = k by omega, ← eT]
        rcases hTv k (by omega) with ev | ⟨j, hj, ev⟩
        · rw [ev]
          refine g_istore (lv' := [(0, _), (1, _), (2, _), (3, _), (4, _)]) C (gd DX1_putRest_0 31 rfl) [1, 2, 3, 4, 0] (by decide) rfl ?_
          refine g_iload C (gd DX1_putRest_0 32 rfl) 4 rfl ?_
          refine g_if_lt C 85 (gd DX1_putRest_0 33 rfl) (by decide) (fun c53 => ?_) (fun c53 => ?_)
          · exact nx _ _ (by rw [pxK, if_pos ev, List.append_nil])
          · exact absurd (by decide) c53
        · rw [ev]
          have h1 := digs_1 (x := k / 3) (by omega)
          have h2 := digs_2 (x := j) (by omega)
          generalize hB : A ++ pxK T i k = B
          have lB : B.length ≤ 6 + 5 * k := by rw [← hB, List.length_append]; omega
          refine g_istore (lv' := [(0, _), (1, _), (2, _), (3, _), (4, _)]) C (gd DX1_putRest_0 31 rfl) [1, 2, 3, 4, 0] (by decide) rfl ?_
          refine g_iload C (gd DX1_putRest_0 32 rfl) 4 rfl ?_
          refine g_if_lt C 85 (gd DX1_putRest_0 33 rfl) (by decide) (fun c53 => ?_) (fun c53 => ?_)
          · exact absurd c53 (nI_nn (by omega))
          · refine g_aload_n C (gd DX1_putRest_0 34 rfl) 0 rfl rfl ?_
            refine g_bipush (v := 32) C (gd DX1_putRest_0 35 rfl) (by decide) ?_
            refine g_cV0 (v := .null) (ci := 1) C [_] mX1_put lm_TestJudge_Paper_29 (by exact hp.1) rfl rfl (e_p_put (c := 32) (h := tR t h ρ) hp (by omega)) hfl (by decide) (by decide) (by omega) (by omega) rfl rfl (Nat.le_of_ble_eq_true rfl) (gd DX1_putRest_0 36 rfl) ?_
            refine g_aload_n C (gd DX1_putRest_0 37 rfl) 0 rfl rfl ?_
            refine g_iload_n C (gd DX1_putRest_0 38 rfl) 3 rfl rfl ?_
            refine g_iconst (v := 3) C (gd DX1_putRest_0 39 rfl) (by decide) ?_
            refine g_idiv C (gd DX1_putRest_0 40 rfl) (by decide) ?_
            rw [show nI k / 3 = nI (k / 3) from nx_div (b := 3) rfl rfl (by omega) (by decide) (by decide)]
            refine g_cV0 (v := .null) (ci := 1) C [_] mX1_putNumber lm_TestJudge_Paper_25 (by exact hp.1) rfl rfl (e_p_putNumber (h := tR t h ρ) hp (by omega) (by omega)) hfl (by decide) (by decide) (by omega) (by omega) rfl rfl (Nat.le_of_ble_eq_true rfl) (gd DX1_putRest_0 41 rfl) ?_
            refine g_aload_n C (gd DX1_putRest_0 42 rfl) 0 rfl rfl ?_
            refine g_bipush (v := 97) C (gd DX1_putRest_0 43 rfl) (by decide) ?_
            refine g_iload_n C (gd DX1_putRest_0 44 rfl) 3 rfl rfl ?_
            refine g_iconst (v := 3) C (gd DX1_putRest_0 45 rfl) (by decide) ?_
            refine g_irem C (gd DX1_putRest_0 46 rfl) (by decide) ?_
            refine g_iadd C (gd DX1_putRest_0 47 rfl) ?_
            rw [show (97 : Int32) + (nI k - nI k / 3 * 3) = nI (97 + k % 3) from nx_add (a := 97) rfl (nx_rem (b := 3) rfl rfl (by omega) (by decide) (by decide))]
            refine g_cV0 (v := .null) (ci := 1) C [_] mX1_put lm_TestJudge_Paper_29 (by exact hp.1) rfl rfl (e_p_put (h := tR t h ρ) hp (by omega)) hfl (by decide) (by decide) (by omega) (by omega) rfl rfl (Nat.le_of_ble_eq_true rfl) (gd DX1_putRest_0 48 rfl) ?_
            refine g_aload_n C (gd DX1_putRest_0 49 rfl) 0 rfl rfl ?_
            refine g_iload C (gd DX1_putRest_0 50 rfl) 4 rfl ?_
            refine g_cV0 (v := .null) (ci := 1) C [_] mX1_putNumber lm_TestJudge_Paper_25 (by exact hp.1) rfl rfl (e_p_putNumber (h := tR t h ρ) hp (by omega) (by omega)) hfl (by decide) (by decide) (by omega) (by omega) rfl rfl (Nat.le_of_ble_eq_true rfl) (gd DX1_putRest_0 51 rfl) ?_
            refine GW.cast rfl rfl ?_ (nx _ (B ++ ([32] ++ (digs (k / 3) ++ ([97 + k % 3] ++ digs j)))) ?_)
            · rw [byL_app, byL_app, byL_app, byL_app]
              simp only [List.length_append, List.length_cons, List.length_nil]
              rw [show n + B.length + (0 + 1) = n + B.length + 1 by omega, show n + (B.length + (0 + 1 + ((digs (k / 3)).length + (0 + 1 + (digs j).length)))) = n + B.length + 1 + (digs (k / 3)).length + 1 + (digs j).length by omega]
            · rw [pxK, ev, if_neg (nI_neg1 (by omega)), nI_clamp (by omega), ← hB, List.append_assoc]
  refine g_aload_n C (gd DX1_putRest_0 0 rfl) 1 rfl rfl ?_
  refine g_iload_n C (gd DX1_putRest_0 1 rfl) 2 rfl rfl ?_
  refine GW.cast rfl rfl (pH_tR hd) ?_
  refine g_cV1 (ci := 6) C [_] mX6_has lm_TestJudge_Paper_19 (by exact ht.1) rfl rfl (e_t_has (h := pH p h BY n) (by exact ht) _) hfl (by decide) (by decide) (by omega) (by omega) rfl rfl (Nat.le_of_ble_eq_true rfl) (gd DX1_putRest_0 2 rfl) ?_
  refine GW.cast rfl rfl (pH_tR hd).symm ?_
  rw [o2, b1_t ⟨nI_nn (by omega), nI_ge hi (by omega)⟩]
  refine g_if_ne C 9 (gd DX1_putRest_0 3 rfl) (by decide) (fun c5 => ?_) (fun c5 => ?_)
  · refine g_aload_n C (gd DX1_putRest_0 5 rfl) 0 rfl rfl ?_
    refine g_iload_n C (gd DX1_putRest_0 6 rfl) 2 rfl rfl ?_
    refine g_cV0 (v := .null) (ci := 1) C [_] mX1_putNumber lm_TestJudge_Paper_25 (by exact hp.1) rfl rfl (e_p_putNumber (h := tR t h ρ) hp (by omega) (by omega)) hfl (by decide) (by decide) (by omega) (by omega) rfl rfl (Nat.le_of_ble_eq_true rfl) (gd DX1_putRest_0 7 rfl) ?_
    refine g_aload_n C (gd DX1_putRest_0 8 rfl) 0 rfl rfl ?_
    refine g_bipush (v := 58) C (gd DX1_putRest_0 9 rfl) (by decide) ?_
    refine g_cV0 (v := .null) (ci := 1) C [_] mX1_put lm_TestJudge_Paper_29 (by exact hp.1) rfl rfl (e_p_put (c := 58) (h := tR t h ρ) hp (by omega)) hfl (by decide) (by decide) (by omega) (by omega) rfl rfl (Nat.le_of_ble_eq_true rfl) (gd DX1_putRest_0 10 rfl) ?_
    refine g_aload_n C (gd DX1_putRest_0 11 rfl) 0 rfl rfl ?_
    refine g_aload_n C (gd DX1_putRest_0 12 rfl) 1 rfl rfl ?_
    refine g_getr (ci := 6) (k := 1) C rfl (by decide) rfl lf_TestJudge_Paper_32 ht.1 ht.2.1.1 (gd DX1_putRest_0 13 rfl) ?_
    refine g_iload_n C (gd DX1_putRest_0 14 rfl) 2 rfl rfl ?_
    refine g_iaj (j := i) C ht.2.1.2.1 ht.2.1.2.2 (by first | decide | omega) rfl (by omega) (gd DX1_putRest_0 15 rfl) ?_
    rw [show hI (pH p (tR t h ρ) (byL (byL BY n (digs i)) (n + (digs i).length) [58]) (n + (digs i).length + 1)) (t + 1) = ρ 1 from (pH_ne (by omega) (by omega)).trans (tR_at (by omega)), he]
    refine g_cV0 (v := .null) (ci := 1) C [_] mX1_putNumber lm_TestJudge_Paper_25 (by exact hp.1) rfl rfl (e_p_putNumber (h := tR t h ρ) hp (by omega) (by omega)) hfl (by decide) (by decide) (by omega) (by omega) rfl rfl (Nat.le_of_ble_eq_true rfl) (gd DX1_putRest_0 16 rfl) ?_
    refine g_iconst (v := 0) C (gd DX1_putRest_0 17 rfl) (by decide) ?_
    refine g_istore_n (lv' := [(0, _), (1, _), (2, _), (3, _)]) C (gd DX1_putRest_0 18 rfl) [1, 2, 3, 0] rfl (by decide) rfl ?_
    refine GW.cast rfl rfl ?_ (loop 24 0 [] rfl)
    rw [pxK, List.append_nil, ← hA, byL_app, byL_app]
    simp only [List.length_append, List.length_cons, List.length_nil]
    rw [show n + (digs i).length + (0 + 1) = n + (digs i).length + 1 by omega, show n + ((digs i).length + (0 + 1 + (digs e).length)) = n + (digs i).length + 1 + (digs e).length by omega]
  · exact absurd c5 (by decide)
end C27
