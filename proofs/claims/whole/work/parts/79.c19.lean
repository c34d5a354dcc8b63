/-! Table: tellFiner; when it tells no more, kinds are rests -/
def ctR (K : Nat → Int32) : Nat → Nat
  | 0 => 0
  | n + 1 => ctR K n + (if K n = nI n then 1 else 0)
theorem ctR_le (K : Nat → Int32) : ∀ n, ctR K n ≤ n
  | 0 => Nat.le_refl _
  | n + 1 => by have := ctR_le K n; rw [ctR]; split <;> omega
theorem ctR_mono {K K' : Nat → Int32} : ∀ n, (∀ i, i < n → K i = nI i → K' i = nI i) → ctR K n ≤ ctR K' n
  | 0, _ => Nat.le_refl _
  | n + 1, h => by
    have h1 := ctR_mono n (fun i hi => h i (by omega))
    rw [ctR, ctR]
    by_cases e : K n = nI n
    · rw [if_pos e, if_pos (h n (by omega) e)]; omega
    · rw [if_neg e]; omega
theorem ctR_lt {K K' : Nat → Int32} : ∀ n, (∀ i, i < n → K i = nI i → K' i = nI i) → (∃ i, i < n ∧ ¬ K i = nI i ∧ K' i = nI i) → ctR K n < ctR K' n
  | 0, _, ⟨i, hi, _⟩ => by omega
  | n + 1, h, ⟨i, hi, h1, h2⟩ => by
    rw [ctR, ctR]
    by_cases e : i = n
    · subst e
      have h3 := ctR_mono i (fun j hj => h j (by omega))
      rw [if_neg h1, if_pos h2]; omega
    · have h3 := ctR_lt n (fun j hj => h j (by omega)) ⟨i, by omega, h1, h2⟩
      by_cases e2 : K n = nI n
      · rw [if_pos e2, if_pos (h n (by omega) e2)]; omega
      · rw [if_neg e2]; omega
section KD2
variable {G E U : Nat → Int32} {N d : Nat} {K K' : Nat → Int32}
theorem kdI.rep (g : goV G N) (hN : N ≤ 125) (k : kdI G E U N d K) {s : Nat} (hs : s < N) (us : ¬ U s = 0) : ∃ c, c ≤ s ∧ K s = nI c ∧ ¬ U c = 0 ∧ eqv 0 (vH G E U N) d s c ∧ K c = nI c := by
  rcases k s hs with ⟨x, _⟩ | ⟨_, c, c1, c2, c3, c4, c5⟩
  · exact absurd x us
  · exact ⟨c, c1, c2, c3, c4, by rw [← c2]; exact (k.iff g hN (by omega) hs c3 us).mpr (eqv.sy d s c c4)⟩
theorem kdI.grow (g : goV G N) (hN : N ≤ 125) (k : kdI G E U N d K) (k' : kdI G E U N (d + 1) K') {i : Nat} (hi : i < N) (hne : ¬ K' i = K i) : ctR K N < ctR K' N := by
  have ui : ¬ U i = 0 := fun x => hne (by rw [(k.u hN hi).mpr x, (k'.u hN hi).mpr x])
  have keep : ∀ s, s < N → K s = nI s → K' s = nI s := by
    intro s hs e
    have us : ¬ U s = 0 := fun x => by rw [(k.u hN hs).mpr x] at e; exact absurd e.symm (nI_neg1 (by omega))
    obtain ⟨c, c1, c2, c3, c4, c5⟩ := k'.rep g hN hs us
    have h1 : K s = K c := (k.iff g hN hs (by omega) us c3).mpr c4.1
    rcases k c (by omega) with ⟨x, _⟩ | ⟨_, e', e1, e2, _⟩
    · exact absurd x c3
    · rw [e, e2] at h1
      have := (nI_eq (by omega) (by omega)).mp h1
      rw [c2]; congr 1; omega
  obtain ⟨c, c1, c2, c3, c4, c5⟩ := k'.rep g hN hi ui
  refine ctR_lt N keep ⟨c, by omega, fun e => hne ?_, c5⟩
  rw [c2, (k.iff g hN hi (by omega) ui c3).mpr c4.1, e]
end KD2
/-- kinds are rests: the least state of each rest -/
def kdB (G E U : Nat → Int32) (N : Nat) (K : Nat → Int32) : Prop := ∀ s, s < N → (U s = 0 ∧ K s = -1) ∨ (¬ U s = 0 ∧ ∃ c, c ≤ s ∧ K s = nI c ∧ ¬ U c = 0 ∧ Bis 0 (vH G E U N) s c ∧ K c = nI c)
theorem kdI.b {G E U : Nat → Int32} {N d : Nat} {K : Nat → Int32} (g : goV G N) (hN : N ≤ 125) (k : kdI G E U N d K) (hst : ∀ s t, s < N → t < N → ¬ U s = 0 → ¬ U t = 0 → eqv 0 (vH G E U N) d s t → eqv 0 (vH G E U N) (d + 1) s t) : kdB G E U N K ∧ ∀ s t, s < N → t < N → ¬ U s = 0 → ¬ U t = 0 → (K s = K t ↔ Bis 0 (vH G E U N) s t) := by
  have hb : ∀ s t, s < N → t < N → ¬ U s = 0 → ¬ U t = 0 → (eqv 0 (vH G E U N) d s t ↔ Bis 0 (vH G E U N) s t) := fun s t hs ht us ut => Bis.of (goV.ok g hN) hst hs ht us ut
  refine ⟨fun s hs => ?_, fun s t hs ht us ut => (k.iff g hN hs ht us ut).trans (hb s t hs ht us ut)⟩
  by_cases us : U s = 0
  · exact Or.inl ⟨us, (k.u hN hs).mpr us⟩
  · obtain ⟨c, c1, c2, c3, c4, c5⟩ := k.rep g hN hs us
    exact Or.inr ⟨us, c, c1, c2, c3, (hb s c hs (by omega) us c3).mp c4, c5⟩
section C19
variable {w : gD} {t : Nat} {h : HS}
theorem e_t_tellFiner (ht : tSh t h) {N d : Nat} {ρ : Nat → Nat → Int32} (g : tgO N ρ) {U : Nat → Int32} (k : kdI (ρ 6) (ρ 5) U N d (ρ 7)) : Ev w 3 0 0 yX6_tellFiner cX6_tellFiner 3 (some .boolean) [.ref t] (tR t h ρ) (fun r' h' => ∃ K FN, h' = tR t h (rset (rset ρ 8 FN) 7 K) ∧ kdI (ρ 6) (ρ 5) U N (d + 1) K ∧ ((r' = some (.int 0) ∧ ∀ i, i < N → K i = ρ 7 i) ∨ (r' = some (.int 1) ∧ ∃ i, i < N ∧ ¬ K i = ρ 7 i))) := by
  refine g_start (by decide) (Nat.le_of_ble_eq_true rfl) [(0, _)] rfl (fun z hfl C => ?_)
  have g0 := g
  obtain ⟨⟨g1, g2⟩, g3, g4⟩ := g
  have loop : ∀ y i FN mo, i + y = N → (∀ s, s < i → (U s = 0 ∧ FN s = -1) ∨ (¬ U s = 0 ∧ ∃ c, c ≤ s ∧ FN s = nI c ∧ ¬ U c = 0 ∧ eqv 0 (vH (ρ 6) (ρ 5) U N) (d + 1) s c ∧ ∀ t, t < c → ¬ U t = 0 → ¬ eqv 0 (vH (ρ 6) (ρ 5) U N) (d + 1) s t)) → ((mo = 0 ∧ ∀ s, s < i → FN s = ρ 7 s) ∨ (mo = 1 ∧ ∃ s, s < i ∧ ¬ FN s = ρ 7 s)) → GW z w 3 (gQ z w 0 0 (fun r' h'' => ∃ K FN, h'' = tR t h (rset (rset ρ 8 FN) 7 K) ∧ kdI (ρ 6) (ρ 5) U N (d + 1) K ∧ ((r' = some (.int 0) ∧ ∀ i, i < N → K i = ρ 7 i) ∨ (r' = some (.int 1) ∧ ∃ i, i < N ∧ ¬ K i = ρ 7 i)))) 0 0 4 [(0, .ref t), (1, .int mo), (2, .int (nI i))] [] (tR t h (rset ρ 8 FN)) := by
    intro y
    induction y with
    | zero =>
      intro i FN mo hi hF hm
      have ei : i = N := by omega
      subst ei
      refine g_iload_n C (gd DX6_tellFiner_0 4 rfl) 2 rfl rfl ?_
      refine g_aload_n C (gd DX6_tellFiner_0 5 rfl) 0 rfl rfl ?_
      refine g_geti (ci := 6) (k := 7) C rfl (by decide) rfl lf_TestJudge_Table_35 ht.1 (gd DX6_tellFiner_0 6 rfl) ?_
      rw [tR_0, rset_ne (by omega), g3]
      refine g_icmp_ge C 66 (gd DX6_tellFiner_0 7 rfl) (by decide) (fun c9 => ?_) (fun c9 => ?_)
      · refine g_aload_n C (gd DX6_tellFiner_0 40 rfl) 0 rfl rfl ?_
        refine g_getr (ci := 6) (k := 11) C rfl (by decide) rfl lf_TestJudge_Table_47 ht.1 ht.2.2.2.2.2.2.2.2.1.1 (gd DX6_tellFiner_0 41 rfl) ?_
        refine g_iconst (v := 0) C (gd DX6_tellFiner_0 42 rfl) (by decide) ?_
        refine g_aload_n C (gd DX6_tellFiner_0 43 rfl) 0 rfl rfl ?_
        refine g_getr (ci := 6) (k := 10) C rfl (by decide) rfl lf_TestJudge_Table_44 ht.1 ht.2.2.2.2.2.2.2.1.1 (gd DX6_tellFiner_0 44 rfl) ?_
        refine g_iconst (v := 0) C (gd DX6_tellFiner_0 45 rfl) (by decide) ?_
        refine g_aload_n C (gd DX6_tellFiner_0 46 rfl) 0 rfl rfl ?_
        refine g_geti (ci := 6) (k := 7) C rfl (by decide) rfl lf_TestJudge_Table_35 ht.1 (gd DX6_tellFiner_0 47 rfl) ?_
        rw [tR_0, rset_ne (by omega), g3]
        refine g_copy0 (m := i) C lm_TestJudge_Table_107 ht.2.2.2.2.2.2.2.2.1.2.1 ht.2.2.2.2.2.2.2.1.2.1 (by rw [show hN (tR t h (rset ρ 8 FN)) (t + 8) = 125 from ht.2.2.2.2.2.2.2.2.1.2.2]; exact g1) (by rw [show hN (tR t h (rset ρ 8 FN)) (t + 7) = 125 from ht.2.2.2.2.2.2.2.1.2.2]; exact g1) (by omega) (by omega) rfl (gd DX6_tellFiner_0 48 rfl) ?_
        rw [tR_at (by omega), tR_at (by omega), tR_f (by omega), rset_eq, rset_ne (by omega)]
        refine g_iload_n C (gd DX6_tellFiner_0 49 rfl) 1 rfl rfl ?_
        refine g_zret C (by rcases hm with x | x; exact Or.inl x.1; exact Or.inr x.1) (by omega) (by omega) ⟨_, FN, rfl, fun s hs => ?_, ?_⟩ (gd DX6_tellFiner_0 50 rfl)
        · show (_ ∧ (if s < i then FN s else ρ 7 s) = -1) ∨ (_ ∧ ∃ c, c ≤ s ∧ (if s < i then FN s else ρ 7 s) = nI c ∧ _)
          rw [if_pos hs]
          exact hF s hs
        · rcases hm with ⟨x1, x2⟩ | ⟨x1, s, x2, x3⟩
          · exact Or.inl ⟨by rw [x1], fun s hs => by show (if s < i then FN s else ρ 7 s) = _; rw [if_pos hs]; exact x2 s hs⟩
          · exact Or.inr ⟨by rw [x1], s, x2, by show ¬ (if s < i then FN s else ρ 7 s) = _; rw [if_pos x2]; exact x3⟩
      · exact absurd (nI_le (by omega) (by omega)) c9
    | succ y ih =>
      intro i FN mo hi hF hm
      have k36 : ∀ v, ((U i = 0 ∧ v = -1) ∨ (¬ U i = 0 ∧ ∃ c, c ≤ i ∧ v = nI c ∧ ¬ U c = 0 ∧ eqv 0 (vH (ρ 6) (ρ 5) U N) (d + 1) i c ∧ ∀ t, t < c → ¬ U t = 0 → ¬ eqv 0 (vH (ρ 6) (ρ 5) U N) (d + 1) i t)) → GW z w 3 (gQ z w 0 0 (fun r' h'' => ∃ K FN, h'' = tR t h (rset (rset ρ 8 FN) 7 K) ∧ kdI (ρ 6) (ρ 5) U N (d + 1) K ∧ ((r' = some (.int 0) ∧ ∀ i, i < N → K i = ρ 7 i) ∨ (r' = some (.int 1) ∧ ∃ i, i < N ∧ ¬ K i = ρ 7 i)))) 0 0 36 [(0, .ref t), (1, .int mo), (2, .int (nI i))] [.int v, .int (nI i), .ref (t + 8)] (tR t h (rset ρ 8 FN)) := by
        intro v hv
        refine g_isj (j := i) C ht.2.2.2.2.2.2.2.2.1.2.1 ht.2.2.2.2.2.2.2.2.1.2.2 (by first | decide | omega) rfl (by omega) (gd DX6_tellFiner_0 22 rfl) ?_
        rw [tR_i (by omega), rset_eq, rset_rset]
        have fin : ∀ x, ((mo ||| x = 0 ∧ ∀ s, s < i + 1 → upd FN i v s = ρ 7 s) ∨ (mo ||| x = 1 ∧ ∃ s, s < i + 1 ∧ ¬ upd FN i v s = ρ 7 s)) → GW z w 3 (gQ z w 0 0 (fun r' h'' => ∃ K FN, h'' = tR t h (rset (rset ρ 8 FN) 7 K) ∧ kdI (ρ 6) (ρ 5) U N (d + 1) K ∧ ((r' = some (.int 0) ∧ ∀ i, i < N → K i = ρ 7 i) ∨ (r' = some (.int 1) ∧ ∃ i, i < N ∧ ¬ K i = ρ 7 i)))) 0 0 58 [(0, .ref t), (1, .int mo), (2, .int (nI i))] [.int x, .int mo] (tR t h (rset ρ 8 (upd FN i v))) := by
          intro x hx
          refine g_ior C (gd DX6_tellFiner_0 36 rfl) ?_
          refine g_istore_n (lv' := [(0, _), (1, _), (2, _)]) C (gd DX6_tellFiner_0 37 rfl) [1, 0, 2] rfl (by decide) rfl ?_
          refine g_iinc (lv' := [(0, _), (1, _), (2, _)]) C (gd DX6_tellFiner_0 38 rfl) 2 [1, 2, 0] rfl rfl (by decide) rfl ?_
          refine g_goto (tgt := 4) C (gd DX6_tellFiner_0 39 rfl) (by decide) ?_
          refine GW.cast (by rw [inc1]) rfl rfl (ih (i + 1) _ _ (by omega) (fun s hs => ?_) hx)
          by_cases e : s = i
          · subst e; rw [upd, if_pos rfl]; exact hv
          · rw [upd, if_neg e]; exact hF s (by omega)
        refine g_iload_n C (gd DX6_tellFiner_0 23 rfl) 1 rfl rfl ?_
        refine g_aload_n C (gd DX6_tellFiner_0 24 rfl) 0 rfl rfl ?_
        refine g_getr (ci := 6) (k := 11) C rfl (by decide) rfl lf_TestJudge_Table_47 ht.1 ht.2.2.2.2.2.2.2.2.1.1 (gd DX6_tellFiner_0 25 rfl) ?_
        refine g_iload_n C (gd DX6_tellFiner_0 26 rfl) 2 rfl rfl ?_
        refine g_iaj (j := i) C ht.2.2.2.2.2.2.2.2.1.2.1 ht.2.2.2.2.2.2.2.2.1.2.2 (by first | decide | omega) rfl (by omega) (gd DX6_tellFiner_0 27 rfl) ?_
        rw [tR_at (by omega), rset_eq, show upd FN i v i = v from if_pos rfl]
        refine g_aload_n C (gd DX6_tellFiner_0 28 rfl) 0 rfl rfl ?_
        refine g_getr (ci := 6) (k := 10) C rfl (by decide) rfl lf_TestJudge_Table_44 ht.1 ht.2.2.2.2.2.2.2.1.1 (gd DX6_tellFiner_0 29 rfl) ?_
        refine g_iload_n C (gd DX6_tellFiner_0 30 rfl) 2 rfl rfl ?_
        refine g_iaj (j := i) C ht.2.2.2.2.2.2.2.1.2.1 ht.2.2.2.2.2.2.2.1.2.2 (by first | decide | omega) rfl (by omega) (gd DX6_tellFiner_0 31 rfl) ?_
        rw [tR_at (by omega), rset_ne (by omega)]
        refine g_icmp_eq C 57 (gd DX6_tellFiner_0 32 rfl) (by decide) (fun c50 => ?_) (fun c50 => ?_)
        · refine g_iconst (v := 0) C (gd DX6_tellFiner_0 35 rfl) (by decide) ?_
          refine fin 0 ?_
          rcases hm with ⟨x1, x2⟩ | ⟨x1, s, x2, x3⟩
          · refine Or.inl ⟨by rw [x1]; rfl, fun s hs => ?_⟩
            by_cases e : s = i
            · subst e; rw [upd, if_pos rfl]; exact c50
            · rw [upd, if_neg e]; exact x2 s (by omega)
          · exact Or.inr ⟨by rw [x1]; rfl, s, by omega, by rw [upd, if_neg (by omega)]; exact x3⟩
        · refine g_iconst (v := 1) C (gd DX6_tellFiner_0 33 rfl) (by decide) ?_
          refine g_goto (tgt := 58) C (gd DX6_tellFiner_0 34 rfl) (by decide) ?_
          refine fin 1 (Or.inr ⟨?_, i, by omega, by rw [upd, if_pos rfl]; exact c50⟩)
          rcases hm with ⟨x1, _⟩ | ⟨x1, _⟩ <;> rw [x1] <;> rfl
      refine g_iload_n C (gd DX6_tellFiner_0 4 rfl) 2 rfl rfl ?_
      refine g_aload_n C (gd DX6_tellFiner_0 5 rfl) 0 rfl rfl ?_
      refine g_geti (ci := 6) (k := 7) C rfl (by decide) rfl lf_TestJudge_Table_35 ht.1 (gd DX6_tellFiner_0 6 rfl) ?_
      rw [tR_0, rset_ne (by omega), g3]
      refine g_icmp_ge C 66 (gd DX6_tellFiner_0 7 rfl) (by decide) (fun c9 => ?_) (fun c9 => ?_)
      · exact absurd c9 (nI_ge (by omega) (by omega))
      · refine g_aload_n C (gd DX6_tellFiner_0 8 rfl) 0 rfl rfl ?_
        refine g_getr (ci := 6) (k := 11) C rfl (by decide) rfl lf_TestJudge_Table_47 ht.1 ht.2.2.2.2.2.2.2.2.1.1 (gd DX6_tellFiner_0 9 rfl) ?_
        refine g_iload_n C (gd DX6_tellFiner_0 10 rfl) 2 rfl rfl ?_
        refine g_aload_n C (gd DX6_tellFiner_0 11 rfl) 0 rfl rfl ?_
        refine g_getr (ci := 6) (k := 10) C rfl (by decide) rfl lf_TestJudge_Table_44 ht.1 ht.2.2.2.2.2.2.2.1.1 (gd DX6_tellFiner_0 12 rfl) ?_
        refine g_iload_n C (gd DX6_tellFiner_0 13 rfl) 2 rfl rfl ?_
        refine g_iaj (j := i) C ht.2.2.2.2.2.2.2.1.2.1 ht.2.2.2.2.2.2.2.1.2.2 (by first | decide | omega) rfl (by omega) (gd DX6_tellFiner_0 14 rfl) ?_
        rw [tR_at (by omega), rset_ne (by omega)]
        refine g_iconst (v := -1) C (gd DX6_tellFiner_0 15 rfl) (by decide) ?_
        refine g_icmp_ne C 31 (gd DX6_tellFiner_0 16 rfl) (by decide) (fun c24 => ?_) (fun c24 => ?_)
        · have ui : ¬ U i = 0 := fun x => c24 ((k.u g1 (by omega)).mpr x)
          refine g_aload_n C (gd DX6_tellFiner_0 19 rfl) 0 rfl rfl ?_
          refine g_iload_n C (gd DX6_tellFiner_0 20 rfl) 2 rfl rfl ?_
          refine g_callV (ci := 6) C [_] mX6_finerKind lm_TestJudge_Table_103 (by exact ht.1) rfl rfl (e_t_finerKind (ρ := rset ρ 8 FN) (N := N) (d := d) (U := U) ht ⟨⟨g1, g2⟩, by rw [rset_ne (by omega)]; exact g3, by rw [rset_ne (by omega)]; exact g4⟩ (by rw [rset_ne (show 6 ≠ 8 by omega), rset_ne (show 5 ≠ 8 by omega), rset_ne (show 7 ≠ 8 by omega)]; exact k) (by omega) ui (by rw [rset_ne (show 6 ≠ 8 by omega), rset_ne (show 5 ≠ 8 by omega), rset_eq]; exact hF)) hfl (by decide) (by decide) (by omega) (by omega) rfl rfl (Nat.le_of_ble_eq_true rfl) (gd DX6_tellFiner_0 21 rfl) (fun r h2 hp => ?_)
          rw [rset_ne (show 6 ≠ 8 by omega), rset_ne (show 5 ≠ 8 by omega)] at hp
          obtain ⟨rfl, c, rfl, c1, c2, c3, c4⟩ := hp
          show GW z w 3 _ 0 0 _ _ (.int (nI c) :: _) _
          exact k36 _ (Or.inr ⟨ui, c, c1, rfl, c2, c3, c4⟩)
        · refine g_iconst (v := -1) C (gd DX6_tellFiner_0 17 rfl) (by decide) ?_
          refine g_goto (tgt := 36) C (gd DX6_tellFiner_0 18 rfl) (by decide) ?_
          exact k36 _ (Or.inl ⟨(k.u g1 (by omega)).mp c24, rfl⟩)
  refine g_iconst (v := 0) C (gd DX6_tellFiner_0 0 rfl) (by decide) ?_
  refine g_istore_n (lv' := [(0, _), (1, _)]) C (gd DX6_tellFiner_0 1 rfl) [1, 0] rfl (by decide) rfl ?_
  refine g_iconst (v := 0) C (gd DX6_tellFiner_0 2 rfl) (by decide) ?_
  refine g_istore_n (lv' := [(0, _), (1, _), (2, _)]) C (gd DX6_tellFiner_0 3 rfl) [1, 2, 0] rfl (by decide) rfl ?_
  refine GW.cast rfl rfl ?_ (loop N 0 (ρ 8) 0 (by omega) (fun s hs => by omega) (Or.inl ⟨rfl, fun s hs => by omega⟩))
  rw [rset_self]
end C19
