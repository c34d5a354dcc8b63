/-! Table: tellApart, finerKind, tellFiner: the classes of rests as they become finer -/
/-- the raw rows as a picture of their own, as the reference would hold them -/
def vH (G E U : Nat → Int32) (N : Nat) : HS := (fun b j => if b = 7 then G j else if b = 8 then E j else if b = 13 then U j else if b = 0 then nI N else 0, fun _ _ => 0, fun _ _ => none, fun _ => 0, fun _ => 0, 0)
theorem vH_7 (G E U : Nat → Int32) (N : Nat) : hI (vH G E U N) (0 + 7) = G := rfl
theorem vH_8 (G E U : Nat → Int32) (N : Nat) : hI (vH G E U N) (0 + 8) = E := rfl
theorem vH_13 (G E U : Nat → Int32) (N : Nat) : hI (vH G E U N) (0 + 13) = U := rfl
/-- classes as far as d letters: the least of each, -1 for what is empty -/
def kdI (G E U : Nat → Int32) (N d : Nat) (K : Nat → Int32) : Prop := ∀ s, s < N → (U s = 0 ∧ K s = -1) ∨ (¬ U s = 0 ∧ ∃ c, c ≤ s ∧ K s = nI c ∧ ¬ U c = 0 ∧ eqv 0 (vH G E U N) d s c ∧ ∀ t, t < c → ¬ U t = 0 → ¬ eqv 0 (vH G E U N) d s t)
def goV (G : Nat → Int32) (N : Nat) : Prop := ∀ e, e < 24 * N → G e = -1 ∨ ∃ j, j < N ∧ G e = nI j
theorem goV.ok {G E U : Nat → Int32} {N : Nat} (g : goV G N) (hN : N ≤ 125) : GOk 0 (vH G E U N) N := ⟨by omega, rfl, g⟩
section KD
variable {G E U : Nat → Int32} {N d : Nat} {K : Nat → Int32}
theorem kdI.iff (g : goV G N) (hN : N ≤ 125) (k : kdI G E U N d K) {s t : Nat} (hs : s < N) (ht : t < N) (us : ¬ U s = 0) (ut : ¬ U t = 0) : K s = K t ↔ eqv 0 (vH G E U N) d s t := by
  rcases k s hs with ⟨x, _⟩ | ⟨_, c, c1, c2, c3, c4, c5⟩
  · exact absurd x us
  rcases k t ht with ⟨x, _⟩ | ⟨_, e, e1, e2, e3, e4, e5⟩
  · exact absurd x ut
  constructor
  · intro h
    rw [c2, e2] at h
    have := (nI_eq (by omega) (by omega)).mp h
    subst this
    exact eqv.tr d s c t c4 (eqv.sy d t c e4)
  · intro h
    rw [c2, e2]
    congr 1
    rcases Nat.lt_trichotomy c e with x | x | x
    · exact absurd (eqv.tr d t s c (eqv.sy d s t h) c4) (e5 c x c3)
    · exact x
    · exact absurd (eqv.tr d s t e h e4) (c5 e x e3)
theorem kdI.u (hN : N ≤ 125) (k : kdI G E U N d K) {s : Nat} (hs : s < N) : K s = -1 ↔ U s = 0 := by
  rcases k s hs with ⟨x, y⟩ | ⟨x, c, c1, c2, _⟩
  · exact ⟨fun _ => x, fun _ => y⟩
  · refine ⟨fun e => ?_, fun e => absurd e x⟩
    rw [c2] at e
    exact absurd e (nI_neg1 (by omega))
/-- what stands behind a letter is the same -/
theorem kdI.be (g : goV G N) (hN : N ≤ 125) (k : kdI G E U N d K) {s t l : Nat} (hs : s < N) (ht : t < N) (hl : l < 24) : kBe G K s l = kBe G K t l ↔ ((uNx 0 (vH G E U N) (24 * s + l) = -1 ∧ uNx 0 (vH G E U N) (24 * t + l) = -1) ∨ ∃ a b, uNx 0 (vH G E U N) (24 * s + l) = nI a ∧ uNx 0 (vH G E U N) (24 * t + l) = nI b ∧ a < 16400 ∧ b < 16400 ∧ eqv 0 (vH G E U N) d a b) := by
  have one : ∀ s, s < N → (kBe G K s l = -1 ∧ uNx 0 (vH G E U N) (24 * s + l) = -1) ∨ ∃ a, a < N ∧ ¬ U a = 0 ∧ kBe G K s l = K a ∧ ¬ K a = -1 ∧ uNx 0 (vH G E U N) (24 * s + l) = nI a := by
    intro s hs
    unfold uNx
    rw [vH_7, vH_13]
    rcases g (24 * s + l) (by omega) with x | ⟨a, ha, x⟩
    · exact Or.inl ⟨kBe_n x, if_pos x⟩
    · rw [kBe_j (by omega) x, x, if_neg (nI_neg1 (by omega)), nI_clamp (by omega)]
      by_cases hu : U a = 0
      · exact Or.inl ⟨(k.u hN ha).mpr hu, if_pos hu⟩
      · exact Or.inr ⟨a, ha, hu, rfl, fun e => hu ((k.u hN ha).mp e), if_neg hu⟩
  rcases one s hs with ⟨a1, a2⟩ | ⟨a, a0, a1, a2, a3, a4⟩ <;> rcases one t ht with ⟨b1, b2⟩ | ⟨b, b0, b1, b2, b3, b4⟩
  · rw [a1, b1]; exact ⟨fun _ => Or.inl ⟨a2, b2⟩, fun _ => rfl⟩
  · rw [a1, b2]
    refine ⟨fun e => absurd e.symm b3, fun e => ?_⟩
    rcases e with ⟨_, e⟩ | ⟨x, y, e, _, hx, _⟩
    · rw [b4] at e; exact absurd e (nI_neg1 (by omega))
    · rw [a2] at e; exact absurd e.symm (nI_neg1 (by omega))
  · rw [a2, b1]
    refine ⟨fun e => absurd e a3, fun e => ?_⟩
    rcases e with ⟨e, _⟩ | ⟨x, y, _, e, _, hx, _⟩
    · rw [a4] at e; exact absurd e (nI_neg1 (by omega))
    · rw [b2] at e; exact absurd e.symm (nI_neg1 (by omega))
  · rw [a2, b2, k.iff g hN a0 b0 a1 b1]
    constructor
    · intro e; exact Or.inr ⟨a, b, a4, b4, by omega, by omega, e⟩
    · intro e
      rcases e with ⟨e, _⟩ | ⟨x, y, e1, e2, hx, hy, e3⟩
      · rw [a4] at e; exact absurd e (nI_neg1 (by omega))
      · rw [a4] at e1; rw [b4] at e2
        have h1 := (nI_eq (by omega) (by omega)).mp e1
        have h2 := (nI_eq (by omega) (by omega)).mp e2
        rw [h1, h2]; exact e3
theorem kdI.fin (g : goV G N) (hN : N ≤ 125) (k : kdI G E U N d K) {s t : Nat} (hs : s < N) (ht : t < N) (us : ¬ U s = 0) (ut : ¬ U t = 0) : (K s = K t ∧ ∀ l, l < 24 → kBe G K s l = kBe G K t l) ↔ eqv 0 (vH G E U N) (d + 1) s t := by
  rw [k.iff g hN hs ht us ut]
  constructor
  · rintro ⟨h1, h2⟩
    exact ⟨h1, fun l hl => (k.be g hN hs ht hl).mp (h2 l hl)⟩
  · rintro ⟨h1, h2⟩
    exact ⟨h1, fun l hl => (k.be g hN hs ht hl).mpr (h2 l hl)⟩
end KD
section C18
variable {w : gD} {t : Nat} {h : HS}
theorem e_t_tellApart (ht : tSh t h) {N : Nat} {ρ : Nat → Nat → Int32} (g : tgO N ρ) {U : Nat → Int32} (hU : ∀ i, i < N → ((ρ 7 i = -1 ∧ U i = 0) ∨ (¬ ρ 7 i = -1 ∧ ¬ U i = 0))) : Ev w 0 0 0 yX6_tellApart cX6_tellApart 4 none [.ref t] (tR t h ρ) (fun r' h' => r' = none ∧ ∃ K, h' = tR t h (rset ρ 7 K) ∧ kdI (ρ 6) (ρ 5) U N 0 K) := by
  refine g_start (by decide) (Nat.le_of_ble_eq_true rfl) [(0, _)] rfl (fun z hfl C => ?_)
  obtain ⟨⟨g1, g2⟩, g3, g4⟩ := g
  have outer : ∀ y i K, i + y = N → (∀ s, s < i → (U s = 0 ∧ K s = -1) ∨ (¬ U s = 0 ∧ ∃ c, c ≤ s ∧ K s = nI c ∧ ¬ U c = 0 ∧ ρ 5 s = ρ 5 c ∧ ∀ t, t < c → ¬ U t = 0 → ¬ ρ 5 s = ρ 5 t)) → (∀ s, i ≤ s → K s = ρ 7 s) → GW z w 4 (gQ z w 0 0 (fun r' h'' => r' = none ∧ ∃ K, h'' = tR t h (rset ρ 7 K) ∧ kdI (ρ 6) (ρ 5) U N 0 K)) 0 0 2 [(0, .ref t), (1, .int (nI i))] [] (tR t h (rset ρ 7 K)) := by
    intro y
    induction y with
    | zero =>
      intro i K hi h1 h2
      refine g_iload_n C (gd DX6_tellApart_0 2 rfl) 1 rfl rfl ?_
      refine g_aload_n C (gd DX6_tellApart_0 3 rfl) 0 rfl rfl ?_
      refine g_geti (ci := 6) (k := 7) C rfl (by decide) rfl lf_TestJudge_Table_35 ht.1 (gd DX6_tellApart_0 4 rfl) ?_
      rw [tR_0, rset_ne (by omega), g3]
      refine g_icmp_ge C 98 (gd DX6_tellApart_0 5 rfl) (by decide) (fun c7 => ?_) (fun c7 => ?_)
      · exact g_vret C (by omega) (by omega) ⟨rfl, K, rfl, fun s hs => h1 s (by omega)⟩ (gd DX6_tellApart_0 58 rfl)
      · exact absurd (nI_le (by omega) (by omega)) c7
    | succ y ih =>
      intro i K hi h1 h2
      have uK : ∀ j, j < N → (K j = -1 ↔ U j = 0) := by
        intro j hj
        by_cases e : j < i
        · rcases h1 j e with ⟨x, y⟩ | ⟨x, c, c1, c2, _⟩
          · exact ⟨fun _ => x, fun _ => y⟩
          · exact ⟨fun e => by rw [c2] at e; exact absurd e (nI_neg1 (by omega)), fun e => absurd e x⟩
        · rw [h2 j (by omega)]
          rcases hU j hj with ⟨x, y⟩ | ⟨x, y⟩
          · exact ⟨fun _ => y, fun _ => x⟩
          · exact ⟨fun e => absurd e x, fun e => absurd e y⟩
      have stor : ∀ v x2 x3, ((U i = 0 ∧ v = -1) ∨ (¬ U i = 0 ∧ ∃ c, c ≤ i ∧ v = nI c ∧ ¬ U c = 0 ∧ ρ 5 i = ρ 5 c ∧ ∀ t, t < c → ¬ U t = 0 → ¬ ρ 5 i = ρ 5 t)) → GW z w 4 (gQ z w 0 0 (fun r' h'' => r' = none ∧ ∃ K, h'' = tR t h (rset ρ 7 K) ∧ kdI (ρ 6) (ρ 5) U N 0 K)) 0 0 91 [(0, .ref t), (1, .int (nI i)), (2, .int x2), (3, .int x3)] [.int v, .int (nI i), .ref (t + 7)] (tR t h (rset ρ 7 K)) := by
        intro v x2 x3 hv
        refine g_isj (j := i) C ht.2.2.2.2.2.2.2.1.2.1 ht.2.2.2.2.2.2.2.1.2.2 (by first | decide | omega) rfl (by omega) (gd DX6_tellApart_0 55 rfl) ?_
        refine g_iinc (lv' := [(0, _), (1, _), (2, _), (3, _)]) C (gd DX6_tellApart_0 56 rfl) 1 [1, 0, 2, 3] rfl rfl (by decide) rfl ?_
        refine g_goto (tgt := 2) C (gd DX6_tellApart_0 57 rfl) (by decide) ?_
        refine GW.sub [0, 1] rfl (Nat.le_refl _) (Nat.le_refl _) (lv' := [(0, _), (1, _)]) ?_
        rw [tR_i (by omega), rset_eq, rset_rset]
        refine GW.cast (by rw [inc1]) rfl rfl (ih (i + 1) _ (by omega) (fun s hs => ?_) (fun s hs => by rw [upd, if_neg (by omega)]; exact h2 s (by omega)))
        by_cases e : s = i
        · subst e; rw [upd, if_pos rfl]; exact hv
        · rw [upd, if_neg e]; exact h1 s (by omega)
      have k71 : ∀ c x3, c ≤ i → (¬ U i = 0 → ¬ U c = 0 ∧ ρ 5 i = ρ 5 c ∧ ∀ t, t < c → ¬ U t = 0 → ¬ ρ 5 i = ρ 5 t) → GW z w 4 (gQ z w 0 0 (fun r' h'' => r' = none ∧ ∃ K, h'' = tR t h (rset ρ 7 K) ∧ kdI (ρ 6) (ρ 5) U N 0 K)) 0 0 71 [(0, .ref t), (1, .int (nI i)), (2, .int (nI c)), (3, .int x3)] [] (tR t h (rset ρ 7 K)) := by
        intro c x3 hc hq
        refine g_aload_n C (gd DX6_tellApart_0 43 rfl) 0 rfl rfl ?_
        refine g_getr (ci := 6) (k := 10) C rfl (by decide) rfl lf_TestJudge_Table_44 ht.1 ht.2.2.2.2.2.2.2.1.1 (gd DX6_tellApart_0 44 rfl) ?_
        refine g_iload_n C (gd DX6_tellApart_0 45 rfl) 1 rfl rfl ?_
        refine g_aload_n C (gd DX6_tellApart_0 46 rfl) 0 rfl rfl ?_
        refine g_getr (ci := 6) (k := 10) C rfl (by decide) rfl lf_TestJudge_Table_44 ht.1 ht.2.2.2.2.2.2.2.1.1 (gd DX6_tellApart_0 47 rfl) ?_
        refine g_iload_n C (gd DX6_tellApart_0 48 rfl) 1 rfl rfl ?_
        refine g_iaj (j := i) C ht.2.2.2.2.2.2.2.1.2.1 ht.2.2.2.2.2.2.2.1.2.2 (by first | decide | omega) rfl (by omega) (gd DX6_tellApart_0 49 rfl) ?_
        rw [tR_at (by omega), rset_eq]
        refine g_iconst (v := -1) C (gd DX6_tellApart_0 50 rfl) (by decide) ?_
        refine g_icmp_ne C 90 (gd DX6_tellApart_0 51 rfl) (by decide) (fun c83 => ?_) (fun c83 => ?_)
        · have hu : ¬ U i = 0 := fun x => c83 ((uK i (by omega)).mpr x)
          refine g_iload_n C (gd DX6_tellApart_0 54 rfl) 2 rfl rfl ?_
          exact stor _ _ _ (Or.inr ⟨hu, c, hc, rfl, hq hu⟩)
        · refine g_iconst (v := -1) C (gd DX6_tellApart_0 52 rfl) (by decide) ?_
          refine g_goto (tgt := 91) C (gd DX6_tellApart_0 53 rfl) (by decide) ?_
          exact stor _ _ _ (Or.inl ⟨(uK i (by omega)).mp c83, rfl⟩)
      have inner : ∀ x j, j + x = i → (∀ t, t < j → ¬ U t = 0 → ¬ ρ 5 i = ρ 5 t) → GW z w 4 (gQ z w 0 0 (fun r' h'' => r' = none ∧ ∃ K, h'' = tR t h (rset ρ 7 K) ∧ kdI (ρ 6) (ρ 5) U N 0 K)) 0 0 14 [(0, .ref t), (1, .int (nI i)), (2, .int (nI i)), (3, .int (nI j))] [] (tR t h (rset ρ 7 K)) := by
        intro x
        induction x with
        | zero =>
          intro j hj hn
          refine g_iload_n C (gd DX6_tellApart_0 10 rfl) 3 rfl rfl ?_
          refine g_iload_n C (gd DX6_tellApart_0 11 rfl) 1 rfl rfl ?_
          refine g_icmp_ge C 71 (gd DX6_tellApart_0 12 rfl) (by decide) (fun c16 => ?_) (fun c16 => ?_)
          · exact k71 i _ (Nat.le_refl _) (fun u => ⟨u, rfl, fun t ht => hn t (by omega)⟩)
          · exact absurd (nI_le (by omega) (by omega)) c16
        | succ x ihx =>
          intro j hj hn
          have skip : ¬ (¬ U j = 0 ∧ ρ 5 i = ρ 5 j) → GW z w 4 (gQ z w 0 0 (fun r' h'' => r' = none ∧ ∃ K, h'' = tR t h (rset ρ 7 K) ∧ kdI (ρ 6) (ρ 5) U N 0 K)) 0 0 63 [(0, .ref t), (1, .int (nI i)), (2, .int (nI i)), (3, .int (nI j))] [] (tR t h (rset ρ 7 K)) := by
            intro hno
            refine g_iload_n C (gd DX6_tellApart_0 39 rfl) 1 rfl rfl ?_
            refine g_istore_n (lv' := [(0, _), (1, _), (2, _), (3, _)]) C (gd DX6_tellApart_0 40 rfl) [1, 2, 0, 3] rfl (by decide) rfl ?_
            refine g_iinc (lv' := [(0, _), (1, _), (2, _), (3, _)]) C (gd DX6_tellApart_0 41 rfl) 3 [1, 2, 3, 0] rfl rfl (by decide) rfl ?_
            refine g_goto (tgt := 14) C (gd DX6_tellApart_0 42 rfl) (by decide) ?_
            refine GW.cast (by rw [inc1]) rfl rfl (ihx (j + 1) (by omega) (fun t ht u e => ?_))
            by_cases e2 : t = j
            · subst e2; exact hno ⟨u, e⟩
            · exact hn t (by omega) u e
          refine g_iload_n C (gd DX6_tellApart_0 10 rfl) 3 rfl rfl ?_
          refine g_iload_n C (gd DX6_tellApart_0 11 rfl) 1 rfl rfl ?_
          refine g_icmp_ge C 71 (gd DX6_tellApart_0 12 rfl) (by decide) (fun c16 => ?_) (fun c16 => ?_)
          · exact absurd c16 (nI_ge (by omega) (by omega))
          · refine g_iload_n C (gd DX6_tellApart_0 13 rfl) 2 rfl rfl ?_
            refine g_iload_n C (gd DX6_tellApart_0 14 rfl) 1 rfl rfl ?_
            refine g_icmp_ne C 71 (gd DX6_tellApart_0 15 rfl) (by decide) (fun c21 => ?_) (fun c21 => ?_)
            · exact absurd rfl c21
            · refine g_aload_n C (gd DX6_tellApart_0 16 rfl) 0 rfl rfl ?_
              refine g_getr (ci := 6) (k := 10) C rfl (by decide) rfl lf_TestJudge_Table_44 ht.1 ht.2.2.2.2.2.2.2.1.1 (gd DX6_tellApart_0 17 rfl) ?_
              refine g_iload_n C (gd DX6_tellApart_0 18 rfl) 1 rfl rfl ?_
              refine g_iaj (j := i) C ht.2.2.2.2.2.2.2.1.2.1 ht.2.2.2.2.2.2.2.1.2.2 (by first | decide | omega) rfl (by omega) (gd DX6_tellApart_0 19 rfl) ?_
              rw [tR_at (by omega), rset_eq]
              refine g_iconst (v := -1) C (gd DX6_tellApart_0 20 rfl) (by decide) ?_
              refine g_icmp_eq C 71 (gd DX6_tellApart_0 21 rfl) (by decide) (fun c31 => ?_) (fun c31 => ?_)
              · exact k71 i _ (Nat.le_refl _) (fun u => absurd ((uK i (by omega)).mp c31) u)
              · refine g_aload_n C (gd DX6_tellApart_0 22 rfl) 0 rfl rfl ?_
                refine g_getr (ci := 6) (k := 10) C rfl (by decide) rfl lf_TestJudge_Table_44 ht.1 ht.2.2.2.2.2.2.2.1.1 (gd DX6_tellApart_0 23 rfl) ?_
                refine g_iload_n C (gd DX6_tellApart_0 24 rfl) 3 rfl rfl ?_
                refine g_iaj (j := j) C ht.2.2.2.2.2.2.2.1.2.1 ht.2.2.2.2.2.2.2.1.2.2 (by first | decide | omega) rfl (by omega) (gd DX6_tellApart_0 25 rfl) ?_
                rw [tR_at (by omega), rset_eq]
                refine g_iconst (v := -1) C (gd DX6_tellApart_0 26 rfl) (by decide) ?_
                refine g_icmp_eq C 63 (gd DX6_tellApart_0 27 rfl) (by decide) (fun c41 => ?_) (fun c41 => ?_)
                · exact skip (fun q => q.1 ((uK j (by omega)).mp c41))
                · have uj : ¬ U j = 0 := fun x => c41 ((uK j (by omega)).mpr x)
                  refine g_aload_n C (gd DX6_tellApart_0 28 rfl) 0 rfl rfl ?_
                  refine g_getr (ci := 6) (k := 8) C rfl (by decide) rfl lf_TestJudge_Table_38 ht.1 ht.2.2.2.2.2.1.1 (gd DX6_tellApart_0 29 rfl) ?_
                  refine g_iload_n C (gd DX6_tellApart_0 30 rfl) 3 rfl rfl ?_
                  refine g_iaj (j := j) C ht.2.2.2.2.2.1.2.1 ht.2.2.2.2.2.1.2.2 (by first | decide | omega) rfl (by omega) (gd DX6_tellApart_0 31 rfl) ?_
                  rw [tR_at (by omega), rset_ne (by omega)]
                  refine g_aload_n C (gd DX6_tellApart_0 32 rfl) 0 rfl rfl ?_
                  refine g_getr (ci := 6) (k := 8) C rfl (by decide) rfl lf_TestJudge_Table_38 ht.1 ht.2.2.2.2.2.1.1 (gd DX6_tellApart_0 33 rfl) ?_
                  refine g_iload_n C (gd DX6_tellApart_0 34 rfl) 1 rfl rfl ?_
                  refine g_iaj (j := i) C ht.2.2.2.2.2.1.2.1 ht.2.2.2.2.2.1.2.2 (by first | decide | omega) rfl (by omega) (gd DX6_tellApart_0 35 rfl) ?_
                  rw [tR_at (by omega), rset_ne (by omega)]
                  refine g_icmp_ne C 63 (gd DX6_tellApart_0 36 rfl) (by decide) (fun c56 => ?_) (fun c56 => ?_)
                  · exact skip (fun q => c56 q.2.symm)
                  · refine g_iload_n C (gd DX6_tellApart_0 37 rfl) 3 rfl rfl ?_
                    refine g_goto (tgt := 64) C (gd DX6_tellApart_0 38 rfl) (by decide) ?_
                    refine g_istore_n (lv' := [(0, _), (1, _), (2, _), (3, _)]) C (gd DX6_tellApart_0 40 rfl) [1, 2, 0, 3] rfl (by decide) rfl ?_
                    refine g_iinc (lv' := [(0, _), (1, _), (2, _), (3, _)]) C (gd DX6_tellApart_0 41 rfl) 3 [1, 2, 3, 0] rfl rfl (by decide) rfl ?_
                    refine g_goto (tgt := 14) C (gd DX6_tellApart_0 42 rfl) (by decide) ?_
                    refine g_iload_n C (gd DX6_tellApart_0 10 rfl) 3 rfl rfl ?_
                    refine g_iload_n C (gd DX6_tellApart_0 11 rfl) 1 rfl rfl ?_
                    refine g_icmp_ge C 71 (gd DX6_tellApart_0 12 rfl) (by decide) (fun c16 => ?_) (fun c16 => ?_)
                    · exact k71 j _ (by omega) (fun _ => ⟨uj, c56.symm, hn⟩)
                    · refine g_iload_n C (gd DX6_tellApart_0 13 rfl) 2 rfl rfl ?_
                      refine g_iload_n C (gd DX6_tellApart_0 14 rfl) 1 rfl rfl ?_
                      refine g_icmp_ne C 71 (gd DX6_tellApart_0 15 rfl) (by decide) (fun c21 => ?_) (fun c21 => ?_)
                      · exact k71 j _ (by omega) (fun _ => ⟨uj, c56.symm, hn⟩)
                      · have := (nI_eq (by omega) (by omega)).mp c21
                        omega
      refine g_iload_n C (gd DX6_tellApart_0 2 rfl) 1 rfl rfl ?_
      refine g_aload_n C (gd DX6_tellApart_0 3 rfl) 0 rfl rfl ?_
      refine g_geti (ci := 6) (k := 7) C rfl (by decide) rfl lf_TestJudge_Table_35 ht.1 (gd DX6_tellApart_0 4 rfl) ?_
      rw [tR_0, rset_ne (by omega), g3]
      refine g_icmp_ge C 98 (gd DX6_tellApart_0 5 rfl) (by decide) (fun c7 => ?_) (fun c7 => ?_)
      · exact absurd c7 (nI_ge (by omega) (by omega))
      · refine g_iload_n C (gd DX6_tellApart_0 6 rfl) 1 rfl rfl ?_
        refine g_istore_n (lv' := [(0, _), (1, _), (2, _)]) C (gd DX6_tellApart_0 7 rfl) [1, 2, 0] rfl (by decide) rfl ?_
        refine g_iconst (v := 0) C (gd DX6_tellApart_0 8 rfl) (by decide) ?_
        refine g_istore_n (lv' := [(0, _), (1, _), (2, _), (3, _)]) C (gd DX6_tellApart_0 9 rfl) [1, 2, 3, 0] rfl (by decide) rfl ?_
        exact inner i 0 (by omega) (fun t ht => by omega)
  refine g_iconst (v := 0) C (gd DX6_tellApart_0 0 rfl) (by decide) ?_
  refine g_istore_n (lv' := [(0, _), (1, _)]) C (gd DX6_tellApart_0 1 rfl) [1, 0] rfl (by decide) rfl ?_
  refine GW.cast rfl rfl ?_ (outer N 0 (ρ 7) (by omega) (fun s hs => by omega) (fun _ _ => rfl))
  rw [rset_self]
/-- the least one that goes on alike, among those before i -/
theorem e_t_finerKind (ht : tSh t h) {N d i : Nat} {ρ : Nat → Nat → Int32} (g : tgO N ρ) {U : Nat → Int32} (k : kdI (ρ 6) (ρ 5) U N d (ρ 7)) (hi : i < N) (ui : ¬ U i = 0) (hF : ∀ s, s < i → (U s = 0 ∧ ρ 8 s = -1) ∨ (¬ U s = 0 ∧ ∃ c, c ≤ s ∧ ρ 8 s = nI c ∧ ¬ U c = 0 ∧ eqv 0 (vH (ρ 6) (ρ 5) U N) (d + 1) s c ∧ ∀ t, t < c → ¬ U t = 0 → ¬ eqv 0 (vH (ρ 6) (ρ 5) U N) (d + 1) s t)) :
    Ev w 2 0 0 yX6_finerKind cX6_finerKind 3 (some .int) [.ref t, .int (nI i)] (tR t h ρ) (fun r' h' => h' = tR t h ρ ∧ ∃ c, r' = some (.int (nI c)) ∧ c ≤ i ∧ ¬ U c = 0 ∧ eqv 0 (vH (ρ 6) (ρ 5) U N) (d + 1) i c ∧ ∀ t, t < c → ¬ U t = 0 → ¬ eqv 0 (vH (ρ 6) (ρ 5) U N) (d + 1) i t) := by
  refine g_start (by decide) (Nat.le_of_ble_eq_true rfl) [(0, _), (1, _)] rfl (fun z hfl C => ?_)
  have g0 := g
  obtain ⟨⟨g1, g2⟩, g3, g4⟩ := g
  rcases k i hi with ⟨x, _⟩ | ⟨-, c0, d1, d2, d3, d4, d5⟩
  · exact absurd x ui
  have low : ∀ t, t < c0 → ¬ U t = 0 → ¬ eqv 0 (vH (ρ 6) (ρ 5) U N) (d + 1) i t := fun t h1 h2 h3 => d5 t h1 h2 h3.1
  -- a rest before j that goes on alike has a least one
  have rep : ∀ j, j ≤ i → (∀ c, c0 ≤ c → c < j → ρ 8 c = nI c → ¬ (¬ U c = 0 ∧ eqv 0 (vH (ρ 6) (ρ 5) U N) (d + 1) i c)) → ∀ t, t < j → ¬ U t = 0 → ¬ eqv 0 (vH (ρ 6) (ρ 5) U N) (d + 1) i t := by
    intro j hj hn t h1 h2 h3
    rcases hF t (by omega) with ⟨x, _⟩ | ⟨-, c, e1, e2, e3, e4, e5⟩
    · exact h2 x
    have h4 : eqv 0 (vH (ρ 6) (ρ 5) U N) (d + 1) i c := eqv.tr _ i t c h3 e4
    have hc0 : c0 ≤ c := Nat.not_lt.mp (fun x => low c x e3 h4)
    have hcc : ρ 8 c = nI c := by
      rcases hF c (by omega) with ⟨x, _⟩ | ⟨-, c', f1, f2, f3, f4, f5⟩
      · exact absurd x e3
      rw [f2]
      congr 1
      rcases Nat.lt_or_ge c' c with x | x
      · exact absurd (eqv.tr _ t c c' e4 f4) (e5 c' x f3)
      · omega
    exact hn c hc0 (by omega) hcc ⟨e3, h4⟩
  have loop : ∀ y j, j + y = i → c0 ≤ j → (∀ c, c0 ≤ c → c < j → ρ 8 c = nI c → ¬ (¬ U c = 0 ∧ eqv 0 (vH (ρ 6) (ρ 5) U N) (d + 1) i c)) → GW z w 3 (gQ z w 0 0 (fun r' h'' => h'' = tR t h ρ ∧ ∃ c, r' = some (.int (nI c)) ∧ c ≤ i ∧ ¬ U c = 0 ∧ eqv 0 (vH (ρ 6) (ρ 5) U N) (d + 1) i c ∧ ∀ t, t < c → ¬ U t = 0 → ¬ eqv 0 (vH (ρ 6) (ρ 5) U N) (d + 1) i t)) 0 0 7 [(0, .ref t), (1, .int (nI i)), (2, .int (nI j))] [] (tR t h ρ) := by
    intro y
    induction y with
    | zero =>
      intro j hj hc hn
      have ej : j = i := by omega
      refine g_iload_n C (gd DX6_finerKind_0 5 rfl) 2 rfl rfl ?_
      refine g_iload_n C (gd DX6_finerKind_0 6 rfl) 1 rfl rfl ?_
      refine g_icmp_ge C 54 (gd DX6_finerKind_0 7 rfl) (by decide) (fun c9 => ?_) (fun c9 => ?_)
      · refine g_iload_n C (gd DX6_finerKind_0 32 rfl) 1 rfl rfl ?_
        exact g_iret C (by omega) (by omega) ⟨rfl, i, rfl, Nat.le_refl _, ui, eqv.rf (goV.ok g4 g1) _ i hi, rep i (Nat.le_refl _) (fun c h1 h2 => hn c h1 (by omega))⟩ (gd DX6_finerKind_0 33 rfl)
      · exact absurd (nI_le (by omega) (by omega)) c9
    | succ y ih =>
      intro j hj hc hn
      have skip : ¬ (ρ 8 j = nI j ∧ ¬ U j = 0 ∧ eqv 0 (vH (ρ 6) (ρ 5) U N) (d + 1) i j) → GW z w 3 (gQ z w 0 0 (fun r' h'' => h'' = tR t h ρ ∧ ∃ c, r' = some (.int (nI c)) ∧ c ≤ i ∧ ¬ U c = 0 ∧ eqv 0 (vH (ρ 6) (ρ 5) U N) (d + 1) i c ∧ ∀ t, t < c → ¬ U t = 0 → ¬ eqv 0 (vH (ρ 6) (ρ 5) U N) (d + 1) i t)) 0 0 48 [(0, .ref t), (1, .int (nI i)), (2, .int (nI j))] [] (tR t h ρ) := by
        intro hno
        refine g_iinc (lv' := [(0, _), (1, _), (2, _)]) C (gd DX6_finerKind_0 30 rfl) 2 [1, 2, 0] rfl rfl (by decide) rfl ?_
        refine g_goto (tgt := 7) C (gd DX6_finerKind_0 31 rfl) (by decide) ?_
        refine GW.cast (by rw [inc1]) rfl rfl (ih (j + 1) (by omega) (by omega) (fun c h1 h2 h3 h4 => ?_))
        by_cases e : c = j
        · subst e; exact hno ⟨h3, h4⟩
        · exact hn c h1 (by omega) h3 h4
      refine g_iload_n C (gd DX6_finerKind_0 5 rfl) 2 rfl rfl ?_
      refine g_iload_n C (gd DX6_finerKind_0 6 rfl) 1 rfl rfl ?_
      refine g_icmp_ge C 54 (gd DX6_finerKind_0 7 rfl) (by decide) (fun c9 => ?_) (fun c9 => ?_)
      · exact absurd c9 (nI_ge (by omega) (by omega))
      · refine g_aload_n C (gd DX6_finerKind_0 8 rfl) 0 rfl rfl ?_
        refine g_getr (ci := 6) (k := 11) C rfl (by decide) rfl lf_TestJudge_Table_47 ht.1 ht.2.2.2.2.2.2.2.2.1.1 (gd DX6_finerKind_0 9 rfl) ?_
        refine g_iload_n C (gd DX6_finerKind_0 10 rfl) 2 rfl rfl ?_
        refine g_iaj (j := j) C ht.2.2.2.2.2.2.2.2.1.2.1 ht.2.2.2.2.2.2.2.2.1.2.2 (by first | decide | omega) rfl (by omega) (gd DX6_finerKind_0 11 rfl) ?_
        rw [tR_at (by omega)]
        refine g_iload_n C (gd DX6_finerKind_0 12 rfl) 2 rfl rfl ?_
        refine g_icmp_ne C 48 (gd DX6_finerKind_0 13 rfl) (by decide) (fun c19 => ?_) (fun c19 => ?_)
        · exact skip (fun q => c19 q.1)
        · have uj : ¬ U j = 0 := by
            rcases hF j (by omega) with ⟨x, y⟩ | ⟨x, _⟩
            · rw [y] at c19; exact absurd c19.symm (nI_neg1 (by omega))
            · exact x
          refine g_aload_n C (gd DX6_finerKind_0 14 rfl) 0 rfl rfl ?_
          refine g_getr (ci := 6) (k := 10) C rfl (by decide) rfl lf_TestJudge_Table_44 ht.1 ht.2.2.2.2.2.2.2.1.1 (gd DX6_finerKind_0 15 rfl) ?_
          refine g_iload_n C (gd DX6_finerKind_0 16 rfl) 2 rfl rfl ?_
          refine g_iaj (j := j) C ht.2.2.2.2.2.2.2.1.2.1 ht.2.2.2.2.2.2.2.1.2.2 (by first | decide | omega) rfl (by omega) (gd DX6_finerKind_0 17 rfl) ?_
          rw [tR_at (by omega)]
          refine g_aload_n C (gd DX6_finerKind_0 18 rfl) 0 rfl rfl ?_
          refine g_getr (ci := 6) (k := 10) C rfl (by decide) rfl lf_TestJudge_Table_44 ht.1 ht.2.2.2.2.2.2.2.1.1 (gd DX6_finerKind_0 19 rfl) ?_
          refine g_iload_n C (gd DX6_finerKind_0 20 rfl) 1 rfl rfl ?_
          refine g_iaj (j := i) C ht.2.2.2.2.2.2.2.1.2.1 ht.2.2.2.2.2.2.2.1.2.2 (by first | decide | omega) rfl (by omega) (gd DX6_finerKind_0 21 rfl) ?_
          rw [tR_at (by omega)]
          refine g_icmp_ne C 48 (gd DX6_finerKind_0 22 rfl) (by decide) (fun c34 => ?_) (fun c34 => ?_)
          · exact skip (fun q => c34 ((k.fin g4 g1 hi (by omega) ui uj).mpr q.2.2).1.symm)
          · refine g_aload_n C (gd DX6_finerKind_0 23 rfl) 0 rfl rfl ?_
            refine g_iload_n C (gd DX6_finerKind_0 24 rfl) 1 rfl rfl ?_
            refine g_iload_n C (gd DX6_finerKind_0 25 rfl) 2 rfl rfl ?_
            refine g_callV (ci := 6) C [_, _] mX6_sameBehind lm_TestJudge_Table_113 (by exact ht.1) rfl rfl (e_t_sameBehind ht g0 hi (by omega)) hfl (by decide) (by decide) (by omega) (by omega) rfl rfl (Nat.le_of_ble_eq_true rfl) (gd DX6_finerKind_0 26 rfl) (fun r h2 hp => ?_)
            obtain ⟨rfl, ⟨rfl, hall⟩ | ⟨rfl, hall⟩⟩ := hp
            · show GW z w 3 _ 0 0 _ _ [.int 1] _
              refine g_if_eq C 48 (gd DX6_finerKind_0 27 rfl) (by decide) (fun c43 => ?_) (fun c43 => ?_)
              · exact absurd c43 (by decide)
              · refine g_iload_n C (gd DX6_finerKind_0 28 rfl) 2 rfl rfl ?_
                exact g_iret C (by omega) (by omega) ⟨rfl, j, rfl, by omega, uj, (k.fin g4 g1 hi (by omega) ui uj).mp ⟨c34.symm, hall⟩, rep j (by omega) hn⟩ (gd DX6_finerKind_0 29 rfl)
            · show GW z w 3 _ 0 0 _ _ [.int 0] _
              refine g_if_eq C 48 (gd DX6_finerKind_0 27 rfl) (by decide) (fun c43 => ?_) (fun c43 => ?_)
              · exact skip (fun q => hall ((k.fin g4 g1 hi (by omega) ui uj).mpr q.2.2).2)
              · exact absurd rfl c43
  refine g_aload_n C (gd DX6_finerKind_0 0 rfl) 0 rfl rfl ?_
  refine g_getr (ci := 6) (k := 10) C rfl (by decide) rfl lf_TestJudge_Table_44 ht.1 ht.2.2.2.2.2.2.2.1.1 (gd DX6_finerKind_0 1 rfl) ?_
  refine g_iload_n C (gd DX6_finerKind_0 2 rfl) 1 rfl rfl ?_
  refine g_iaj (j := i) C ht.2.2.2.2.2.2.2.1.2.1 ht.2.2.2.2.2.2.2.1.2.2 (by first | decide | omega) rfl (by omega) (gd DX6_finerKind_0 3 rfl) ?_
  rw [tR_at (by omega), d2]
  refine g_istore_n (lv' := [(0, _), (1, _), (2, _)]) C (gd DX6_finerKind_0 4 rfl) [1, 2, 0] rfl (by decide) rfl ?_
  exact loop (i - c0) c0 (by omega) (Nat.le_refl _) (fun c h1 h2 => by omega)
end C18
