/-! Table: numberRests -/
section RP
variable {G E U : Nat → Int32} {N : Nat} {K : Nat → Int32}
/-- the least state with the same rest -/
def rpK (K : Nat → Int32) (s : Nat) : Nat := (K s).toNatClampNeg
/-- kinds are the rests -/
def kdX (G E U : Nat → Int32) (N : Nat) (K : Nat → Int32) : Prop := kdB G E U N K ∧ ∀ s t, s < N → t < N → ¬ U s = 0 → ¬ U t = 0 → (K s = K t ↔ Bis 0 (vH G E U N) s t)
theorem kdX.rp (hN : N ≤ 125) (k : kdX G E U N K) {s : Nat} (hs : s < N) (us : ¬ U s = 0) : K s = nI (rpK K s) ∧ rpK K s < N ∧ ¬ U (rpK K s) = 0 ∧ Bis 0 (vH G E U N) s (rpK K s) := by
  rcases k.1 s hs with ⟨x, _⟩ | ⟨_, c, c1, c2, c3, c4, c5⟩
  · exact absurd x us
  · have e : rpK K s = c := by rw [rpK, c2, nI_clamp (by omega)]
    rw [e]
    exact ⟨c2, by omega, c3, c4⟩
theorem kdX.u (hN : N ≤ 125) (k : kdX G E U N K) {s : Nat} (hs : s < N) : K s = -1 ↔ U s = 0 := by
  rcases k.1 s hs with ⟨x, y⟩ | ⟨x, c, c1, c2, _⟩
  · exact ⟨fun _ => x, fun _ => y⟩
  · exact ⟨fun e => by rw [c2] at e; exact absurd e (nI_neg1 (by omega)), fun e => absurd e x⟩
theorem kdX.go (g : goV G N) (hN : N ≤ 125) (k : kdX G E U N K) {s l : Nat} (hs : s < N) (hl : l < 24) : (kBe G K s l = -1 ∧ rgo 0 (vH G E U N) s l = none ∧ uNx 0 (vH G E U N) (24 * s + l) = -1) ∨ ∃ a, a < N ∧ ¬ U a = 0 ∧ kBe G K s l = K a ∧ rgo 0 (vH G E U N) s l = some a ∧ uNx 0 (vH G E U N) (24 * s + l) = nI a := by
  unfold rgo uNx
  rw [vH_7, vH_13]
  rcases g (24 * s + l) (by omega) with x | ⟨a, ha, x⟩
  · exact Or.inl ⟨kBe_n x, by rw [if_pos x, if_pos rfl], if_pos x⟩
  · rw [kBe_j (by omega) x, x, if_neg (nI_neg1 (by omega)), nI_clamp (by omega)]
    by_cases hu : U a = 0
    · exact Or.inl ⟨(k.u hN ha).mpr hu, by rw [if_pos hu, if_pos rfl], if_pos hu⟩
    · exact Or.inr ⟨a, ha, hu, rfl, by rw [if_neg hu, if_neg (nI_neg1 (by omega)), nI_clamp (by omega)], if_neg hu⟩
/-- the same rest goes on alike -/
theorem kdX.be (g : goV G N) (hN : N ≤ 125) (k : kdX G E U N K) {s t l : Nat} (hs : s < N) (ht : t < N) (hb : Bis 0 (vH G E U N) s t) (hl : l < 24) : kBe G K s l = kBe G K t l := by
  rcases k.go g hN hs hl with ⟨a1, a2, a3⟩ | ⟨a, a0, a1, a2, a3, a4⟩ <;> rcases k.go g hN ht hl with ⟨b1, b2, b3⟩ | ⟨b, b0, b1, b2, b3, b4⟩
  · rw [a1, b1]
  · exfalso
    rcases (hb 1).2 l hl with ⟨_, x⟩ | ⟨x, y, e, _, hx, _⟩
    · rw [b4] at x; exact absurd x (nI_neg1 (by omega))
    · rw [a3] at e; exact absurd e.symm (nI_neg1 (by omega))
  · exfalso
    rcases (hb 1).2 l hl with ⟨x, _⟩ | ⟨x, y, _, e, _, hx, _⟩
    · rw [a4] at x; exact absurd x (nI_neg1 (by omega))
    · rw [b3] at e; exact absurd e.symm (nI_neg1 (by omega))
  · rw [a2, b2, k.2 a b a0 b0 a1 b1]
    intro d
    rcases (hb (d + 1)).2 l hl with ⟨x, _⟩ | ⟨x, y, e1, e2, hx, hy, e3⟩
    · rw [a4] at x; exact absurd x (nI_neg1 (by omega))
    · rw [a4] at e1; rw [b4] at e2
      have h1 := (nI_eq (by omega) (by omega)).mp e1
      have h2 := (nI_eq (by omega) (by omega)).mp e2
      rw [h1, h2]; exact e3
end RP
def mapR (K : Nat → Int32) (R : List (Nat × Nat)) : List (Nat × Nat) := R.map (fun q => (rpK K q.1, q.2))
theorem mapR_get {K : Nat → Int32} {R : List (Nat × Nat)} {i : Nat} {q : Nat × Nat} (h : R[i]? = some q) : (mapR K R)[i]? = some (rpK K q.1, q.2) := by rw [mapR, List.getElem?_map, h]; rfl
theorem mapR_len (K : Nat → Int32) (R : List (Nat × Nat)) : (mapR K R).length = R.length := List.length_map _
/-- states of the list: there, and not empty -/
def okR (U : Nat → Int32) (N : Nat) (R : List (Nat × Nat)) : Prop := ∀ q, q ∈ R → q.1 < N ∧ ¬ U q.1 = 0
theorem addR_map {G E U : Nat → Int32} {N : Nat} {K : Nat → Int32} (hN : N ≤ 125) (k : kdX G E U N K) {R : List (Nat × Nat)} (ok : okR U N R) {a f : Nat} (ha : a < N) (ua : ¬ U a = 0) : addR (mapR K R) (rpK K a) f = mapR K (@ite _ (∃ p, p ∈ R ∧ Bis 0 (vH G E U N) p.1 a) (Classical.propDecidable _) R (R ++ [(a, f)])) := by
  have key : (∃ p, p ∈ mapR K R ∧ p.1 = rpK K a) ↔ ∃ p, p ∈ R ∧ Bis 0 (vH G E U N) p.1 a := by
    have one : ∀ p, p ∈ R → (rpK K p.1 = rpK K a ↔ Bis 0 (vH G E U N) p.1 a) := by
      intro p hp
      obtain ⟨p1, p2⟩ := ok p hp
      rw [← k.2 p.1 a p1 ha p2 ua, (k.rp hN p1 p2).1, (k.rp hN ha ua).1, nI_eq (by have := (k.rp hN p1 p2).2.1; omega) (by have := (k.rp hN ha ua).2.1; omega)]
    constructor
    · rintro ⟨p, hp, e⟩
      obtain ⟨q, hq, rfl⟩ := List.mem_map.mp hp
      exact ⟨q, hq, (one q hq).mp e⟩
    · rintro ⟨p, hp, e⟩
      exact ⟨_, List.mem_map.mpr ⟨p, hp, rfl⟩, (one p hp).mpr e⟩
  unfold addR
  by_cases e : ∃ p, p ∈ R ∧ Bis 0 (vH G E U N) p.1 a
  · rw [if_pos (key.mpr e), if_pos e]
  · rw [if_neg (fun x => e (key.mp x)), if_neg e, mapR, mapR, List.map_append]
    rfl
/-- what the table holds of rest q and letter l -/
def tCl (v : HS) (R : List (Nat × Nat)) (q : Nat × Nat) (l : Nat) (x : Int32) : Prop := (rgo 0 v q.1 l = none ∧ x = -1) ∨ ∃ (a j : Nat) (p : Nat × Nat), rgo 0 v q.1 l = some a ∧ R[j]? = some p ∧ Bis 0 v p.1 a ∧ x = nI j
theorem nbI.len {RR : List (Nat × Nat)} {ρ : Nat → Nat → Int32} (nb : nbI RR ρ) : RR.length ≤ 125 := pigeon (fun i => ((RR[i]?).getD (0, 0)).1) RR.length 125 (fun i hi => by
      show ((RR[i]?).getD (0, 0)).1 < 125
      rw [List.getElem?_eq_getElem hi]
      exact (nb.2.1 i _ (List.getElem?_eq_getElem hi)).1) (fun i k hi hk he => by
      have he : ((RR[i]?).getD (0, 0)).1 = ((RR[k]?).getD (0, 0)).1 := he
      rw [List.getElem?_eq_getElem hi, List.getElem?_eq_getElem hk] at he
      exact nb.2.2.2 i k _ _ (List.getElem?_eq_getElem hi) (List.getElem?_eq_getElem hk) he)
section C21
variable {w : gD} {t : Nat} {h : HS}
theorem e_t_numberRests (ht : tSh t h) {N : Nat} {ρ : Nat → Nat → Int32} (g : tgO N ρ) {U : Nat → Int32} (k : kdX (ρ 6) (ρ 5) U N (ρ 7)) : Ev w 1 0 0 yX6_numberRests cX6_numberRests 4 none [.ref t] (tR t h ρ) (fun r' h' => r' = none ∧ ∃ R ρ', h' = tR t h ρ' ∧ Rsp 0 (vH (ρ 6) (ρ 5) U N) R ∧ R.length ≤ 125 ∧ ρ' 0 0 = nI R.length ∧ (∀ (i : Nat) (q : Nat × Nat), R[i]? = some q → q.1 < N ∧ ¬ U q.1 = 0 ∧ ρ' 1 i = ρ 5 q.1 ∧ ρ' 2 i = nI q.2 ∧ ∀ l, l < 24 → tCl (vH (ρ 6) (ρ 5) U N) R q l (ρ' 3 (24 * i + l))) ∧ (∀ a, a ≠ 0 → a ≠ 1 → a ≠ 2 → a ≠ 3 → a ≠ 9 → a ≠ 10 → ρ' a = ρ a) ∧ ∀ j, j ≠ 0 → ρ' 0 j = ρ 0 j) := by
  refine g_start (by decide) (Nat.le_of_ble_eq_true rfl) [(0, _)] rfl (fun z hfl C => ?_)
  obtain ⟨⟨g1, g2⟩, g3, g4⟩ := g
  generalize hv : vH (ρ 6) (ρ 5) U N = v at *
  have outer : ∀ y i ρ', i + y = 125 → i ≤ (rbfs (rgo 0 v) (Bis 0 v) (24 * i)).length → ¬ U 0 = 0 → okR U N (rbfs (rgo 0 v) (Bis 0 v) (24 * i)) → nbI (mapR (ρ 7) (rbfs (rgo 0 v) (Bis 0 v) (24 * i))) ρ' → (∀ (j : Nat) (q : Nat × Nat), (rbfs (rgo 0 v) (Bis 0 v) (24 * i))[j]? = some q → j < i → ρ' 1 j = ρ 5 q.1 ∧ ∀ l, l < 24 → tCl v (rbfs (rgo 0 v) (Bis 0 v) (24 * i)) q l (ρ' 3 (24 * j + l))) → (∀ a, a ≠ 0 → a ≠ 1 → a ≠ 2 → a ≠ 3 → a ≠ 9 → a ≠ 10 → ρ' a = ρ a) → (∀ j, j ≠ 0 → ρ' 0 j = ρ 0 j) → GW z w 4 (gQ z w 0 0 (fun r' h'' => r' = none ∧ ∃ R ρ', h'' = tR t h ρ' ∧ Rsp 0 v R ∧ R.length ≤ 125 ∧ ρ' 0 0 = nI R.length ∧ (∀ (i : Nat) (q : Nat × Nat), R[i]? = some q → q.1 < N ∧ ¬ U q.1 = 0 ∧ ρ' 1 i = ρ 5 q.1 ∧ ρ' 2 i = nI q.2 ∧ ∀ l, l < 24 → tCl v R q l (ρ' 3 (24 * i + l))) ∧ (∀ a, a ≠ 0 → a ≠ 1 → a ≠ 2 → a ≠ 3 → a ≠ 9 → a ≠ 10 → ρ' a = ρ a) ∧ ∀ j, j ≠ 0 → ρ' 0 j = ρ 0 j)) 0 0 38 [(0, .ref t), (1, .int (nI i))] [] (tR t h ρ') := by
    intro y
    have out : ∀ i ρ', i = (rbfs (rgo 0 v) (Bis 0 v) (24 * i)).length → ¬ U 0 = 0 → okR U N (rbfs (rgo 0 v) (Bis 0 v) (24 * i)) → nbI (mapR (ρ 7) (rbfs (rgo 0 v) (Bis 0 v) (24 * i))) ρ' → (∀ (j : Nat) (q : Nat × Nat), (rbfs (rgo 0 v) (Bis 0 v) (24 * i))[j]? = some q → j < i → ρ' 1 j = ρ 5 q.1 ∧ ∀ l, l < 24 → tCl v (rbfs (rgo 0 v) (Bis 0 v) (24 * i)) q l (ρ' 3 (24 * j + l))) → (∀ a, a ≠ 0 → a ≠ 1 → a ≠ 2 → a ≠ 3 → a ≠ 9 → a ≠ 10 → ρ' a = ρ a) → (∀ j, j ≠ 0 → ρ' 0 j = ρ 0 j) → GW z w 4 (gQ z w 0 0 (fun r' h'' => r' = none ∧ ∃ R ρ', h'' = tR t h ρ' ∧ Rsp 0 v R ∧ R.length ≤ 125 ∧ ρ' 0 0 = nI R.length ∧ (∀ (i : Nat) (q : Nat × Nat), R[i]? = some q → q.1 < N ∧ ¬ U q.1 = 0 ∧ ρ' 1 i = ρ 5 q.1 ∧ ρ' 2 i = nI q.2 ∧ ∀ l, l < 24 → tCl v R q l (ρ' 3 (24 * i + l))) ∧ (∀ a, a ≠ 0 → a ≠ 1 → a ≠ 2 → a ≠ 3 → a ≠ 9 → a ≠ 10 → ρ' a = ρ a) ∧ ∀ j, j ≠ 0 → ρ' 0 j = ρ 0 j)) 0 0 134 [(0, .ref t), (1, .int (nI i))] [] (tR t h ρ') := by
      intro i ρ' hi u0 ok nb hj ho ho0
      have hlen := nb.len
      rw [mapR_len] at hlen
      refine g_vret C (by omega) (by omega) ⟨rfl, rbfs (rgo 0 v) (Bis 0 v) (24 * i), ρ', rfl, ⟨fun e => absurd (by rw [← hv] at e; exact e) u0, fun _ => by rw [← hi]⟩, hlen, by rw [nb.1, mapR_len], fun j q hq => ?_, ho, ho0⟩ (gd DX6_numberRests_1 21 rfl)
      have hjl := (List.getElem?_eq_some_iff.mp hq).1
      obtain ⟨q1, q2⟩ := ok q (List.mem_of_getElem? hq)
      obtain ⟨x1, x2⟩ := hj j q hq (by omega)
      exact ⟨q1, q2, x1, (nb.2.1 j _ (mapR_get hq)).2.2.1, x2⟩
    induction y with
    | zero =>
      intro i ρ' hi hle u0 ok nb hj ho ho0
      have hlen := nb.len
      rw [mapR_len] at hlen
      refine g_iload_n C (gd DX6_numberRests_0 24 rfl) 1 rfl rfl ?_
      refine g_bipush (v := 125) C (gd DX6_numberRests_0 25 rfl) (by decide) ?_
      refine g_icmp_ge C 134 (gd DX6_numberRests_0 26 rfl) (by decide) (fun c41 => ?_) (fun c41 => ?_)
      · exact out i ρ' (by omega) u0 ok nb hj ho ho0
      · exact absurd (nI_le (a := 125) (b := i) (by omega) (by omega)) c41
    | succ y ih =>
      intro i ρ' hi hle u0 ok nb hj ho ho0
      have hlen := nb.len
      rw [mapR_len] at hlen
      refine g_iload_n C (gd DX6_numberRests_0 24 rfl) 1 rfl rfl ?_
      refine g_bipush (v := 125) C (gd DX6_numberRests_0 25 rfl) (by decide) ?_
      refine g_icmp_ge C 134 (gd DX6_numberRests_0 26 rfl) (by decide) (fun c41 => ?_) (fun c41 => ?_)
      · exact absurd c41 (nI_ge (a := i) (b := 125) (by omega) (by omega))
      · refine g_iload_n C (gd DX6_numberRests_0 27 rfl) 1 rfl rfl ?_
        refine g_aload_n C (gd DX6_numberRests_0 28 rfl) 0 rfl rfl ?_
        refine g_geti (ci := 6) (k := 0) C rfl (by decide) rfl lf_TestJudge_Table_9 ht.1 (gd DX6_numberRests_0 29 rfl) ?_
        rw [tR_0, nb.1, mapR_len]
        refine g_icmp_ge C 134 (gd DX6_numberRests_0 30 rfl) (by decide) (fun c49 => ?_) (fun c49 => ?_)
        · exact out i ρ' (Nat.le_antisymm hle (ge_t c49 (by omega) (by omega))) u0 ok nb hj ho ho0
        · have hlt := ge_f c49 (by omega) (by omega)
          obtain ⟨q, hq⟩ : ∃ q, (rbfs (rgo 0 v) (Bis 0 v) (24 * i))[i]? = some q := ⟨_, List.getElem?_eq_getElem hlt⟩
          obtain ⟨q1, q2⟩ := ok q (List.mem_of_getElem? hq)
          obtain ⟨p1, p2, p3, p4⟩ := k.rp g1 q1 q2
          rw [hv] at p4
          have hsam : ρ' 10 i = nI (rpK (ρ 7) q.1) := (nb.2.1 i _ (mapR_get hq)).2.1
          refine g_aload_n C (gd DX6_numberRests_0 31 rfl) 0 rfl rfl ?_
          refine g_getr (ci := 6) (k := 1) C rfl (by decide) rfl lf_TestJudge_Table_15 ht.1 ht.2.1.1 (gd DX6_numberRests_0 32 rfl) ?_
          refine g_iload_n C (gd DX6_numberRests_0 33 rfl) 1 rfl rfl ?_
          refine g_aload_n C (gd DX6_numberRests_0 34 rfl) 0 rfl rfl ?_
          refine g_getr (ci := 6) (k := 8) C rfl (by decide) rfl lf_TestJudge_Table_38 ht.1 ht.2.2.2.2.2.1.1 (gd DX6_numberRests_0 35 rfl) ?_
          refine g_aload_n C (gd DX6_numberRests_0 36 rfl) 0 rfl rfl ?_
          refine g_getr (ci := 6) (k := 13) C rfl (by decide) rfl lf_TestJudge_Table_53 ht.1 ht.2.2.2.2.2.2.2.2.2.2.1 (gd DX6_numberRests_0 37 rfl) ?_
          refine g_iload_n C (gd DX6_numberRests_0 38 rfl) 1 rfl rfl ?_
          refine g_iaj (j := i) C ht.2.2.2.2.2.2.2.2.2.2.2.1 ht.2.2.2.2.2.2.2.2.2.2.2.2 (by first | decide | omega) rfl (by omega) (gd DX6_numberRests_0 39 rfl) ?_
          rw [tR_at (by omega), hsam]
          refine g_iaj (j := rpK (ρ 7) q.1) C ht.2.2.2.2.2.1.2.1 ht.2.2.2.2.2.1.2.2 (by first | decide | omega) rfl (by omega) (gd DX6_numberRests_0 40 rfl) ?_
          rw [tR_at (by omega), ho 5 (by omega) (by omega) (by omega) (by omega) (by omega) (by omega)]
          refine g_isj (j := i) C ht.2.1.2.1 ht.2.1.2.2 (by first | decide | omega) rfl (by omega) (gd DX6_numberRests_0 41 rfl) ?_
          rw [tR_i (by omega)]
          refine g_iconst (v := 0) C (gd DX6_numberRests_0 42 rfl) (by decide) ?_
          refine g_istore_n (lv' := [(0, _), (1, _), (2, _)]) C (gd DX6_numberRests_0 43 rfl) [1, 2, 0] rfl (by decide) rfl ?_
          have inner : ∀ x l σ, l + x = 24 → okR U N (rbfs (rgo 0 v) (Bis 0 v) (24 * i + l)) → nbI (mapR (ρ 7) (rbfs (rgo 0 v) (Bis 0 v) (24 * i + l))) σ → (∀ (j : Nat) (q : Nat × Nat), (rbfs (rgo 0 v) (Bis 0 v) (24 * i + l))[j]? = some q → j ≤ i → σ 1 j = ρ 5 q.1 ∧ ∀ l', l' < 24 → (j < i ∨ l' < l) → tCl v (rbfs (rgo 0 v) (Bis 0 v) (24 * i + l)) q l' (σ 3 (24 * j + l'))) → (∀ a, a ≠ 0 → a ≠ 1 → a ≠ 2 → a ≠ 3 → a ≠ 9 → a ≠ 10 → σ a = ρ a) → (∀ j, j ≠ 0 → σ 0 j = ρ 0 j) → GW z w 4 (gQ z w 0 0 (fun r' h'' => r' = none ∧ ∃ R ρ', h'' = tR t h ρ' ∧ Rsp 0 v R ∧ R.length ≤ 125 ∧ ρ' 0 0 = nI R.length ∧ (∀ (i : Nat) (q : Nat × Nat), R[i]? = some q → q.1 < N ∧ ¬ U q.1 = 0 ∧ ρ' 1 i = ρ 5 q.1 ∧ ρ' 2 i = nI q.2 ∧ ∀ l, l < 24 → tCl v R q l (ρ' 3 (24 * i + l))) ∧ (∀ a, a ≠ 0 → a ≠ 1 → a ≠ 2 → a ≠ 3 → a ≠ 9 → a ≠ 10 → ρ' a = ρ a) ∧ ∀ j, j ≠ 0 → ρ' 0 j = ρ 0 j)) 0 0 71 [(0, .ref t), (1, .int (nI i)), (2, .int (nI l))] [] (tR t h σ) := by
            intro x
            induction x with
            | zero =>
              intro l σ hl ok' nb' hj' ho' ho0'
              have el : l = 24 := by omega
              subst el
              refine g_iload_n C (gd DX6_numberRests_0 44 rfl) 2 rfl rfl ?_
              refine g_bipush (v := 24) C (gd DX6_numberRests_0 45 rfl) (by decide) ?_
              refine g_icmp_ge C 128 (gd DX6_numberRests_0 46 rfl) (by decide) (fun c74 => ?_) (fun c74 => ?_)
              · refine GW.sub [0, 1, 2] rfl (Nat.le_refl _) (Nat.le_refl _) (lv' := [(0, _), (1, _), (2, _)]) ?_
                refine g_iinc (lv' := [(0, _), (1, _), (2, _)]) C (gd DX6_numberRests_1 19 rfl) 1 [1, 0, 2] rfl rfl (by decide) rfl ?_
                refine g_goto (tgt := 38) C (gd DX6_numberRests_1 20 rfl) (by decide) ?_
                refine GW.sub [0, 1] rfl (Nat.le_refl _) (Nat.le_refl _) (lv' := [(0, _), (1, _)]) ?_
                refine GW.cast (by rw [inc1]) rfl rfl (ih (i + 1) σ (by omega) ?_ u0 ?_ ?_ ?_ ho' ho0')
                · have := (List.getElem?_eq_some_iff.mp (rbfs_stay hq 24)).1
                  rw [show 24 * (i + 1) = 24 * i + 24 by omega]
                  omega
                · rw [show 24 * (i + 1) = 24 * i + 24 by omega]; exact ok'
                · rw [show 24 * (i + 1) = 24 * i + 24 by omega]; exact nb'
                · rw [show 24 * (i + 1) = 24 * i + 24 by omega]
                  intro j p hp hji
                  obtain ⟨x1, x2⟩ := hj' j p hp (by omega)
                  exact ⟨x1, fun l' hl' => x2 l' hl' (by omega)⟩
              · exact absurd (nI_le (a := 24) (b := 24) (by omega) (by omega)) c74
            | succ x ihx =>
              intro l σ hl ok' nb' hj' ho' ho0'
              have hl24 : l < 24 := by omega
              have hqs := rbfs_stay hq l
              have hsam' : σ 10 i = nI (rpK (ρ 7) q.1) := (nb'.2.1 i _ (mapR_get hqs)).2.1
              have hdep' : σ 2 i = nI q.2 := (nb'.2.1 i _ (mapR_get hqs)).2.2.1
              have ge : (24 * i + l) / 24 = i := by omega
              have gm : (24 * i + l) % 24 = l := by omega
              have gk : tgO N σ := ⟨⟨g1, g2⟩, by rw [ho0' 7 (by omega)]; exact g3, by rw [ho' 6 (by omega) (by omega) (by omega) (by omega) (by omega) (by omega)]; exact g4⟩
              have eb : kBe (ρ 6) (ρ 7) (rpK (ρ 7) q.1) l = kBe (ρ 6) (ρ 7) q.1 l := (k.be g4 g1 q1 p2 (by rw [hv]; exact p4) hl24).symm
              have fin : ∀ τ x3 xv, okR U N (rbfs (rgo 0 v) (Bis 0 v) (24 * i + l + 1)) → nbI (mapR (ρ 7) (rbfs (rgo 0 v) (Bis 0 v) (24 * i + l + 1))) τ → tCl v (rbfs (rgo 0 v) (Bis 0 v) (24 * i + l + 1)) q l xv → (∀ a, a ≠ 0 → a ≠ 2 → a ≠ 9 → a ≠ 10 → τ a = σ a) → (∀ j, j ≠ 0 → τ 0 j = σ 0 j) → GW z w 4 (gQ z w 0 0 (fun r' h'' => r' = none ∧ ∃ R ρ', h'' = tR t h ρ' ∧ Rsp 0 v R ∧ R.length ≤ 125 ∧ ρ' 0 0 = nI R.length ∧ (∀ (i : Nat) (q : Nat × Nat), R[i]? = some q → q.1 < N ∧ ¬ U q.1 = 0 ∧ ρ' 1 i = ρ 5 q.1 ∧ ρ' 2 i = nI q.2 ∧ ∀ l, l < 24 → tCl v R q l (ρ' 3 (24 * i + l))) ∧ (∀ a, a ≠ 0 → a ≠ 1 → a ≠ 2 → a ≠ 3 → a ≠ 9 → a ≠ 10 → ρ' a = ρ a) ∧ ∀ j, j ≠ 0 → ρ' 0 j = ρ 0 j)) 0 0 121 [(0, .ref t), (1, .int (nI i)), (2, .int (nI l)), (3, .int x3)] [.int xv, .int (nI i * 24 + nI l), .ref (t + 3)] (tR t h τ) := by
                intro τ x3 xv a1 a2 a3 a4 a5
                refine g_isj (j := 24 * i + l) C ht.2.2.2.1.2.1 ht.2.2.2.1.2.2 (by first | decide | omega) (i24 i l) (by omega) (gd DX6_numberRests_1 16 rfl) ?_
                rw [tR_i (by omega)]
                refine g_iinc (lv' := [(0, _), (1, _), (2, _), (3, _)]) C (gd DX6_numberRests_1 17 rfl) 2 [1, 2, 0, 3] rfl rfl (by decide) rfl ?_
                refine g_goto (tgt := 71) C (gd DX6_numberRests_1 18 rfl) (by decide) ?_
                refine GW.sub [0, 1, 2] rfl (Nat.le_refl _) (Nat.le_refl _) (lv' := [(0, _), (1, _), (2, _)]) ?_
                refine GW.cast (by rw [inc1]) rfl rfl (ihx (l + 1) _ (by omega) (by rw [← Nat.add_assoc]; exact a1) ?_ ?_ (fun a b0 b1 b2 b3 b9 b10 => by rw [rset_ne b3, a4 a b0 b2 b9 b10]; exact ho' a b0 b1 b2 b3 b9 b10) (fun j hj => by rw [rset_ne (by omega), a5 j hj]; exact ho0' j hj))
                · rw [← Nat.add_assoc]
                  refine ⟨by rw [rset_ne (by omega)]; exact a2.1, fun j p hp => by rw [rset_ne (by omega), rset_ne (by omega), rset_ne (by omega)]; exact a2.2.1 j p hp, fun c hc hx => by rw [rset_ne (by omega)]; exact a2.2.2.1 c hc hx, a2.2.2.2⟩
                · rw [← Nat.add_assoc]
                  intro j p hp hji
                  rw [rset_ne (by omega), rset_eq, a4 1 (by omega) (by omega) (by omega) (by omega)]
                  have hjl : j < (rbfs (rgo 0 v) (Bis 0 v) (24 * i + l)).length := by
                    have := (List.getElem?_eq_some_iff.mp hqs).1
                    omega
                  have hst := rbfs_stay (List.getElem?_eq_getElem hjl) 1
                  rw [hst] at hp
                  have ep := Option.some.inj hp
                  obtain ⟨x1, x2⟩ := hj' j p (by rw [← ep]; exact List.getElem?_eq_getElem hjl) hji
                  refine ⟨x1, fun l' hl' hor => ?_⟩
                  by_cases e : j = i ∧ l' = l
                  · obtain ⟨e1, e2⟩ := e
                    subst e1; subst e2
                    rw [upd, if_pos rfl]
                    have hqq : p = q := by
                      have h1 : (rbfs (rgo 0 v) (Bis 0 v) (24 * j + l'))[j]? = some p := by rw [← ep]; exact List.getElem?_eq_getElem hjl
                      rw [hqs] at h1
                      exact (Option.some.inj h1).symm
                    rw [hqq]
                    exact a3
                  · rw [upd, if_neg (by omega), a4 3 (by omega) (by omega) (by omega) (by omega)]
                    rcases x2 l' hl' (by omega) with y | ⟨a, j', p', y1, y2, y3, y4⟩
                    · exact Or.inl y
                    · exact Or.inr ⟨a, j', p', y1, rbfs_stay y2 1, y3, y4⟩
              refine g_iload_n C (gd DX6_numberRests_0 44 rfl) 2 rfl rfl ?_
              refine g_bipush (v := 24) C (gd DX6_numberRests_0 45 rfl) (by decide) ?_
              refine g_icmp_ge C 128 (gd DX6_numberRests_0 46 rfl) (by decide) (fun c74 => ?_) (fun c74 => ?_)
              · exact absurd c74 (nI_ge (a := l) (b := 24) (by omega) (by omega))
              · refine g_aload_n C (gd DX6_numberRests_0 47 rfl) 0 rfl rfl ?_
                refine g_aload_n C (gd DX6_numberRests_0 48 rfl) 0 rfl rfl ?_
                refine g_getr (ci := 6) (k := 13) C rfl (by decide) rfl lf_TestJudge_Table_53 ht.1 ht.2.2.2.2.2.2.2.2.2.2.1 (gd DX6_numberRests_0 49 rfl) ?_
                refine g_iload_n C (gd DX6_numberRests_0 50 rfl) 1 rfl rfl ?_
                refine g_iaj (j := i) C ht.2.2.2.2.2.2.2.2.2.2.2.1 ht.2.2.2.2.2.2.2.2.2.2.2.2 (by first | decide | omega) rfl (by omega) (gd DX6_numberRests_0 51 rfl) ?_
                rw [tR_at (by omega), hsam']
                refine g_iload_n C (gd DX6_numberRests_0 52 rfl) 2 rfl rfl ?_
                refine g_cV1 (ci := 6) C [_, _] mX6_kindBehind lm_TestJudge_Table_99 (by exact ht.1) rfl rfl (e_t_kindBehind ht gk p2 hl24) hfl (by decide) (by decide) (by omega) (by omega) rfl rfl (Nat.le_of_ble_eq_true rfl) (gd DX6_numberRests_0 53 rfl) ?_
                rw [ho' 6 (by omega) (by omega) (by omega) (by omega) (by omega) (by omega), ho' 7 (by omega) (by omega) (by omega) (by omega) (by omega) (by omega), eb]
                rcases k.go g4 g1 q1 hl24 with ⟨b1, b2, -⟩ | ⟨a, a0, a1, b1, b2, -⟩
                · rw [hv] at b2
                  have es : rbfs (rgo 0 v) (Bis 0 v) (24 * i + l + 1) = rbfs (rgo 0 v) (Bis 0 v) (24 * i + l) := rstep_none (by rw [ge]; exact hqs) (by rw [gm]; exact b2)
                  rw [b1]
                  refine g_istore_n (lv' := [(0, _), (1, _), (2, _), (3, _)]) C (gd DX6_numberRests_0 54 rfl) [1, 2, 3, 0] rfl (by decide) rfl ?_
                  refine g_aload_n C (gd DX6_numberRests_0 55 rfl) 0 rfl rfl ?_
                  refine g_getr (ci := 6) (k := 3) C rfl (by decide) rfl lf_TestJudge_Table_22 ht.1 ht.2.2.2.1.1 (gd DX6_numberRests_0 56 rfl) ?_
                  refine g_iload_n C (gd DX6_numberRests_0 57 rfl) 1 rfl rfl ?_
                  refine g_bipush (v := 24) C (gd DX6_numberRests_0 58 rfl) (by decide) ?_
                  refine g_imul C (gd DX6_numberRests_0 59 rfl) ?_
                  refine g_iload_n C (gd DX6_numberRests_1 0 rfl) 2 rfl rfl ?_
                  refine g_iadd C (gd DX6_numberRests_1 1 rfl) ?_
                  refine g_iload_n C (gd DX6_numberRests_1 2 rfl) 3 rfl rfl ?_
                  refine g_iconst (v := -1) C (gd DX6_numberRests_1 3 rfl) (by decide) ?_
                  refine g_icmp_ne C 108 (gd DX6_numberRests_1 4 rfl) (by decide) (fun c101 => ?_) (fun c101 => ?_)
                  · exact absurd rfl c101
                  · refine g_iconst (v := -1) C (gd DX6_numberRests_1 5 rfl) (by decide) ?_
                    refine g_goto (tgt := 121) C (gd DX6_numberRests_1 6 rfl) (by decide) ?_
                    exact fin σ _ _ (by rw [es]; exact ok') (by rw [es]; exact nb') (Or.inl ⟨b2, rfl⟩) (fun _ _ _ _ _ => rfl) (fun _ _ => rfl)
                · rw [hv] at b2
                  obtain ⟨r1, r2, r3, r4⟩ := k.rp g1 a0 a1
                  rw [hv] at r4
                  have es : rbfs (rgo 0 v) (Bis 0 v) (24 * i + l + 1) = @ite _ (∃ p, p ∈ rbfs (rgo 0 v) (Bis 0 v) (24 * i + l) ∧ Bis 0 v p.1 a) (Classical.propDecidable _) (rbfs (rgo 0 v) (Bis 0 v) (24 * i + l)) (rbfs (rgo 0 v) (Bis 0 v) (24 * i + l) ++ [(a, q.2 + 1)]) := by
                    show rstep _ _ _ _ = _
                    unfold rstep
                    rw [ge, hqs, gm]
                    simp only [b2]
                  have em := addR_map (f := q.2 + 1) g1 k ok' a0 a1
                  rw [hv, ← es] at em
                  rw [b1, r1]
                  refine g_istore_n (lv' := [(0, _), (1, _), (2, _), (3, _)]) C (gd DX6_numberRests_0 54 rfl) [1, 2, 3, 0] rfl (by decide) rfl ?_
                  refine g_aload_n C (gd DX6_numberRests_0 55 rfl) 0 rfl rfl ?_
                  refine g_getr (ci := 6) (k := 3) C rfl (by decide) rfl lf_TestJudge_Table_22 ht.1 ht.2.2.2.1.1 (gd DX6_numberRests_0 56 rfl) ?_
                  refine g_iload_n C (gd DX6_numberRests_0 57 rfl) 1 rfl rfl ?_
                  refine g_bipush (v := 24) C (gd DX6_numberRests_0 58 rfl) (by decide) ?_
                  refine g_imul C (gd DX6_numberRests_0 59 rfl) ?_
                  refine g_iload_n C (gd DX6_numberRests_1 0 rfl) 2 rfl rfl ?_
                  refine g_iadd C (gd DX6_numberRests_1 1 rfl) ?_
                  refine g_iload_n C (gd DX6_numberRests_1 2 rfl) 3 rfl rfl ?_
                  refine g_iconst (v := -1) C (gd DX6_numberRests_1 3 rfl) (by decide) ?_
                  refine g_icmp_ne C 108 (gd DX6_numberRests_1 4 rfl) (by decide) (fun c101 => ?_) (fun c101 => ?_)
                  · refine g_aload_n C (gd DX6_numberRests_1 7 rfl) 0 rfl rfl ?_
                    refine g_iload_n C (gd DX6_numberRests_1 8 rfl) 3 rfl rfl ?_
                    refine g_aload_n C (gd DX6_numberRests_1 9 rfl) 0 rfl rfl ?_
                    refine g_getr (ci := 6) (k := 2) C rfl (by decide) rfl lf_TestJudge_Table_19 ht.1 ht.2.2.1.1 (gd DX6_numberRests_1 10 rfl) ?_
                    refine g_iload_n C (gd DX6_numberRests_1 11 rfl) 1 rfl rfl ?_
                    refine g_iaj (j := i) C ht.2.2.1.2.1 ht.2.2.1.2.2 (by first | decide | omega) rfl (by omega) (gd DX6_numberRests_1 12 rfl) ?_
                    rw [tR_at (by omega), hdep']
                    refine g_iconst (v := 1) C (gd DX6_numberRests_1 13 rfl) (by decide) ?_
                    refine g_iadd C (gd DX6_numberRests_1 14 rfl) ?_
                    rw [show nI q.2 + 1 = nI (q.2 + 1) from nx_add (b := 1) rfl rfl]
                    refine g_callV (ci := 6) C [_, _] mX6_numberOf lm_TestJudge_Table_123 (by exact ht.1) rfl rfl (e_t_numberOf ht nb' (c := rpK (ρ 7) a) (f := q.2 + 1) (by omega)) hfl (by decide) (by decide) (by omega) (by omega) rfl rfl (Nat.le_of_ble_eq_true rfl) (gd DX6_numberRests_1 15 rfl) (fun r h2 hp => ?_)
                    obtain ⟨j, p, τ, rfl, rfl, n1, n2, n3, n4, n5⟩ := hp
                    rw [em] at n1 n2
                    show GW z w 4 _ 0 0 _ _ (.int (nI j) :: _) _
                    have ok2 : okR U N (rbfs (rgo 0 v) (Bis 0 v) (24 * i + l + 1)) := by
                      rw [es]
                      split
                      · exact ok'
                      · intro p hp
                        rcases List.mem_append.mp hp with u | u
                        · exact ok' p u
                        · rw [List.mem_singleton.mp u]; exact ⟨a0, a1⟩
                    refine fin τ _ _ ok2 n1 (Or.inr ⟨a, j, ?_⟩) n4 n5
                    rw [mapR, List.getElem?_map] at n2
                    cases hr : (rbfs (rgo 0 v) (Bis 0 v) (24 * i + l + 1))[j]? with
                    | none => rw [hr] at n2; cases n2
                    | some p' =>
                      rw [hr] at n2
                      have e2 : (rpK (ρ 7) p'.1, p'.2) = p := Option.some.inj n2
                      obtain ⟨s1, s2⟩ := ok2 p' (List.mem_of_getElem? hr)
                      refine ⟨p', b2, rfl, ?_, rfl⟩
                      rw [← hv]
                      refine (k.2 p'.1 a s1 a0 s2 a1).mp ?_
                      rw [(k.rp g1 s1 s2).1, r1]
                      congr 1
                      rw [← n3, ← e2]
                  · exact absurd c101 (nI_neg1 (by omega))
          refine inner 24 0 _ rfl ok ⟨by rw [rset_ne (by omega)]; exact nb.1, fun j p hp => by rw [rset_ne (by omega), rset_ne (by omega), rset_ne (by omega)]; exact nb.2.1 j p hp, fun c hc hx => by rw [rset_ne (by omega)]; exact nb.2.2.1 c hc hx, nb.2.2.2⟩ (fun j p hp hji => ?_) (fun a b0 b1 b2 b3 b9 b10 => by rw [rset_ne b1]; exact ho a b0 b1 b2 b3 b9 b10) (fun j hj0 => by rw [rset_ne (by omega)]; exact ho0 j hj0)
          rw [rset_eq, rset_ne (show 3 ≠ 1 by omega)]
          by_cases e : j = i
          · subst e
            rw [Nat.add_zero, hq] at hp
            have ep := Option.some.inj hp
            refine ⟨?_, fun l' hl' hor => by omega⟩
            rw [upd, if_pos rfl, ← ep]
            have := p4 0
            rw [← hv] at this
            exact this.symm
          · rw [upd, if_neg e]
            obtain ⟨x1, x2⟩ := hj j p hp (by omega)
            exact ⟨x1, fun l' hl' _ => x2 l' hl'⟩
  refine g_aload_n C (gd DX6_numberRests_0 0 rfl) 0 rfl rfl ?_
  refine g_iconst (v := 0) C (gd DX6_numberRests_0 1 rfl) (by decide) ?_
  refine g_puti (ci := 6) (k := 0) C rfl (by decide) rfl lf_TestJudge_Table_9 ht.1 (Or.inl rfl) rfl (gd DX6_numberRests_0 2 rfl) ?_
  refine g_aload_n C (gd DX6_numberRests_0 3 rfl) 0 rfl rfl ?_
  refine g_getr (ci := 6) (k := 12) C rfl (by decide) rfl lf_TestJudge_Table_50 ht.1 ht.2.2.2.2.2.2.2.2.2.1.1 (gd DX6_numberRests_0 4 rfl) ?_
  refine g_iconst (v := -1) C (gd DX6_numberRests_0 5 rfl) (by decide) ?_
  rw [tR_i0]
  refine g_cS0 (v := .null) C [_, _] mJ7_fill_53178 lm_TestJudge_Table_117 (e_fill (h := tR t h (rset ρ 0 (upd (ρ 0) 0 0))) ht.2.2.2.2.2.2.2.2.2.1.2.1 ht.2.2.2.2.2.2.2.2.2.1.2.2 (by decide) _) hfl (by decide) (by decide) (by omega) (by omega) rfl rfl (Nat.le_of_ble_eq_true rfl) (gd DX6_numberRests_0 6 rfl) ?_
  rw [tR_at (by omega), tR_f (by omega), rset_ne (show 9 ≠ 0 by omega)]
  generalize hσ : rset (rset ρ 0 (upd (ρ 0) 0 0)) 9 (fun j => if j < 125 then -1 else ρ 9 j) = σ
  have s0 : σ 0 = upd (ρ 0) 0 0 := by rw [← hσ, rset_ne (by omega), rset_eq]
  have s9 : ∀ c, c < 125 → σ 9 c = -1 := fun c hc => by rw [← hσ, rset_eq]; exact if_pos hc
  have so : ∀ a, a ≠ 0 → a ≠ 9 → σ a = ρ a := fun a h0 h9 => by rw [← hσ, rset_ne h9, rset_ne h0]
  refine g_aload_n C (gd DX6_numberRests_0 7 rfl) 0 rfl rfl ?_
  refine g_getr (ci := 6) (k := 10) C rfl (by decide) rfl lf_TestJudge_Table_44 ht.1 ht.2.2.2.2.2.2.2.1.1 (gd DX6_numberRests_0 8 rfl) ?_
  refine g_iconst (v := 0) C (gd DX6_numberRests_0 9 rfl) (by decide) ?_
  refine g_iaj (j := 0) C ht.2.2.2.2.2.2.2.1.2.1 ht.2.2.2.2.2.2.2.1.2.2 (by first | decide | omega) rfl (by decide) (gd DX6_numberRests_0 10 rfl) ?_
  rw [tR_at (by omega), so 7 (by omega) (by omega)]
  have nb0 : nbI [] σ := ⟨by rw [s0, upd, if_pos rfl]; rfl, fun i q hq => by simp at hq, fun c hc _ => s9 c hc, fun i j p q hp => by simp at hp⟩
  refine g_iconst (v := -1) C (gd DX6_numberRests_0 11 rfl) (by decide) ?_
  refine g_icmp_ne C 24 (gd DX6_numberRests_0 12 rfl) (by decide) (fun c20 => ?_) (fun c20 => ?_)
  · have u0 : ¬ U 0 = 0 := fun x => c20 ((k.u g1 g2).mpr x)
    obtain ⟨p1, p2, p3, p4⟩ := k.rp g1 g2 u0
    refine g_aload_n C (gd DX6_numberRests_0 14 rfl) 0 rfl rfl ?_
    refine g_aload_n C (gd DX6_numberRests_0 15 rfl) 0 rfl rfl ?_
    refine g_getr (ci := 6) (k := 10) C rfl (by decide) rfl lf_TestJudge_Table_44 ht.1 ht.2.2.2.2.2.2.2.1.1 (gd DX6_numberRests_0 16 rfl) ?_
    refine g_iconst (v := 0) C (gd DX6_numberRests_0 17 rfl) (by decide) ?_
    refine g_iaj (j := 0) C ht.2.2.2.2.2.2.2.1.2.1 ht.2.2.2.2.2.2.2.1.2.2 (by first | decide | omega) rfl (by decide) (gd DX6_numberRests_0 18 rfl) ?_
    rw [tR_at (by omega), so 7 (by omega) (by omega), p1]
    refine g_iconst (v := 0) C (gd DX6_numberRests_0 19 rfl) (by decide) ?_
    refine g_callV (ci := 6) C [_, _] mX6_numberOf lm_TestJudge_Table_123 (by exact ht.1) rfl rfl (e_t_numberOf (f := 0) ht nb0 (c := rpK (ρ 7) 0) (by omega)) hfl (by decide) (by decide) (by omega) (by omega) rfl rfl (Nat.le_of_ble_eq_true rfl) (gd DX6_numberRests_0 20 rfl) (fun r h2 hp => ?_)
    obtain ⟨j, p, τ, rfl, rfl, n1, n2, n3, n4, n5⟩ := hp
    show GW z w 4 _ 0 0 _ _ [.int (nI j)] _
    refine g_pop C (gd DX6_numberRests_0 21 rfl) rfl ?_
    refine g_iconst (v := 0) C (gd DX6_numberRests_0 22 rfl) (by decide) ?_
    refine g_istore_n (lv' := [(0, _), (1, _)]) C (gd DX6_numberRests_0 23 rfl) [1, 0] rfl (by decide) rfl ?_
    have ea : addR [] (rpK (ρ 7) 0) 0 = mapR (ρ 7) (rbfs (rgo 0 v) (Bis 0 v) (24 * 0)) := by
      unfold addR
      rw [if_neg (fun ⟨p, hp, _⟩ => by cases hp)]
      rfl
    rw [ea] at n1
    refine outer 125 0 τ rfl (by omega) u0 (fun q hq => ?_) n1 (fun j q hq hj => by omega) (fun a b0 b1 b2 b3 b9 b10 => by rw [n4 a b0 b2 b9 b10]; exact so a b0 b9) (fun j hj => by rw [n5 j hj, s0, upd, if_neg hj])
    have : q = (0, 0) := by
      have h1 : q ∈ [((0 : Nat), (0 : Nat))] := hq
      simpa using h1
    rw [this]
    exact ⟨g2, u0⟩
  · have u0 : U 0 = 0 := (k.u g1 g2).mp c20
    refine g_vret C (by omega) (by omega) ⟨rfl, [], σ, rfl, ⟨fun _ => rfl, fun x => absurd (by rw [← hv]; exact u0) x⟩, by simp, nb0.1, fun i q hq => by simp at hq, fun a b0 _ _ _ b9 _ => so a b0 b9, fun j hj => by rw [s0, upd, if_neg hj]⟩ (gd DX6_numberRests_0 13 rfl)
end C21
