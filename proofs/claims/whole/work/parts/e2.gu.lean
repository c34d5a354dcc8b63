/-! greatest and uses: the class's rests and the reference's states agree -/
theorem bfs_par {sc : Int64 → Nat → Option Int64} : ∀ e (j : Nat) (q : Int64 × Nat), (bfs sc e)[j]? = some q → 0 < j → ∃ p : Int64 × Nat, (bfs sc e)[q.2 / 24]? = some p ∧ sc p.1 (q.2 % 24) = some q.1 ∧ q.2 / 24 < j := by
  intro e
  induction e with
  | zero =>
    intro j q hq hj
    have := (List.getElem?_eq_some_iff.mp hq).1
    have e1 : (bfs sc 0).length = 1 := rfl
    omega
  | succ e ih =>
    intro j q hq hj
    have hq' : (bstep sc (bfs sc e) e)[j]? = some q := hq
    show ∃ p : Int64 × Nat, (bstep sc (bfs sc e) e)[q.2 / 24]? = some p ∧ _
    rcases h1 : (bfs sc e)[e / 24]? with _ | p
    · have er : bstep sc (bfs sc e) e = bfs sc e := by simp only [bstep, h1]
      rw [er] at hq' ⊢
      exact ih j q hq' hj
    · rcases h2 : sc p.1 (e % 24) with _ | k
      · rw [bstep_none h1 h2] at hq' ⊢
        exact ih j q hq' hj
      · by_cases h3 : k ∈ (bfs sc e).map (·.1)
        · rw [bstep_old h1 h2 h3] at hq' ⊢
          exact ih j q hq' hj
        · rw [bstep_new h1 h2 h3] at hq' ⊢
          have hl := (List.getElem?_eq_some_iff.mp h1).1
          by_cases c : j < (bfs sc e).length
          · rw [List.getElem?_append_left c] at hq'
            obtain ⟨p', p1, p2, p3⟩ := ih j q hq' hj
            exact ⟨p', by rw [List.getElem?_append_left (by omega)]; exact p1, p2, p3⟩
          · have l2 := (List.getElem?_eq_some_iff.mp hq').1
            rw [List.length_append] at l2
            have l2' : j < (bfs sc e).length + 1 := l2
            rw [List.getElem?_append_right (by omega), show j - (bfs sc e).length = 0 by omega] at hq'
            cases Option.some.inj hq'
            exact ⟨p, by rw [List.getElem?_append_left hl]; exact h1, h2, by show e / 24 < j; omega⟩
section GU
variable {P : kP} {m N : Nat} {h : HS} {ρ : Nat → Nat → Int32}
/-- every state is reached -/
theorem LDr.rea (l : LDr P m h N) : ∀ s, s < N → ∃ L, rp N (hI h (m + 7)) L s := by
  intro s
  induction s using Nat.strongRecOn with
  | ind s ih =>
    intro hs
    obtain ⟨l1, l2, l3, l4, l5, l6⟩ := id l
    by_cases z : s = 0
    · exact ⟨0, z⟩
    · obtain ⟨q, hq⟩ : ∃ q, (bfs (kSc P) (24 * N))[s]? = some q := ⟨_, List.getElem?_eq_getElem (by omega)⟩
      obtain ⟨p, p1, p2, p3⟩ := bfs_par _ _ _ hq (by omega)
      obtain ⟨L, hL⟩ := ih (q.2 / 24) p3 (by omega)
      refine ⟨L + 1, q.2 / 24, q.2 % 24, by omega, Nat.mod_lt _ (by omega), ?_, hL⟩
      obtain ⟨p', k1, k2⟩ := l4 (24 * (q.2 / 24) + q.2 % 24) (by omega)
      rw [show (24 * (q.2 / 24) + q.2 % 24) / 24 = q.2 / 24 by omega] at k1
      rw [show (24 * (q.2 / 24) + q.2 % 24) % 24 = q.2 % 24 by omega] at k2
      cases Option.some.inj (p1.symm.trans k1)
      rcases k2 with ⟨k2, -⟩ | ⟨k, j, v, k2, k3, k4⟩
      · rw [p2] at k2; cases k2
      · have ek : q.1 = k := Option.some.inj (p2.symm.trans k2)
        rw [k4, bfs_nd _ _ j s _ _ k3 hq ek.symm]
theorem LDr.bis_rf (l : LDr P m h N) {s : Nat} (hs : s < N) : Bis m h s s := fun d => by
  have l1 := l.1
  revert s
  induction d with
  | zero => intro s _; rfl
  | succ d ih =>
    intro s hs
    refine ⟨ih hs, fun k hk => ?_⟩
    by_cases c : uNx m h (24 * s + k) = -1
    · exact Or.inl ⟨c, c⟩
    · rcases l.go (24 * s + k) (by omega) with x | ⟨i, hi, x⟩
      · exact absurd (by unfold uNx; rw [if_pos x]) c
      · have un : uNx m h (24 * s + k) = nI i := by
          unfold uNx at c ⊢
          rw [x, if_neg (nI_neg1 (by omega)), nI_clamp (by omega)] at c ⊢
          by_cases c2 : hI h (m + 13) i = 0
          · rw [if_pos c2] at c; exact absurd rfl c
          · rw [if_neg c2]
        exact Or.inr ⟨i, i, un, un, by omega, by omega, ih hi⟩
theorem bis_tr {s t u : Nat} (a : Bis m h s t) (b : Bis m h t u) : Bis m h s u := fun d => eqv.tr d _ _ _ (a d) (b d)
theorem bis_sy {s t : Nat} (a : Bis m h s t) : Bis m h t s := fun d => eqv.sy d _ _ (a d)
/-- like states go on alike -/
theorem LDr.bis_go (l : LDr P m h N) {s t k j : Nat} (b : Bis m h s t) (ht : t < N) (hk : k < 24) (hj : j < 16400) (un : uNx m h (24 * s + k) = nI j) : ∃ c, c < N ∧ uNx m h (24 * t + k) = nI c ∧ Bis m h j c := by
  have l1 := l.1
  obtain ⟨c, c1, c2⟩ : ∃ c, c < 16400 ∧ uNx m h (24 * t + k) = nI c := by
    rcases (b 1).2 k hk with ⟨z, -⟩ | ⟨a, c, z1, z2, z3, z4, -⟩
    · rw [un] at z; exact absurd z (nI_neg1 (by omega))
    · exact ⟨c, z4, z2⟩
  obtain ⟨g1, g2⟩ := uNx_go c1 c2
  refine ⟨c, l.jlt ht hk c1 g1, c2, fun x => ?_⟩
  rcases (b (x + 1)).2 k hk with ⟨z, -⟩ | ⟨a, c', z1, z2, z3, z4, z5⟩
  · rw [un] at z; exact absurd z (nI_neg1 (by omega))
  · have ea : a = j := (nI_eq (by omega) (by omega)).mp (z1.symm.trans un)
    have ec : c' = c := (nI_eq (by omega) (by omega)).mp (z2.symm.trans c2)
    rw [← ea, ← ec]
    exact z5
/-- useful is what a string to an end goes on from -/
theorem LDr.us_ex {V : aV} {s0 : Nat} {R0 : Nat → Int32} (l : LDr (vP1 V s0 R0) m h N) {s : Nat} (hs : s < N) (u : ¬ hI h (m + 13) s = 0) : ∃ b d, b < 32 ∧ sre (hI h (m + 7)) (hI h (m + 8)) b d s := by
  obtain ⟨l1, l2, l3, l4, l5, l6⟩ := id l
  have z2 : ∀ t, t < N → hI h (m + 9) t = 0 := fun t ht => by
    obtain ⟨q, hq⟩ : ∃ q, (bfs (kSc (vP1 V s0 R0)) (24 * N))[t]? = some q := ⟨_, List.getElem?_eq_getElem (by omega)⟩
    rw [(l5 t q hq).2]
    exact kE2_1
  have go : ∀ d t, t < N → rch (hI h (m + 7)) (fun s => hI h (m + 8) s ||| hI h (m + 9) s) d t → ∃ b d, b < 32 ∧ sre (hI h (m + 7)) (hI h (m + 8)) b d t := by
    intro d
    induction d with
    | zero =>
      intro t ht q
      have q' : ¬ hI h (m + 8) t ||| hI h (m + 9) t = 0 := q
      rw [z2 t ht, Int32.or_zero] at q'
      obtain ⟨b, hb, hb2⟩ := bit_ex (v := hI h (m + 8) t) q'
      exact ⟨b, 0, hb, hb2⟩
    | succ d ih =>
      intro t ht q
      rcases q with q | ⟨k, j, k1, k2, k3, k4⟩
      · exact ih t ht q
      · obtain ⟨b, d', b1, b2⟩ := ih j (l.jlt ht k1 k3 k2) k4
        exact ⟨b, d' + 1, b1, Or.inr ⟨k, j, k1, k2, k3, b2⟩⟩
  rcases l6 s hs with ⟨-, d, q⟩ | ⟨e, -⟩
  · exact go d s hs q
  · exact absurd e u
theorem LDr.us_bk {V : aV} {s0 : Nat} {R0 : Nat → Int32} (l : LDr (vP1 V s0 R0) m h N) {s k j : Nat} (hs : s < N) (hk : k < 24) (hj : j < N) (e : hI h (m + 7) (24 * s + k) = nI j) (u : ¬ hI h (m + 13) j = 0) : ¬ hI h (m + 13) s = 0 := by
  have l1 := l.1
  obtain ⟨b, d, b1, b2⟩ := l.us_ex hj u
  exact l.us b1 hs (d := d + 1) (Or.inr ⟨k, j, hk, e, by omega, b2⟩)
theorem LDr.us_0 {V : aV} {s0 : Nat} {R0 : Nat → Int32} (l : LDr (vP1 V s0 R0) m h N) : ∀ L s, s < N → rp N (hI h (m + 7)) L s → ¬ hI h (m + 13) s = 0 → ¬ hI h (m + 13) 0 = 0 := by
  intro L
  induction L with
  | zero => intro s _ e u; rw [show s = 0 from e] at u; exact u
  | succ L ih =>
    intro s hs q u
    obtain ⟨t, k, ht, hk, e, q⟩ := q
    exact ih t ht q (l.us_bk ht hk hs e u)
/-- the class's table over the reference's states -/
theorem tb_states {V : aV} {s0 : Nat} {R0 : Nat → Int32} (o : tbO (vP1 V s0 R0) ρ) (l : LDr (vP1 V s0 R0) m h N) : ∃ R : List (Nat × Nat), tbN R.length ρ ∧ tbl m h R (fun i k => ρ 3 (24 * i + k)) ∧ (∀ (i : Nat) (q : Nat × Nat), R[i]? = some q → q.1 < N ∧ ρ 1 i = hI h (m + 8) q.1) ∧ (R.length = 0 ↔ hI h (m + 13) 0 = 0) ∧ (∀ q : Nat × Nat, R[0]? = some q → q.1 = 0) ∧ reP (ρ 3) (ρ 1) R.length (ρ 4) := by
  have l1 := l.1
  have l0 := l.2.1
  obtain ⟨n, tn⟩ := o.n
  obtain ⟨v0, N0, R, o1, o2, o3, o4, o5, o6, o7, o8⟩ := o
  obtain ⟨eN, ra⟩ := l.ra o1
  subst eN
  have en : n = R.length := (nI_eq (by have := tn.1; omega) (by omega)).mp (tn.2.1.symm.trans o4)
  subst en
  have bd : ∀ (i : Nat) (q : Nat × Nat), R[i]? = some q → q.1 < N := fun i q hq => (o5 i q hq).1
  have u0 : hI h (m + 13) 0 = hI v0 (0 + 13) 0 := (ra.2.1 0 l0).2.2
  have st : ∀ e, (rbfs (rgo 0 v0) (Bis 0 v0) e)[0]? = some (0, 0) := by
    intro e
    induction e with
    | zero => rfl
    | succ e ih =>
      show (rstep (rgo 0 v0) (Bis 0 v0) (rbfs (rgo 0 v0) (Bis 0 v0) e) e)[0]? = some (0, 0)
      generalize rbfs (rgo 0 v0) (Bis 0 v0) e = L at ih ⊢
      rcases h1 : L[e / 24]? with _ | p
      · have er : rstep (rgo 0 v0) (Bis 0 v0) L e = L := by simp only [rstep, h1]
        rw [er]; exact ih
      · rcases h2 : rgo 0 v0 p.1 (e % 24) with _ | t
        · rw [rstep_none h1 h2]; exact ih
        · rcases Classical.em (∃ p, p ∈ L ∧ Bis 0 v0 p.1 t) with h3 | h3
          · rw [rstep_old h1 h2 h3]; exact ih
          · rw [rstep_new h1 h2 h3, List.getElem?_append_left (List.getElem?_eq_some_iff.mp ih).1]; exact ih
  refine ⟨R, tn, fun i q k hq hk => ?_, fun i q hq => ⟨bd i q hq, by rw [(o5 i q hq).2.1]; exact (ra.2.1 _ (bd i q hq)).1.symm⟩, ?_, fun q hq => ?_, o6⟩
  · have rg := ra.rg (bd i q hq) hk
    rcases (o5 i q hq).2.2.2 k hk with ⟨a1, a2⟩ | ⟨a, j, p, a1, a2, a3, a4⟩
    · exact Or.inl ⟨rg.trans a1, a2⟩
    · have al := ra.rlt (bd i q hq) hk (rg.trans a1)
      exact Or.inr ⟨a, j, p, rg.trans a1, a2, (ra.bis (bd j p a2) al).mpr a3, a4⟩
  · rw [u0]
    constructor
    · intro z
      apply Classical.byContradiction
      intro u
      have eR := o2.2 u
      have s0 := st (24 * R.length)
      rw [← eR, List.length_eq_zero_iff.mp z] at s0
      cases s0
    · intro z
      rw [o2.1 z]
      rfl
  · have u' : ¬ hI v0 (0 + 13) 0 = 0 := fun e => by rw [o2.1 e] at hq; cases hq
    have eR := o2.2 u'
    have s0 := st (24 * R.length)
    rw [← eR] at s0
    have := Option.some.inj (hq.symm.trans s0)
    rw [this]
end GU
