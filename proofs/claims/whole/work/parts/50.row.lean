/-! what a pair lays is one thing alone: rows, rests -/
theorem bfs_grow2 (sc : Int64 → Nat → Option Int64) (e : Nat) : bfs sc (e + 1) = bfs sc e ∨ ∃ k, bfs sc (e + 1) = bfs sc e ++ [(k, e)] ∧ ¬ k ∈ (bfs sc e).map (·.1) := by
  show bstep sc (bfs sc e) e = _ ∨ _
  cases h1 : (bfs sc e)[e / 24]? with
  | none => left; simp only [bstep, h1]
  | some q =>
    cases h2 : sc q.1 (e % 24) with
    | none => exact Or.inl (bstep_none h1 h2)
    | some k =>
      rcases Classical.em (k ∈ (bfs sc e).map (·.1)) with h3 | h3
      · exact Or.inl (bstep_old h1 h2 h3)
      · exact Or.inr ⟨k, bstep_new h1 h2 h3, h3⟩
theorem bfs_nd (sc : Int64 → Nat → Option Int64) : ∀ (e i j : Nat) (q q' : Int64 × Nat), (bfs sc e)[i]? = some q → (bfs sc e)[j]? = some q' → q.1 = q'.1 → i = j := by
  intro e
  induction e with
  | zero =>
    intro i j q q' h1 h2 _
    have a1 := (List.getElem?_eq_some_iff.mp h1).1
    have a2 := (List.getElem?_eq_some_iff.mp h2).1
    have : (bfs sc 0).length = 1 := rfl
    omega
  | succ e ih =>
    intro i j q q' h1 h2 hk
    rcases bfs_grow2 sc e with g | ⟨k, g, hn⟩
    · rw [g] at h1 h2; exact ih i j q q' h1 h2 hk
    · rw [g] at h1 h2
      have old : ∀ (x : Nat) (p : Int64 × Nat), (bfs sc e ++ [(k, e)])[x]? = some p → (x < (bfs sc e).length ∧ (bfs sc e)[x]? = some p) ∨ (x = (bfs sc e).length ∧ p = (k, e)) := by
        intro x p h
        by_cases hx : x < (bfs sc e).length
        · rw [List.getElem?_append_left hx] at h; exact Or.inl ⟨hx, h⟩
        · rw [List.getElem?_append_right (by omega)] at h
          have := (List.getElem?_eq_some_iff.mp h).1
          simp at this
          have ex : x = (bfs sc e).length := by omega
          subst ex
          simp at h
          exact Or.inr ⟨rfl, h.symm⟩
      rcases old i q h1 with ⟨a1, a2⟩ | ⟨a1, a2⟩ <;> rcases old j q' h2 with ⟨b1, b2⟩ | ⟨b1, b2⟩
      · exact ih i j q q' a2 b2 hk
      · refine absurd (List.mem_map.mpr ⟨q, List.mem_of_getElem? a2, ?_⟩) hn
        rw [b2] at hk; exact hk
      · refine absurd (List.mem_map.mpr ⟨q', List.mem_of_getElem? b2, ?_⟩) hn
        rw [a2] at hk; exact hk.symm
      · omega
/-- rows that hold a pair's states, wherever they lie -/
def LDr (P : kP) (m : Nat) (h : HS) (N : Nat) : Prop := N ≤ 16400 ∧ 0 < N ∧ (bfs (kSc P) (24 * N)).length = N ∧ (∀ e, e < 24 * N → GOat (kSc P) m h (bfs (kSc P) (24 * N)) e) ∧ (∀ (s : Nat) (q : Int64 × Nat), (bfs (kSc P) (24 * N))[s]? = some q → hI h (m + 8) s = kE1 P q.1 ∧ hI h (m + 9) s = kE2 P q.1) ∧ LU m h N
theorem LDU.r {P : kP} {m N : Nat} {h : HS} (l : LDU P m h N) : LDr P m h N := by
  obtain ⟨⟨l1, l2, l3, l4, l5, l6⟩, l7⟩ := l
  exact ⟨l1, l2, l4, l5, l6, l7⟩
theorem LDr.go {P : kP} {m N : Nat} {h : HS} (l : LDr P m h N) : ∀ e, e < 24 * N → hI h (m + 7) e = -1 ∨ ∃ j, j < N ∧ hI h (m + 7) e = nI j := by
  intro e he
  obtain ⟨l1, l2, l3, l4, l5, l6⟩ := l
  obtain ⟨q, -, q2⟩ := l4 e he
  rcases q2 with ⟨-, q2⟩ | ⟨k, j, v, -, q2, q3⟩
  · exact Or.inl q2
  · have := (List.getElem?_eq_some_iff.mp q2).1
    exact Or.inr ⟨j, by omega, q3⟩
theorem rch_cg {go go' en en' : Nat → Int32} {N : Nat} (h1 : ∀ e, e < 24 * N → go e = go' e) (h2 : ∀ s, s < N → en s = en' s) (h3 : ∀ e, e < 24 * N → ∀ j, j < 16400 → go e = nI j → j < N) : ∀ d s, s < N → rch go en d s → rch go' en' d s := by
  intro d
  induction d with
  | zero => intro s hs x; show ¬ en' s = 0; rw [← h2 s hs]; exact x
  | succ d ih =>
    intro s hs x
    rcases x with x | ⟨k, j, k1, k2, k3, k4⟩
    · exact Or.inl (ih s hs x)
    · exact Or.inr ⟨k, j, k1, by rw [← h1 _ (by omega)]; exact k2, k3, ih j (h3 _ (by omega) j k3 k2) k4⟩
/-- the same rows below N -/
def RA (m : Nat) (h : HS) (m' : Nat) (h' : HS) (N : Nat) : Prop := (∀ e, e < 24 * N → hI h (m + 7) e = hI h' (m' + 7) e) ∧ (∀ s, s < N → hI h (m + 8) s = hI h' (m' + 8) s ∧ hI h (m + 9) s = hI h' (m' + 9) s ∧ hI h (m + 13) s = hI h' (m' + 13) s) ∧ N ≤ 16400 ∧ ∀ e, e < 24 * N → hI h (m + 7) e = -1 ∨ ∃ j, j < N ∧ hI h (m + 7) e = nI j
theorem go_lt {go : Nat → Int32} {N : Nat} (hN : N ≤ 16400) (hg : ∀ e, e < 24 * N → go e = -1 ∨ ∃ j, j < N ∧ go e = nI j) : ∀ e, e < 24 * N → ∀ j, j < 16400 → go e = nI j → j < N := by
  intro e he j hj q
  rcases hg e he with x | ⟨i, hi, x⟩
  · exact absurd (q.symm.trans x) (nI_m1 (by omega))
  · have := (nI_eq (by omega) (by omega)).mp (q.symm.trans x)
    omega
theorem LDr.ra {P : kP} {m m' N N' : Nat} {h h' : HS} (l : LDr P m h N) (l' : LDr P m' h' N') : N = N' ∧ RA m h m' h' N := by
  have hg := l.go
  have hg' := l'.go
  obtain ⟨l1, l2, l3, l4, l5, l6⟩ := l
  obtain ⟨k1, k2, k3, k4, k5, k6⟩ := l'
  have e := bfs_one l3 k3
  subst e
  have r7 : ∀ e, e < 24 * N → hI h (m + 7) e = hI h' (m' + 7) e := by
    intro e he
    obtain ⟨q, q1, q2⟩ := l4 e he
    obtain ⟨p, p1, p2⟩ := k4 e he
    have : q = p := Option.some.inj (q1.symm.trans p1)
    subst this
    rcases q2 with ⟨q2, q3⟩ | ⟨k, j, v, q2, q3, q4⟩ <;> rcases p2 with ⟨p2, p3⟩ | ⟨k', j', v', p2, p3, p4⟩
    · rw [q3, p3]
    · rw [q2] at p2; cases p2
    · rw [q2] at p2; cases p2
    · have ek : k = k' := Option.some.inj (q2.symm.trans p2)
      rw [q4, p4, bfs_nd _ _ j j' _ _ q3 p3 ek]
  have r8 : ∀ s, s < N → hI h (m + 8) s = hI h' (m' + 8) s ∧ hI h (m + 9) s = hI h' (m' + 9) s := by
    intro s hs
    obtain ⟨q, hq⟩ : ∃ q, (bfs (kSc P) (24 * N))[s]? = some q := ⟨_, List.getElem?_eq_getElem (by omega)⟩
    rw [(l5 s q hq).1, (l5 s q hq).2, (k5 s q hq).1, (k5 s q hq).2]
    exact ⟨rfl, rfl⟩
  refine ⟨rfl, r7, fun s hs => ⟨(r8 s hs).1, (r8 s hs).2, ?_⟩, l1, hg⟩
  have en : ∀ s, s < N → hI h (m + 8) s ||| hI h (m + 9) s = hI h' (m' + 8) s ||| hI h' (m' + 9) s := fun s hs => by rw [(r8 s hs).1, (r8 s hs).2]
  rcases l6 s hs with ⟨a, d, b⟩ | ⟨a, b⟩ <;> rcases k6 s hs with ⟨a', b'⟩ | ⟨a', b'⟩
  · rw [a, a']
  · exact absurd ⟨d, rch_cg r7 en (go_lt l1 hg) d s hs b⟩ b'
  · obtain ⟨d, b'⟩ := b'
    exact absurd ⟨d, rch_cg (fun e he => (r7 e he).symm) (fun s hs => (en s hs).symm) (go_lt l1 hg') d s hs b'⟩ b
  · rw [a, a']
theorem RA.sy {m m' N : Nat} {h h' : HS} (r : RA m h m' h' N) : RA m' h' m h N := by
  obtain ⟨r1, r2, r3, r4⟩ := r
  exact ⟨fun e he => (r1 e he).symm, fun s hs => ⟨(r2 s hs).1.symm, (r2 s hs).2.1.symm, (r2 s hs).2.2.symm⟩, r3, fun e he => by rw [← r1 e he]; exact r4 e he⟩
theorem RA.u {m m' N : Nat} {h h' : HS} (r : RA m h m' h' N) {e : Nat} (he : e < 24 * N) : uNx m h e = uNx m' h' e := by
  obtain ⟨r1, r2, r3, r4⟩ := r
  unfold uNx
  rw [← r1 e he]
  rcases r4 e he with q | ⟨j, hj, q⟩
  · rw [if_pos q, if_pos q]
  · rw [q, nI_clamp (by omega), (r2 j hj).2.2]
theorem RA.ult {m m' N : Nat} {h h' : HS} (r : RA m h m' h' N) {e a : Nat} (he : e < 24 * N) (ha : a < 16400) (q : uNx m h e = nI a) : a < N := by
  obtain ⟨r1, r2, r3, r4⟩ := r
  unfold uNx at q
  rcases r4 e he with x | ⟨j, hj, x⟩
  · rw [if_pos x] at q
    exact absurd q.symm (nI_m1 (by omega))
  · rw [x, if_neg (nI_m1 (by omega)), nI_clamp (by omega)] at q
    by_cases y : hI h (m + 13) j = 0
    · rw [if_pos y] at q
      exact absurd q.symm (nI_m1 (by omega))
    · rw [if_neg y] at q
      have := (nI_eq (by omega) (by omega)).mp q
      omega
theorem RA.qv {m m' N : Nat} {h h' : HS} (r : RA m h m' h' N) : ∀ d s t, s < N → t < N → eqv m h d s t → eqv m' h' d s t := by
  intro d
  induction d with
  | zero => intro s t hs ht e; show hI h' (m' + 8) s = hI h' (m' + 8) t; rw [← (r.2.1 s hs).1, ← (r.2.1 t ht).1]; exact e
  | succ d ih =>
    intro s t hs ht e
    refine ⟨ih s t hs ht e.1, fun k hk => ?_⟩
    rw [← r.u (by omega), ← r.u (by omega)]
    rcases e.2 k hk with q | ⟨a, b, q1, q2, q3, q4, q5⟩
    · exact Or.inl q
    · exact Or.inr ⟨a, b, q1, q2, q3, q4, ih a b (r.ult (by omega) q3 q1) (r.ult (by omega) q4 q2) q5⟩
theorem RA.bis {m m' N : Nat} {h h' : HS} (r : RA m h m' h' N) {s t : Nat} (hs : s < N) (ht : t < N) : Bis m h s t ↔ Bis m' h' s t := ⟨fun e d => r.qv d s t hs ht (e d), fun e d => r.sy.qv d s t hs ht (e d)⟩
theorem RA.rg {m m' N : Nat} {h h' : HS} (r : RA m h m' h' N) {s k : Nat} (hs : s < N) (hk : k < 24) : rgo m h s k = rgo m' h' s k := by
  unfold rgo
  rw [r.u (by omega)]
theorem RA.rlt {m m' N : Nat} {h h' : HS} (r : RA m h m' h' N) {s k t : Nat} (hs : s < N) (hk : k < 24) (q : rgo m h s k = some t) : t < N := by
  obtain ⟨r1, r2, r3, r4⟩ := r
  unfold rgo uNx at q
  rcases r4 (24 * s + k) (by omega) with x | ⟨j, hj, x⟩
  · rw [x] at q; simp at q
  · rw [x, if_neg (nI_m1 (by omega)), nI_clamp (by omega)] at q
    by_cases y : hI h (m + 13) j = 0
    · rw [if_pos y] at q; simp at q
    · rw [if_neg y, if_neg (nI_m1 (by omega))] at q
      have := Option.some.inj q
      rw [nI_clamp (by omega)] at this
      omega
theorem RA.rb {m m' N : Nat} {h h' : HS} (r : RA m h m' h' N) (hN : 0 < N) : ∀ e, rbfs (rgo m h) (Bis m h) e = rbfs (rgo m' h') (Bis m' h') e ∧ ∀ q, q ∈ rbfs (rgo m h) (Bis m h) e → q.1 < N := by
  intro e
  induction e with
  | zero =>
    refine ⟨rfl, fun q hq => ?_⟩
    have : q = (0, 0) := by simpa [rbfs] using hq
    rw [this]; exact hN
  | succ e ih =>
    obtain ⟨i1, i2⟩ := ih
    show rstep _ _ (rbfs (rgo m h) (Bis m h) e) e = rstep _ _ (rbfs (rgo m' h') (Bis m' h') e) e ∧ ∀ q, q ∈ rstep _ _ (rbfs (rgo m h) (Bis m h) e) e → q.1 < N
    rw [← i1]
    generalize rbfs (rgo m h) (Bis m h) e = R at i2 ⊢
    cases hq : R[e / 24]? with
    | none => simp only [rstep, hq]; exact ⟨trivial, i2⟩
    | some q =>
      have hq1 := i2 q (List.mem_of_getElem? hq)
      have eg := r.rg hq1 (Nat.mod_lt e (by decide) : e % 24 < 24)
      cases hg : rgo m h q.1 (e % 24) with
      | none =>
        rw [rstep_none hq hg, rstep_none hq (eg ▸ hg)]
        exact ⟨rfl, i2⟩
      | some t =>
        have ht := r.rlt hq1 (Nat.mod_lt e (by decide)) hg
        by_cases hx : ∃ p, p ∈ R ∧ Bis m h p.1 t
        · have hx' : ∃ p, p ∈ R ∧ Bis m' h' p.1 t := by
            obtain ⟨p, p1, p2⟩ := hx
            exact ⟨p, p1, (r.bis (i2 p p1) ht).mp p2⟩
          rw [rstep_old hq hg hx, rstep_old hq (eg ▸ hg) hx']
          exact ⟨rfl, i2⟩
        · have hx' : ¬ ∃ p, p ∈ R ∧ Bis m' h' p.1 t := by
            rintro ⟨p, p1, p2⟩
            exact hx ⟨p, p1, (r.bis (i2 p p1) ht).mpr p2⟩
          rw [rstep_new hq hg hx, rstep_new hq (eg ▸ hg) hx']
          refine ⟨rfl, fun p hp => ?_⟩
          rcases List.mem_append.mp hp with z | z
          · exact i2 p z
          · have : p = (t, q.2 + 1) := by simpa using z
            rw [this]; exact ht
/-- the rests of a pair's first record -/
def Rsp (m : Nat) (h : HS) (R : List (Nat × Nat)) : Prop := (hI h (m + 13) 0 = 0 → R = []) ∧ (¬ hI h (m + 13) 0 = 0 → R = rbfs (rgo m h) (Bis m h) (24 * R.length))
theorem rbfs_fix {go : Nat → Nat → Option Nat} {B : Nat → Nat → Prop} {N : Nat} (h : (rbfs go B (24 * N)).length = N) : ∀ d, rbfs go B (24 * N + d) = rbfs go B (24 * N) := by
  intro d
  induction d with
  | zero => rfl
  | succ d ih =>
    show rstep go B (rbfs go B (24 * N + d)) (24 * N + d) = _
    rw [ih]
    have e : (rbfs go B (24 * N))[(24 * N + d) / 24]? = none := List.getElem?_eq_none (by omega)
    simp only [rstep, e]
theorem rbfs_one {go : Nat → Nat → Option Nat} {B : Nat → Nat → Prop} {N N' : Nat} (h : (rbfs go B (24 * N)).length = N) (h' : (rbfs go B (24 * N')).length = N') : N = N' := by
  rcases Nat.le_total N N' with q | q
  · have e := rbfs_fix h (24 * N' - 24 * N)
    rw [show 24 * N + (24 * N' - 24 * N) = 24 * N' by omega] at e
    rw [e, h] at h'
    exact h'
  · have e := rbfs_fix h' (24 * N - 24 * N')
    rw [show 24 * N' + (24 * N - 24 * N') = 24 * N by omega] at e
    rw [e, h'] at h
    exact h.symm
theorem Rsp.one {P : kP} {m m' N N' : Nat} {h h' : HS} {R R' : List (Nat × Nat)} (l : LDr P m h N) (l' : LDr P m' h' N') (r : Rsp m h R) (r' : Rsp m' h' R') : R = R' := by
  have hN := l.2.1
  obtain ⟨e, ra⟩ := l.ra l'
  subst e
  have u0 := (ra.2.1 0 hN).2.2
  by_cases hu : hI h (m + 13) 0 = 0
  · rw [r.1 hu, r'.1 (by rw [← u0]; exact hu)]
  · have a := r.2 hu
    have b := r'.2 (by rw [← u0]; exact hu)
    rw [← (ra.rb hN _).1] at b
    have c := rbfs_one (go := rgo m h) (B := Bis m h) (N := R.length) (N' := R'.length) (by rw [← a]) (by rw [← b])
    rw [a, b, c]
