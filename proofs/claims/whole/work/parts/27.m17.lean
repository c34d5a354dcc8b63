/-! when classes are the rests: the refinement comes to its end -/
/-- alike as far as d letters -/
def eqv (m : Nat) (h : HS) : Nat → Nat → Nat → Prop
  | 0, s, t => hI h (m + 8) s = hI h (m + 8) t
  | d + 1, s, t => eqv m h d s t ∧ ∀ k, k < 24 → (uNx m h (24 * s + k) = -1 ∧ uNx m h (24 * t + k) = -1) ∨ ∃ a b, uNx m h (24 * s + k) = nI a ∧ uNx m h (24 * t + k) = nI b ∧ a < 16400 ∧ b < 16400 ∧ eqv m h d a b
theorem eqv.rf {m : Nat} {h : HS} {N : Nat} (g : GOk m h N) : ∀ d s, s < N → eqv m h d s s := by
  intro d
  induction d with
  | zero => intro s _; rfl
  | succ d ih =>
    intro s hs
    refine ⟨ih s hs, fun k hk => ?_⟩
    rcases uNx_cases g hs hk with q | ⟨j, hj, q, -, -⟩
    · exact Or.inl ⟨q, q⟩
    · exact Or.inr ⟨j, j, q, q, by have := g.1; omega, by have := g.1; omega, ih j hj⟩
theorem eqv.sy {m : Nat} {h : HS} : ∀ d s t, eqv m h d s t → eqv m h d t s := by
  intro d
  induction d with
  | zero => intro s t e; exact e.symm
  | succ d ih =>
    intro s t e
    refine ⟨ih s t e.1, fun k hk => ?_⟩
    rcases e.2 k hk with q | ⟨a, b, q1, q2, q3, q4, q5⟩
    · exact Or.inl ⟨q.2, q.1⟩
    · exact Or.inr ⟨b, a, q2, q1, q4, q3, ih a b q5⟩
theorem eqv.tr {m : Nat} {h : HS} : ∀ d s t u, eqv m h d s t → eqv m h d t u → eqv m h d s u := by
  intro d
  induction d with
  | zero => intro s t u e e'; exact e.trans e'
  | succ d ih =>
    intro s t u e e'
    refine ⟨ih s t u e.1 e'.1, fun k hk => ?_⟩
    rcases e.2 k hk with q | ⟨a, b, q1, q2, q3, q4, q5⟩ <;> rcases e'.2 k hk with p | ⟨a', b', p1, p2, p3, p4, p5⟩
    · exact Or.inl ⟨q.1, p.2⟩
    · exact absurd (q.2.symm.trans p1).symm (nI_m1 (by omega))
    · exact absurd (p.1.symm.trans q2).symm (nI_m1 (by omega))
    · have e1 : b = a' := (nI_eq (by omega) (by omega)).mp (q2.symm.trans p1)
      subst e1
      exact Or.inr ⟨a, b', q1, p2, q3, p4, ih a b b' q5 p5⟩
/-- the classes C are those of d letters -/
def StC (m : Nat) (h : HS) (N d : Nat) (C : Nat → Int32) : Prop := (∀ s t, s < N → t < N → ¬ hI h (m + 13) s = 0 → ¬ hI h (m + 13) t = 0 → (C s = C t ↔ eqv m h d s t)) ∧ ∀ s, s < N → ¬ hI h (m + 13) s = 0 → ¬ C s = -1
theorem StC_alk {m : Nat} {h h1 : HS} {N d : Nat} (g : GOk m h N) (e7 : hI h1 (m + 7) = hI h (m + 7)) (e13 : hI h1 (m + 13) = hI h (m + 13)) (hC : StC m h N d (hI h1 (m + 20))) {s t : Nat} (hs : s < N) (ht : t < N) (us : ¬ hI h (m + 13) s = 0) (ut : ¬ hI h (m + 13) t = 0) : alk m h1 s t ↔ eqv m h (d + 1) s t := by
  have hg1 := g.1
  unfold alk
  rw [hC.1 s t hs ht us ut]
  show _ ↔ eqv m h d s t ∧ _
  refine and_congr_right (fun _ => forall_congr' (fun k => forall_congr' (fun hk => ?_)))
  unfold cAt
  rw [uNx_congr e7 e13, uNx_congr e7 e13]
  rcases uNx_cases g hs hk with q | ⟨a, ha, q, -, ua⟩ <;> rcases uNx_cases g ht hk with p | ⟨b, hb, p, -, ub⟩
  · rw [q, p, if_pos rfl]
    exact ⟨fun _ => Or.inl ⟨rfl, rfl⟩, fun _ => rfl⟩
  · rw [q, p, if_pos rfl, if_neg (nI_m1 (by omega)), nI_clamp (by omega)]
    refine ⟨fun e => absurd e.symm (hC.2 b hb ub), fun e => ?_⟩
    rcases e with e | ⟨a', b', e1, -, h1', -⟩
    · exact absurd e.2 (nI_m1 (by omega))
    · exact absurd e1.symm (nI_m1 (by omega))
  · rw [q, p, if_pos rfl, if_neg (nI_m1 (by omega)), nI_clamp (by omega)]
    refine ⟨fun e => absurd e (hC.2 a ha ua), fun e => ?_⟩
    rcases e with e | ⟨a', b', -, e1, -, h1', -⟩
    · exact absurd e.1 (nI_m1 (by omega))
    · exact absurd e1.symm (nI_m1 (by omega))
  · rw [q, p, if_neg (nI_m1 (by omega)), if_neg (nI_m1 (by omega)), nI_clamp (by omega), nI_clamp (by omega), hC.1 a b ha hb ua ub]
    refine ⟨fun e => Or.inr ⟨a, b, rfl, rfl, by omega, by omega, e⟩, fun e => ?_⟩
    rcases e with e | ⟨a', b', e1, e2, h1', h2', e3⟩
    · exact absurd e.1 (nI_m1 (by omega))
    · have x1 : a = a' := (nI_eq (by omega) (by omega)).mp e1
      have x2 : b = b' := (nI_eq (by omega) (by omega)).mp e2
      subst x1; subst x2
      exact e3
/-- one state of each class of d letters -/
def Rps (m : Nat) (h : HS) (N d : Nat) (rp : List Nat) (C : Nat → Int32) : Prop := (∀ s, s < N → ¬ hI h (m + 13) s = 0 → ∃ (i r : Nat), rp[i]? = some r ∧ C s = nI i ∧ eqv m h d s r) ∧ (∀ (i r : Nat), rp[i]? = some r → r < N ∧ ¬ hI h (m + 13) r = 0) ∧ (∀ (i j r r' : Nat), rp[i]? = some r → rp[j]? = some r' → eqv m h d r r' → i = j)
theorem Rps.of {m : Nat} {h h1 : HS} {N d : Nat} (g : GOk m h N) (e7 : hI h1 (m + 7) = hI h (m + 7)) (e13 : hI h1 (m + 13) = hI h (m + 13)) (hC : StC m h N d (hI h1 (m + 20))) {rp : List Nat} {CN : Nat → Int32} (hp : paR m h1 N rp CN) : Rps m h N (d + 1) rp CN := by
  obtain ⟨p1, p2, p3, -⟩ := hp
  rw [e13] at p1 p2
  refine ⟨fun s hs us => ?_, p2, fun i j r r' hi hj he => ?_⟩
  · obtain ⟨i, r, q1, q2, q3⟩ := p1 s hs us
    have hr := p2 i r q1
    exact ⟨i, r, q1, q2, (StC_alk g e7 e13 hC hs hr.1 us hr.2).mp q3⟩
  · have hr := p2 i r hi
    have hr' := p2 j r' hj
    exact p3 i j r r' hi hj ((StC_alk g e7 e13 hC hr.1 hr'.1 hr.2 hr'.2).mpr he)
theorem Rps.st {m : Nat} {h : HS} {N d : Nat} {rp : List Nat} {C : Nat → Int32} (g : GOk m h N) (hl : rp.length ≤ N) (r : Rps m h N d rp C) : StC m h N d C := by
  have hg1 := g.1
  obtain ⟨r1, r2, r3⟩ := r
  refine ⟨fun s t hs ht us ut => ?_, fun s hs us => ?_⟩
  · obtain ⟨i, a, q1, q2, q3⟩ := r1 s hs us
    obtain ⟨j, b, p1, p2, p3⟩ := r1 t ht ut
    have hi := (List.getElem?_eq_some_iff.mp q1).1
    have hj := (List.getElem?_eq_some_iff.mp p1).1
    rw [q2, p2, nI_eq (by omega) (by omega)]
    refine ⟨fun e => ?_, fun e => ?_⟩
    · subst e
      rw [q1] at p1
      cases p1
      exact eqv.tr d s a t q3 (eqv.sy d t a p3)
    · exact r3 i j a b q1 p1 (eqv.tr d a s b (eqv.sy d s a q3) (eqv.tr d s t b e p3))
  · obtain ⟨i, a, q1, q2, q3⟩ := r1 s hs us
    have hi := (List.getElem?_eq_some_iff.mp q1).1
    rw [q2]
    exact nI_m1 (by omega)
/-- from class to finer class, injectively -/
theorem Rps.inj {m : Nat} {h : HS} {N d : Nat} {rp rp' : List Nat} {C C' : Nat → Int32} (a : Rps m h N d rp C) (b : Rps m h N (d + 1) rp' C') : ∃ f : Nat → Nat, (∀ i, i < rp.length → f i < rp'.length) ∧ (∀ i j, i < rp.length → j < rp.length → f i = f j → i = j) ∧ ∀ i r r', rp[i]? = some r → rp'[f i]? = some r' → eqv m h (d + 1) r r' := by
  have hex : ∀ (i : Nat), ∃ (j : Nat), i < rp.length → ∃ (r r' : Nat), rp[i]? = some r ∧ rp'[j]? = some r' ∧ eqv m h (d + 1) r r' := by
    intro i
    by_cases hi : i < rp.length
    · have h1 := List.getElem?_eq_getElem hi
      have h2 := a.2.1 i _ h1
      obtain ⟨j, r', q1, -, q3⟩ := b.1 _ h2.1 h2.2
      exact ⟨j, fun _ => ⟨_, r', h1, q1, q3⟩⟩
    · exact ⟨0, fun q => absurd q hi⟩
  refine ⟨fun i => Classical.choose (hex i), fun i hi => ?_, fun i j hi hj e => ?_, fun i r r' h1 h2 => ?_⟩
  · obtain ⟨r, r', q1, q2, q3⟩ := Classical.choose_spec (hex i) hi
    exact (List.getElem?_eq_some_iff.mp q2).1
  · obtain ⟨r, r', q1, q2, q3⟩ := Classical.choose_spec (hex i) hi
    obtain ⟨p, p', p1, p2, p3⟩ := Classical.choose_spec (hex j) hj
    change Classical.choose (hex i) = Classical.choose (hex j) at e
    rw [e, p2] at q2
    cases q2
    exact a.2.2 i j r p q1 p1 (eqv.tr (d + 1) r r' p q3 (eqv.sy (d + 1) p r' p3)).1
  · obtain ⟨p, p', p1, p2, p3⟩ := Classical.choose_spec (hex i) (List.getElem?_eq_some_iff.mp h1).1
    change rp'[Classical.choose (hex i)]? = some r' at h2
    rw [h1] at p1; cases p1
    rw [h2] at p2; cases p2
    exact p3
theorem Rps.le {m : Nat} {h : HS} {N d : Nat} {rp rp' : List Nat} {C C' : Nat → Int32} (a : Rps m h N d rp C) (b : Rps m h N (d + 1) rp' C') : rp.length ≤ rp'.length := by
  obtain ⟨f, f1, f2, -⟩ := a.inj b
  exact pigeon f _ _ f1 f2
/-- as many: nothing was told apart -/
theorem Rps.stable {m : Nat} {h : HS} {N d : Nat} {rp rp' : List Nat} {C C' : Nat → Int32} (a : Rps m h N d rp C) (b : Rps m h N (d + 1) rp' C') (e : rp'.length = rp.length) {s t : Nat} (hs : s < N) (ht : t < N) (us : ¬ hI h (m + 13) s = 0) (ut : ¬ hI h (m + 13) t = 0) (hst : eqv m h d s t) : eqv m h (d + 1) s t := by
  obtain ⟨f, f1, f2, f3⟩ := a.inj b
  -- every finer class is met
  have surj : ∀ v, v < rp'.length → ∃ i, i < rp.length ∧ f i = v := by
    intro v hv
    rcases Classical.em (∃ i, i < rp.length ∧ f i = v) with q | q
    · exact q
    · exfalso
      have := pigeon (fun i => if f i < v then f i else f i - 1) rp.length (rp.length - 1) (fun i hi => by
          have a1 := f1 i hi
          have a2 : f i ≠ v := fun z => q ⟨i, hi, z⟩
          split <;> omega) (fun i j hi hj z => by
          have a1 : f i ≠ v := fun z => q ⟨i, hi, z⟩
          have a2 : f j ≠ v := fun z => q ⟨j, hj, z⟩
          refine f2 i j hi hj ?_
          split at z <;> split at z <;> omega)
      omega
  obtain ⟨v, x, q1, -, q3⟩ := b.1 s hs us
  obtain ⟨u, y, p1, -, p3⟩ := b.1 t ht ut
  obtain ⟨i, hi, ei⟩ := surj v (List.getElem?_eq_some_iff.mp q1).1
  obtain ⟨j, hj, ej⟩ := surj u (List.getElem?_eq_some_iff.mp p1).1
  have g1 := List.getElem?_eq_getElem hi
  have g2 := List.getElem?_eq_getElem hj
  have e1 := f3 i _ x g1 (by rw [ei]; exact q1)
  have e2 := f3 j _ y g2 (by rw [ej]; exact p1)
  have hsi : eqv m h (d + 1) s rp[i] := eqv.tr (d + 1) s x _ q3 (eqv.sy (d + 1) _ x e1)
  have htj : eqv m h (d + 1) t rp[j] := eqv.tr (d + 1) t y _ p3 (eqv.sy (d + 1) _ y e2)
  have hij : i = j := a.2.2 i j _ _ g1 g2 (eqv.tr d _ s _ (eqv.sy d s _ hsi.1) (eqv.tr d s t _ hst htj.1))
  subst hij
  exact eqv.tr (d + 1) s _ t hsi (eqv.sy (d + 1) t _ htj)
theorem eqv_all {m : Nat} {h : HS} {N d : Nat} (g : GOk m h N) (hst : ∀ s t, s < N → t < N → ¬ hI h (m + 13) s = 0 → ¬ hI h (m + 13) t = 0 → eqv m h d s t → eqv m h (d + 1) s t) : ∀ x s t, s < N → t < N → ¬ hI h (m + 13) s = 0 → ¬ hI h (m + 13) t = 0 → eqv m h d s t → eqv m h (d + x) s t := by
  have hg1 := g.1
  intro x
  induction x with
  | zero => intro s t _ _ _ _ e; exact e
  | succ x ih =>
    intro s t hs ht us ut e
    refine ⟨ih s t hs ht us ut e, fun k hk => ?_⟩
    rcases (hst s t hs ht us ut e).2 k hk with q | ⟨a, b, q1, q2, q3, q4, q5⟩
    · exact Or.inl q
    · refine Or.inr ⟨a, b, q1, q2, q3, q4, ?_⟩
      rcases uNx_cases g hs hk with z | ⟨a', ha, z, -, ua⟩
      · exact absurd (z.symm.trans q1).symm (nI_m1 (by omega))
      rcases uNx_cases g ht hk with z' | ⟨b', hb, z', -, ub⟩
      · exact absurd (z'.symm.trans q2).symm (nI_m1 (by omega))
      have x1 : a' = a := (nI_eq (by omega) (by omega)).mp (z.symm.trans q1)
      have x2 : b' = b := (nI_eq (by omega) (by omega)).mp (z'.symm.trans q2)
      subst x1; subst x2
      exact ih a' b' ha hb ua ub q5
theorem eqv_down {m : Nat} {h : HS} : ∀ x d s t, eqv m h (d + x) s t → eqv m h d s t := by
  intro x
  induction x with
  | zero => intro d s t e; exact e
  | succ x ih => intro d s t e; exact ih d s t e.1
/-- two states leave the same to be done -/
def Bis (m : Nat) (h : HS) (s t : Nat) : Prop := ∀ d, eqv m h d s t
theorem Bis.of {m : Nat} {h : HS} {N d : Nat} (g : GOk m h N) (hst : ∀ s t, s < N → t < N → ¬ hI h (m + 13) s = 0 → ¬ hI h (m + 13) t = 0 → eqv m h d s t → eqv m h (d + 1) s t) {s t : Nat} (hs : s < N) (ht : t < N) (us : ¬ hI h (m + 13) s = 0) (ut : ¬ hI h (m + 13) t = 0) : eqv m h d s t ↔ Bis m h s t := by
  refine ⟨fun e x => ?_, fun e => e d⟩
  have := eqv_all g hst x s t hs ht us ut e
  rw [Nat.add_comm] at this
  exact eqv_down d x s t this
