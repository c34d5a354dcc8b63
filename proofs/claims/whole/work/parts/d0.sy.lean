/-! Equality of a pair does not mind its order -/
def kSw (P : kP) : kP := (P.1, P.2.1, P.2.2.2.1, P.2.2.1, P.2.2.2.2.1, P.2.2.2.2.2.2.1, P.2.2.2.2.2.1, P.2.2.2.2.2.2.2)
def swR (k k' : Int64) : Prop := (k = BEG ∧ k' = BEG) ∨ ∃ a b f, a < 64 ∧ b < 64 ∧ f < 4 ∧ k = kKey a b f ∧ k' = kKey b a f
theorem swR.p {k k' : Int64} (r : swR k k') : kMi k' = kIt k ∧ kIt k' = kMi k ∧ kBa k' = kBa k ∧ kbg k' = kbg k := by
  rcases r with ⟨rfl, rfl⟩ | ⟨a, b, f, ha, hb, hf, rfl, rfl⟩
  · obtain ⟨b1, b2, b3, b4⟩ := kBeg
    exact ⟨b1.trans b2.symm, b2.trans b1.symm, rfl, rfl⟩
  · obtain ⟨p1, p2, p3, p4⟩ := kParts ha hb hf
    obtain ⟨q1, q2, q3, q4⟩ := kParts hb ha hf
    exact ⟨q1.trans p2.symm, q2.trans p1.symm, q3.trans p3.symm, q4.trans p4.symm⟩
theorem swR.sy {k k' : Int64} (r : swR k k') : swR k' k := by
  rcases r with ⟨e, e'⟩ | ⟨a, b, f, ha, hb, hf, e, e'⟩
  · exact Or.inl ⟨e', e⟩
  · exact Or.inr ⟨b, a, f, hb, ha, hf, e', e⟩
theorem swR.fn {k k' l : Int64} (r : swR k k') (r' : swR k l) : k' = l := by
  rcases r with ⟨rfl, rfl⟩ | ⟨a, b, f, ha, hb, hf, rfl, rfl⟩ <;> rcases r' with ⟨e, rfl⟩ | ⟨a', b', f', ha', hb', hf', e, rfl⟩
  · rfl
  · exact absurd e.symm (kKey_ne ha' hb' hf')
  · exact absurd e (kKey_ne ha hb hf)
  · have c := congrArg kCode e
    rw [kCode_key ha hb hf, kCode_key ha' hb' hf'] at c
    rw [show a = a' by omega, show b = b' by omega, show f = f' by omega]
theorem swR.inj {k k' l l' : Int64} (r : swR k k') (r' : swR l l') : k = l ↔ k' = l' := ⟨fun e => swR.fn r (e ▸ r'), fun e => swR.fn r.sy (e ▸ r'.sy)⟩
theorem kGd_sw {P : kP} {k k' : Int64} (r : swR k k') : kGd (kSw P) k' = kGd P k := by
  unfold kGd
  rw [r.p.2.2.1]
  rfl
theorem kE_sw {P : kP} {k k' : Int64} (r : swR k k') : kE1 (kSw P) k' = kE2 P k ∧ kE2 (kSw P) k' = kE1 P k := by
  unfold kE1 kE2
  rw [kGd_sw r, r.p.1, r.p.2.1, r.p.2.2.2]
  exact ⟨rfl, rfl⟩
theorem kG_sw {P : kP} {k k' : Int64} (r : swR k k') (j : Nat) : kA (kSw P) k' j = kB P k j ∧ kB (kSw P) k' j = kA P k j ∧ kF (kSw P) k' j = kF P k j := by
  unfold kA kB kF
  rw [r.p.1, r.p.2.1, r.p.2.2.2, r.p.2.2.1]
  exact ⟨rfl, rfl, rfl⟩
theorem kSm.sw {P : kP} (h : kSm P) : kSm (kSw P) := ⟨h.2.1, h.1, h.2.2⟩
theorem kSc_sw {P : kP} (hs : kSm P) {k k' : Int64} (r : swR k k') (j : Nat) : (kSc P k j = none ∧ kSc (kSw P) k' j = none) ∨ ∃ l l', kSc P k j = some l ∧ kSc (kSw P) k' j = some l' ∧ swR l l' := by
  obtain ⟨g1, g2, g3⟩ := kG_sw (P := P) r j
  have g4 := kGd_sw (P := P) r
  have key : kSc P k j = none ↔ kSc (kSw P) k' j = none := by
    have e1 : (kSw P).1 = P.1 := rfl
    have e2 : (kSw P).2.1 = P.2.1 := rfl
    unfold kSc
    rw [g1, g2, g3, g4, e1, e2, Int64.or_comm (kB P k j).toInt64]
    by_cases c1 : atF P.1 ≤ nI (j / 3)
    · rw [if_pos c1, if_pos c1]
    · rw [if_neg c1, if_neg c1]
      by_cases c2 : P.2.1 ≤ nI (j % 3)
      · rw [if_pos c2, if_pos c2]
      · rw [if_neg c2, if_neg c2]
        by_cases c3 : ¬ (kGd P k >>> (nI (j / 3) &&& 31) &&& 1 = 1)
        · rw [if_pos c3, if_pos c3]
        · rw [if_neg c3, if_neg c3]
          by_cases c4 : (kA P k j).toInt64 ||| (kB P k j).toInt64 = 0
          · rw [if_pos c4, if_pos c4]
          · rw [if_neg c4, if_neg c4]
            exact ⟨fun q => (by cases q), fun q => (by cases q)⟩
  rcases e : kSc P k j with _ | l
  · exact Or.inl ⟨rfl, key.mp e⟩
  · rcases e' : kSc (kSw P) k' j with _ | l'
    · rw [key.mpr e'] at e
      cases e
    · obtain ⟨a, b, f, ha, hb, hf, ea, eb, ef, rfl⟩ := kSc_W hs e
      obtain ⟨a', b', f', ha', hb', hf', ea', eb', ef', rfl⟩ := kSc_W hs.sw e'
      obtain ⟨l1, l2, l3⟩ := kK_n hs ha hb hf
      obtain ⟨m1, m2, m3⟩ := kK_n hs.sw ha' hb' hf'
      have x1 : a' = b := (nI_eq (by omega) (by omega)).mp (ea'.symm.trans (g1.trans eb))
      have x2 : b' = a := (nI_eq (by omega) (by omega)).mp (eb'.symm.trans (g2.trans ea))
      have x3 : f' = f := (nI_eq (by omega) (by omega)).mp (ef'.symm.trans (g3.trans ef))
      subst x1 x2 x3
      exact Or.inr ⟨_, _, rfl, rfl, Or.inr ⟨b', a', f', l1, l2, l3, rfl, rfl⟩⟩
def lSw (L L' : List (Int64 × Nat)) : Prop := L.length = L'.length ∧ ∀ (i : Nat) (q q' : Int64 × Nat), L[i]? = some q → L'[i]? = some q' → swR q.1 q'.1
theorem bstep_sw {P : kP} (hs : kSm P) {L L' : List (Int64 × Nat)} {e : Nat} (ih : lSw L L') : lSw (bstep (kSc P) L e) (bstep (kSc (kSw P)) L' e) := by
  obtain ⟨i1, i2⟩ := ih
  rcases h1 : L[e / 24]? with _ | q0
  · have h1' : L'[e / 24]? = none := List.getElem?_eq_none (by have := List.getElem?_eq_none_iff.mp h1; omega)
    have x : bstep (kSc P) L e = L := by simp only [bstep, h1]
    have x' : bstep (kSc (kSw P)) L' e = L' := by simp only [bstep, h1']
    rw [x, x']
    exact ⟨i1, i2⟩
  · have hl := (List.getElem?_eq_some_iff.mp h1).1
    obtain ⟨q0', h1'⟩ : ∃ q, L'[e / 24]? = some q := ⟨_, List.getElem?_eq_getElem (by omega)⟩
    have r0 := i2 _ _ _ h1 h1'
    rcases kSc_sw hs r0 (e % 24) with ⟨n1, n2⟩ | ⟨l, l', s1, s2, sr⟩
    · rw [bstep_none h1 n1, bstep_none h1' n2]
      exact ⟨i1, i2⟩
    · have mem : l ∈ L.map (·.1) ↔ l' ∈ L'.map (·.1) := by
        constructor
        · intro hm
          obtain ⟨q, hq, e1⟩ := List.mem_map.mp hm
          obtain ⟨i, hi⟩ := List.mem_iff_getElem?.mp hq
          have := (List.getElem?_eq_some_iff.mp hi).1
          obtain ⟨q', hi'⟩ : ∃ q, L'[i]? = some q := ⟨_, List.getElem?_eq_getElem (by omega)⟩
          have rr := i2 i q q' hi hi'
          exact List.mem_map.mpr ⟨q', List.mem_of_getElem? hi', (swR.inj rr sr).mp e1⟩
        · intro hm
          obtain ⟨q', hq, e1⟩ := List.mem_map.mp hm
          obtain ⟨i, hi'⟩ := List.mem_iff_getElem?.mp hq
          have := (List.getElem?_eq_some_iff.mp hi').1
          obtain ⟨q, hi⟩ : ∃ q, L[i]? = some q := ⟨_, List.getElem?_eq_getElem (by omega)⟩
          have rr := i2 i q q' hi hi'
          exact List.mem_map.mpr ⟨q, List.mem_of_getElem? hi, (swR.inj rr sr).mpr e1⟩
      by_cases hm : l ∈ L.map (·.1)
      · rw [bstep_old h1 s1 hm, bstep_old h1' s2 (mem.mp hm)]
        exact ⟨i1, i2⟩
      · rw [bstep_new h1 s1 hm, bstep_new h1' s2 (fun x => hm (mem.mpr x))]
        refine ⟨by rw [List.length_append, List.length_append, i1]; rfl, fun i q q' g g' => ?_⟩
        by_cases c : i < L.length
        · rw [List.getElem?_append_left c] at g
          rw [List.getElem?_append_left (by omega)] at g'
          exact i2 i q q' g g'
        · rw [List.getElem?_append_right (by omega)] at g
          rw [List.getElem?_append_right (by omega)] at g'
          rw [i1] at g
          rcases hk : i - L'.length with _ | k
          · rw [hk] at g g'
            cases Option.some.inj g
            cases Option.some.inj g'
            exact sr
          · rw [hk] at g
            exact absurd g (by show ([] : List (Int64 × Nat))[k]? ≠ some q; rw [List.getElem?_nil]; exact fun x => by cases x)
theorem bfs_sw0 : lSw [(BEG, 0)] [(BEG, 0)] := by
  refine ⟨rfl, fun i q q' h h' => ?_⟩
  rw [h] at h'
  cases h'
  have hm := List.mem_of_getElem? h
  have e := List.mem_singleton.mp hm
  rw [e]
  exact Or.inl ⟨rfl, rfl⟩
theorem bfs_sw {P : kP} (hs : kSm P) : ∀ e, lSw (bfs (kSc P) e) (bfs (kSc (kSw P)) e)
  | 0 => bfs_sw0
  | e + 1 => bstep_sw hs (bfs_sw hs e)
theorem kEq_sw {P : kP} (hs : kSm P) (k : kEq P) : kEq (kSw P) := by
  obtain ⟨N, h1, h2⟩ := k
  obtain ⟨b1, b2⟩ := bfs_sw hs (24 * N)
  refine ⟨N, by omega, fun s q' hq' => ?_⟩
  have := (List.getElem?_eq_some_iff.mp hq').1
  obtain ⟨q, hq⟩ : ∃ q, (bfs (kSc P) (24 * N))[s]? = some q := ⟨_, List.getElem?_eq_getElem (by omega)⟩
  have r := b2 s q q' hq hq'
  rw [(kE_sw r).1, (kE_sw r).2]
  exact (h2 s q hq).symm
theorem kSw_P {t a s : Int32} {F : Nat → Nat → Int32} {nf : Nat} {R R' : Nat → Int32} : kSw (pP t a s F nf R R') = pP t a s F nf R' R := rfl
theorem kSw_x {V : aV} {s : Nat} {R R' : Nat → Int32} : kSw (xP V s R R') = xP V s R' R := by
  unfold xP
  exact kSw_P
theorem xP_eq {V : aV} (hV : vOK V) {s : Nat} (hs : s < 4) {R R' : Nat → Int32} (h1 : wt R ≤ 6) (h2 : wt R' ≤ 6) : kEq (xP V s R R') ↔ kEq (xP V s R' R) := by
  constructor
  · intro k
    have k2 := kEq_sw (xP_sm hs hV h1 h2) k
    rw [kSw_x] at k2
    exact k2
  · intro k
    have k2 := kEq_sw (xP_sm hs hV h2 h1) k
    rw [kSw_x] at k2
    exact k2
theorem vP2_eq {V : aV} (hV : vOK V) {s : Nat} (hs : s < 4) {r q : Nat} (hr : r < vNp V) (hq : q < vNp V) : kEq (vP2 V s r q) ↔ kEq (vP2 V s q r) := by
  have h1 : wt (vPR V r) ≤ 5 := ((hV.2.1 (vA V) (Nat.le_refl _)).2.2 r hr).1
  have h2 : wt (vPR V q) ≤ 5 := ((hV.2.1 (vA V) (Nat.le_refl _)).2.2 q hq).1
  have := xP_eq hV hs (R := vPR V r) (R' := vPR V q) (by omega) (by omega)
  exact this
theorem kEq_ag {P P' : kP} (g : kAg P P') : kEq P ↔ kEq P' := by
  unfold kEq
  rw [g.sc, g.e1, g.e2]
