/-! Two answers agree; the reference's table against the class's: rests rest far next; least -/
/-- of two of what can be told the value and the states behind are one -/
def agr (Q Q' : Value → aV → aM → Prop) : Prop := ∀ v v2 V V2 M M2, Q v V M → Q' v2 V2 M2 → v = v2 ∧ V = V2 ∧ M = M2
def ag2 (Q Q' : Int32 → Int32 → Prop) : Prop := ∀ v st v2 st2, Q v st → Q' v2 st2 → v = v2 ∧ st = st2
theorem ag2.q {V : aV} {M : aM} {Q Q' : Int32 → Int32 → Prop} (f : ag2 Q Q') : agr (qQ V M Q) (qQ V M Q') := by
  intro v v2 V1 V2 M1 M2 h1 h2
  obtain ⟨i, st, rfl, q, rfl, rfl⟩ := h1
  obtain ⟨i2, st2, rfl, q2, rfl, rfl⟩ := h2
  obtain ⟨rfl, rfl⟩ := f _ _ _ _ q q2
  exact ⟨rfl, rfl, rfl⟩
theorem ag2.gat {c : Prop} {k : Int32} {Q Q' : Int32 → Int32 → Prop} (f : c → ag2 Q Q') : ag2 (gat c k Q) (gat c k Q') := by
  intro v st v2 st2 h1 h2
  rcases h1 with ⟨n1, rfl, rfl⟩ | ⟨c1, q1⟩ <;> rcases h2 with ⟨n2, rfl, rfl⟩ | ⟨c2, q2⟩
  · exact ⟨rfl, rfl⟩
  · exact absurd c2 n1
  · exact absurd c1 n2
  · exact f c1 _ _ _ _ q1 q2
theorem ag2.one {n : Nat} (hn : n < 100000) {p : Int32} {Q Q' : Nat → Int32 → Int32 → Prop} (f : ∀ r, r < n → ag2 (Q r) (Q' r)) : ag2 (one n p Q) (one n p Q') := by
  intro v st v2 st2 h1 h2
  rcases h1 with ⟨n1, rfl, rfl⟩ | ⟨r, r1, r2, q1⟩ <;> rcases h2 with ⟨n2, rfl, rfl⟩ | ⟨r', s1, s2, q2⟩
  · exact ⟨rfl, rfl⟩
  · exact absurd (s2 ▸ inP_of hn s1) n1
  · exact absurd (r2 ▸ inP_of hn r1) n2
  · have e : r = r' := (nI_eq (by omega) (by omega)).mp (r2.symm.trans s2)
    subst e
    exact f r r1 _ _ _ _ q1 q2
/-- rests of a pair as the reference tells them -/
def tbM (P : kP) (R : List (Nat × Nat)) (E : Nat → Int32) (T : Nat → Nat → Int32) : Prop := ∃ m h N, LDr P m h N ∧ Rsp m h R ∧ tbl m h R T ∧ ∀ (i : Nat) (q : Nat × Nat), R[i]? = some q → E i = hI h (m + 8) q.1 ∧ q.1 < N ∧ q.2 ≤ i
def tTie (ρ : Nat → Nat → Int32) (R : List (Nat × Nat)) (E : Nat → Int32) (T : Nat → Nat → Int32) : Prop := tbN R.length ρ ∧ ∀ (i : Nat) (q : Nat × Nat), R[i]? = some q → ρ 1 i = E i ∧ ρ 2 i = nI q.2 ∧ q.2 ≤ i ∧ ∀ l, l < 24 → ρ 3 (24 * i + l) = T i l
theorem tb_tie {P : kP} {ρ : Nat → Nat → Int32} {R : List (Nat × Nat)} {E : Nat → Int32} {T : Nat → Nat → Int32} (o : tbO P ρ) (t : tbM P R E T) : tTie ρ R E T := by
  obtain ⟨n, tn⟩ := o.n
  obtain ⟨v0, N0, R0, o1, o2, o3, o4, o5, -⟩ := o
  obtain ⟨m, h, N, t1, t2, t3, t4⟩ := t
  have e := Rsp.one t1 o1 t2 o2
  subst e
  obtain ⟨eN, ra⟩ := t1.ra o1
  subst eN
  have en : n = R.length := (nI_eq (by have := tn.1; omega) (by omega)).mp (tn.2.1.symm.trans o4)
  subst en
  refine ⟨tn, fun i q hq => ?_⟩
  obtain ⟨p1, p2, p3, p4⟩ := o5 i q hq
  obtain ⟨q1, q2, q3⟩ := t4 i q hq
  refine ⟨?_, p3, q3, fun l hl => ?_⟩
  · rw [p2, q1]
    exact (ra.2.1 _ q2).1.symm
  · have rg := ra.rg q2 hl
    rcases p4 l hl with ⟨a1, a2⟩ | ⟨a, j, p, a1, a2, a3, a4⟩ <;> rcases t3 i q l hq hl with ⟨b1, b2⟩ | ⟨b, j', p', b1, b2, b3, b4⟩
    · rw [a2, b2]
    · rw [rg, a1] at b1; cases b1
    · rw [rg, a1] at b1; cases b1
    · have eab : b = a := Option.some.inj (b1.symm.trans (rg.trans a1))
      subst eab
      have lb := ra.rlt q2 hl b1
      have b3' := (ra.bis (t4 j' p' b2).2.1 lb).mp b3
      have hR : R = rbfs (rgo 0 v0) (Bis 0 v0) (24 * R.length) := by
        refine o2.2 (fun z => ?_)
        rw [o2.1 z] at hq
        cases hq
      have ej : j = j' := by
        have a2' := a2
        have b2' := b2
        rw [hR] at a2' b2'
        rcases Nat.lt_trichotomy j j' with c | c | c
        · exact absurd (fun d => eqv.tr d _ _ _ (a3 d) (eqv.sy d _ _ (b3' d))) (rbfs_dis _ j j' p p' c a2' b2')
        · exact c
        · exact absurd (fun d => eqv.tr d _ _ _ (b3' d) (eqv.sy d _ _ (a3 d))) (rbfs_dis _ j' j p' p c b2' a2')
      rw [a4, b4, ej]
/-- what the reference's table answers -/
def tmQ (V : aV) (G : List (Nat × Nat) → (Nat → Int32) → (Nat → Nat → Int32) → Int32 → Int32 → Prop) (r : Nat) (v st : Int32) : Prop := ∃ R E T, tbM (vP1 V (vS V) (vPR V r)) R E T ∧ G R E T v st
theorem ag2.tb {V : aV} {F : (Nat → Nat → Int32) → Int32 → Int32 → Prop} {G : List (Nat × Nat) → (Nat → Int32) → (Nat → Nat → Int32) → Int32 → Int32 → Prop} {r : Nat} (f : ∀ ρ R E T, tbO (vP1 V (vS V) (vPR V r)) ρ → tbM (vP1 V (vS V) (vPR V r)) R E T → tTie ρ R E T → ag2 (F ρ) (G R E T)) : ag2 (tbQ V F r) (tmQ V G r) := by
  intro v st v2 st2 h1 h2
  obtain ⟨ρ, o, q⟩ := h1
  obtain ⟨R, E, T, t, q2⟩ := h2
  exact f ρ R E T o t (tb_tie o t) _ _ _ _ q q2
def gRes (R : List (Nat × Nat)) (_ : Nat → Int32) (_ : Nat → Nat → Int32) (v st : Int32) : Prop := v = nI R.length ∧ st = 0
def gRst (k : Int32) (R : List (Nat × Nat)) (E : Nat → Int32) (_ : Nat → Nat → Int32) (v st : Int32) : Prop := (∃ (i : Nat) (q : Nat × Nat), R[i]? = some q ∧ k = nI i ∧ v = E i ∧ st = 0) ∨ (¬ (0 ≤ k ∧ k ≤ nI R.length - 1) ∧ v = -1 ∧ st = 5)
def gFar (k : Int32) (R : List (Nat × Nat)) (_ : Nat → Int32) (_ : Nat → Nat → Int32) (v st : Int32) : Prop := (∃ (i : Nat) (q : Nat × Nat), R[i]? = some q ∧ k = nI i ∧ v = nI q.2 ∧ st = 0) ∨ (¬ (0 ≤ k ∧ k ≤ nI R.length - 1) ∧ v = -1 ∧ st = 5)
def gNxt (k : Int32) (l : Nat) (R : List (Nat × Nat)) (_ : Nat → Int32) (T : Nat → Nat → Int32) (v st : Int32) : Prop := ((∃ i, i < R.length ∧ k = nI i ∧ v = T i l) ∨ (¬ (0 ≤ k ∧ k ≤ nI R.length - 1) ∧ v = -1)) ∧ st = (if v = -1 then 5 else 0)
theorem ag_res {V : aV} {r : Nat} : ag2 (tbQ V fRes r) (tmQ V gRes r) := ag2.tb (fun ρ R E T o t tie v st v2 st2 a b => by
  obtain ⟨rfl, rfl⟩ := a
  obtain ⟨rfl, rfl⟩ := b
  exact ⟨tie.1.2.1, rfl⟩)
/-- the gate of a place in a row, in both words -/
theorem tTie.gt {ρ : Nat → Nat → Int32} {R : List (Nat × Nat)} {E : Nat → Int32} {T : Nat → Nat → Int32} (t : tTie ρ R E T) {i : Nat} (hi : i < R.length) : (¬ nI i < 0 ∧ ¬ ρ 0 0 ≤ nI i) ∧ (0 ≤ nI i ∧ nI i ≤ nI R.length - 1) := by
  have h := t.1.1
  refine ⟨⟨nI_nn (by omega), ?_⟩, inP_of (by omega) hi⟩
  rw [t.1.2.1]
  intro q
  have := (nI_leI (by omega) (by omega)).mp q
  omega
theorem tTie.n {ρ : Nat → Nat → Int32} {R : List (Nat × Nat)} {E : Nat → Int32} {T : Nat → Nat → Int32} (t : tTie ρ R E T) {n : Nat} (tn : tbN n ρ) : n = R.length := (nI_eq (by have := tn.1; omega) (by have := t.1.1; omega)).mp (tn.2.1.symm.trans t.1.2.1)
theorem ag_rst {V : aV} {r : Nat} {k : Int32} : ag2 (tbQ V (fAt 1 k) r) (tmQ V (gRst k) r) := ag2.tb (fun ρ R E T o t tie v st v2 st2 a b => by
  have h := tie.1.1
  rcases a with ⟨n, i, tn, hi, rfl, rfl, rfl⟩ | ⟨a1, rfl, rfl⟩ <;> rcases b with ⟨i', q, hq, e, rfl, rfl⟩ | ⟨b1, rfl, rfl⟩
  · have en := tie.n tn
    have l' := (List.getElem?_eq_some_iff.mp hq).1
    have ei : i = i' := (nI_eq (by omega) (by omega)).mp e
    subst ei
    exact ⟨(tie.2 _ _ hq).1, rfl⟩
  · have en := tie.n tn
    exact absurd (tie.gt (by omega : i < R.length)).2 b1
  · have l' := (List.getElem?_eq_some_iff.mp hq).1
    rw [e] at a1
    exact absurd (tie.gt l').1 a1
  · exact ⟨rfl, rfl⟩)
theorem ag_far {V : aV} {r : Nat} {k : Int32} : ag2 (tbQ V (fAt 2 k) r) (tmQ V (gFar k) r) := ag2.tb (fun ρ R E T o t tie v st v2 st2 a b => by
  have h := tie.1.1
  rcases a with ⟨n, i, tn, hi, rfl, rfl, rfl⟩ | ⟨a1, rfl, rfl⟩ <;> rcases b with ⟨i', q, hq, e, rfl, rfl⟩ | ⟨b1, rfl, rfl⟩
  · have en := tie.n tn
    have l' := (List.getElem?_eq_some_iff.mp hq).1
    have ei : i = i' := (nI_eq (by omega) (by omega)).mp e
    subst ei
    exact ⟨(tie.2 _ _ hq).2.1, rfl⟩
  · have en := tie.n tn
    exact absurd (tie.gt (by omega : i < R.length)).2 b1
  · have l' := (List.getElem?_eq_some_iff.mp hq).1
    rw [e] at a1
    exact absurd (tie.gt l').1 a1
  · exact ⟨rfl, rfl⟩)
theorem ag_nxt {V : aV} {r l : Nat} (hl : l < 24) {k : Int32} : ag2 (tbQ V (fNxt k l) r) (tmQ V (gNxt k l) r) := ag2.tb (fun ρ R E T o t tie v st v2 st2 a b => by
  have h := tie.1.1
  obtain ⟨a, rfl⟩ := a
  obtain ⟨b, rfl⟩ := b
  have e : v = v2 := by
    rcases a with ⟨n, i, tn, hi, rfl, rfl⟩ | ⟨a1, rfl⟩ <;> rcases b with ⟨i', hi', e, rfl⟩ | ⟨b1, rfl⟩
    · have en := tie.n tn
      have ei : i = i' := (nI_eq (by omega) (by omega)).mp e
      subst ei
      obtain ⟨q, hq⟩ : ∃ q, R[i]? = some q := ⟨_, List.getElem?_eq_getElem hi'⟩
      exact (tie.2 _ _ hq).2.2.2 l hl
    · have en := tie.n tn
      exact absurd (tie.gt (by omega : i < R.length)).2 b1
    · rw [e] at a1
      exact absurd (tie.gt hi').1 a1
    · rfl
  rw [e]
  exact ⟨rfl, rfl⟩)
def qNxM (V : aV) (p k a c : Int32) (v st : Int32) : Prop := (¬ (inP (vNp V) p ∧ letP V a c) ∧ v = -1 ∧ st = 2) ∨ ∃ r y z, r < vNp V ∧ p = nI r ∧ y < 8 ∧ z < 3 ∧ a = nI y ∧ c = nI z ∧ letP V a c ∧ tmQ V (gNxt k (3 * y + z)) r v st
theorem ag_next {V : aV} (hV : vOK V) {p k a c : Int32} : ag2 (qNxt V p k a c) (qNxM V p k a c) := by
  intro v st v2 st2 h1 h2
  have np := hV.np
  rcases h1 with ⟨n1, rfl, rfl⟩ | ⟨r, y, z, r1, r2, r3, r4, r5, r6, r7, q1⟩ <;> rcases h2 with ⟨n2, rfl, rfl⟩ | ⟨r', y', z', s1, s2, s3, s4, s5, s6, s7, q2⟩
  · exact ⟨rfl, rfl⟩
  · exact absurd ⟨s2 ▸ inP_of (by omega) s1, s7⟩ n1
  · exact absurd ⟨r2 ▸ inP_of (by omega) r1, r7⟩ n2
  · have e1 : r = r' := (nI_eq (by omega) (by omega)).mp (r2.symm.trans s2)
    have e2 : y = y' := (nI_eq (by omega) (by omega)).mp (r5.symm.trans s5)
    have e3 : z = z' := (nI_eq (by omega) (by omega)).mp (r6.symm.trans s6)
    subst e1 e2 e3
    exact ag_nxt (by omega) _ _ _ _ q1 q2
section B5
variable {w : gD} {m : Nat} {h h' : HS} {V : aV} {M : aM}
theorem b_m_least (v : MV m h V M) (p : Int32) : Ev w 7 0 0 yX10_least cX10_least 3 (some .int) [.ref m, .int p] h (bQ m (qQ V M (one (vNp V) p (fun r v st => spP (vP1 V (vS V) (vPR V r)) (-1) (v, st))))) := by
  obtain ⟨fw, ⟨v1, v2, v3⟩, -⟩ := id v
  refine Ev.to (e_m_least v1 p) (fun r' h' hp => ?_)
  rcases hp with ⟨n, hr, hq⟩ | ⟨r, hr, rfl, h1, N, l, hv⟩
  · exact bQ.q v hr hq (Or.inl ⟨n, rfl, rfl⟩)
  · rw [v.p1 hr] at l
    rcases hv with ⟨s, hs, ne, eq, hv, pq⟩ | ⟨eq, hv, pq⟩
    · obtain ⟨q, hq, -⟩ := l.key hs
      obtain ⟨ll1, ll2, ll3⟩ := l.len
      obtain ⟨n, wy⟩ := mLS.way l.1.2.2.1 (by omega) (s + 1) s (by omega) (by omega)
      rw [ll1] at wy
      obtain ⟨f, wl, -, -⟩ := l.way hs wy
      rw [wy.2.1] at hv
      have fd := l.fd hs (by rw [l.z2 hs]; exact ne) (fun t ht => by rw [l.z2 (by omega)]; exact eq t ht) hq
      exact bQ.q v hv pq (Or.inr ⟨r, hr, rfl, Or.inr ⟨s, q.1, n, f, fd, wl, (if_pos rfl).symm⟩⟩)
    · refine bQ.q v hv pq (Or.inr ⟨r, hr, rfl, Or.inl ⟨(l.no 0).mpr (fun t ht k hk => ?_), rfl⟩⟩)
      obtain ⟨-, e1, e2⟩ := l.at hk
      exact apF0.mpr (by rw [← e1, ← e2, l.z2 ht]; exact eq t ht)
theorem rsT.tb {nf r N : Nat} {h1 : HS} {R : List (Nat × Nat)} {T : Nat → Nat → Int32} {P : kP} (e : P1 m h nf r = P) (t : rsT m h nf r h1 N R T) : tbM P R (fun i => hI h1 (m + 8) ((R[i]?).getD (0, 0)).1) T := by
  obtain ⟨l, s, hl, tb, b⟩ := t
  rw [e] at l
  exact ⟨m, h1, N, l.r, s, tb, fun i q hq => ⟨by show hI h1 (m + 8) ((R[i]?).getD (0, 0)).1 = _; rw [hq]; rfl, b i q hq⟩⟩
theorem rsT.E {nf r N : Nat} {h1 : HS} {R : List (Nat × Nat)} {i : Nat} {q : Nat × Nat} (hq : R[i]? = some q) : hI h1 (m + 8) q.1 = (fun i => hI h1 (m + 8) ((R[i]?).getD (0, 0)).1) i := by
  show _ = hI h1 (m + 8) ((R[i]?).getD (0, 0)).1
  rw [hq]
  rfl
theorem b_m_rests (v : MV m h V M) (p : Int32) : Ev w 8 0 0 yX10_rests cX10_rests 2 (some .int) [.ref m, .int p] h (bQ m (qQ V M (one (vNp V) p (tmQ V gRes)))) := by
  obtain ⟨fw, ⟨v1, v2, v3⟩, -⟩ := id v
  refine Ev.to (e_m_rests v1 p) (fun r' h' hp => ?_)
  rcases hp with ⟨n, hr, rfl⟩ | ⟨r, hr, rfl, h1, N, R, C1, RO, h2, hp, hv, rfl⟩
  · exact bQ.q v hr ((mKp.rf m h).q 2) (Or.inl ⟨n, rfl, rfl⟩)
  · obtain ⟨wr, lr, hwr⟩ := v1.2.2.2.2.2 r hr
    have np := v2.np
    obtain ⟨T, t, u⟩ := rs_use v1.2.2.2.2.1 (by omega) lr hwr hp
    exact bQ.q v hv (u.1.q 0) (Or.inr ⟨r, hr, rfl, R, _, T, t.tb (v.p1 hr), rfl, rfl⟩)
theorem b_m_rest (v : MV m h V M) (p k : Int32) : Ev w 8 0 0 yX10_rest cX10_rest 3 (some .int) [.ref m, .int p, .int k] h (bQ m (qQ V M (one (vNp V) p (tmQ V (gRst k))))) := by
  obtain ⟨fw, ⟨v1, v2, v3⟩, -⟩ := id v
  refine Ev.to (e_m_rest v1 p k) (fun r' h' hp => ?_)
  rcases hp with ⟨n, hr, hq⟩ | ⟨r, hr, rfl, h1, N, R, T, t, hp⟩
  · exact bQ.q v hr hq (Or.inl ⟨n, rfl, rfl⟩)
  · rcases hp with ⟨i, q, hq, rfl, hv, pq⟩ | ⟨n, hv, pq⟩
    · exact bQ.q v hv pq (Or.inr ⟨r, hr, rfl, R, _, T, t.tb (v.p1 hr), Or.inl ⟨i, q, hq, rfl, rsT.E (nf := 0) (r := 0) (N := 0) hq, rfl⟩⟩)
    · exact bQ.q v hv pq (Or.inr ⟨r, hr, rfl, R, _, T, t.tb (v.p1 hr), Or.inr ⟨n, rfl, rfl⟩⟩)
theorem b_m_far (v : MV m h V M) (p k : Int32) : Ev w 8 0 0 yX10_far cX10_far 3 (some .int) [.ref m, .int p, .int k] h (bQ m (qQ V M (one (vNp V) p (tmQ V (gFar k))))) := by
  obtain ⟨fw, ⟨v1, v2, v3⟩, -⟩ := id v
  refine Ev.to (e_m_far v1 p k) (fun r' h' hp => ?_)
  rcases hp with ⟨n, hr, hq⟩ | ⟨r, hr, rfl, h1, N, R, T, t, hp⟩
  · exact bQ.q v hr hq (Or.inl ⟨n, rfl, rfl⟩)
  · rcases hp with ⟨i, q, hq, rfl, hv, pq⟩ | ⟨n, hv, pq⟩
    · exact bQ.q v hv pq (Or.inr ⟨r, hr, rfl, R, _, T, t.tb (v.p1 hr), Or.inl ⟨i, q, hq, rfl, rfl, rfl⟩⟩)
    · exact bQ.q v hv pq (Or.inr ⟨r, hr, rfl, R, _, T, t.tb (v.p1 hr), Or.inr ⟨n, rfl, rfl⟩⟩)
theorem b_m_next (v : MV m h V M) (p k a c : Int32) : Ev w 8 0 0 yX10_next_ cX10_next_ 6 (some .int) [.ref m, .int p, .int k, .int a, .int c] h (bQ m (qQ V M (qNxM V p k a c))) := by
  obtain ⟨fw, ⟨v1, v2, v3⟩, -⟩ := id v
  refine Ev.to (e_m_next_ v1 p k a c) (fun r' h' hp => ?_)
  rcases hp with ⟨n, hr, hq⟩ | ⟨hl, r, x, y, hr, rfl, hx, hy, rfl, rfl, h1, N, R, T, i, t, hi, hv, pq⟩
  · exact bQ.q v hr hq (Or.inl ⟨n, rfl, rfl⟩)
  · exact bQ.q v hv pq (Or.inr ⟨r, x, y, hr, rfl, hx, hy, rfl, rfl, hl, R, _, T, t.tb (v.p1 hr), hi, rfl⟩)
end B5
