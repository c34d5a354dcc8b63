/-! The reference's clear, walk, step, walked and print in these words -/
section B7
variable {w : gD} {m : Nat} {h h' : HS} {V : aV} {M : aM}
theorem b_m_clear (v : MV m h V M) (p : Int32) : Ev w 8 0 0 yX10_clear cX10_clear 7 (some .int) [.ref m, .int p] h (bQ m (qQ V M (one (vNp V) p (tmQ V (gClr (vNt V) (vNa V)))))) := by
  obtain ⟨fw, ⟨v1, v2, v3⟩, -⟩ := id v
  refine Ev.to (e_m_clear v1 p) (fun r' h' hp => ?_)
  rcases hp with ⟨n, hr, hq⟩ | ⟨r, hr, rfl, h1, N, R, T, t, hv, pq⟩
  · exact bQ.q v hr hq (Or.inl ⟨n, rfl, rfl⟩)
  · have iff : (∀ (i : Nat) (q : Nat × Nat) (a : Nat), R[i]? = some q → a < 2 ^ vNt V → clN (hI h1 (m + 8) q.1) T (vNa V) i a ≤ 1) ↔ ∀ i a, i < R.length → a < 2 ^ vNt V → clN ((fun i => hI h1 (m + 8) ((R[i]?).getD (0, 0)).1) i) T (vNa V) i a ≤ 1 := by
      constructor
      · intro q i a hi ha
        obtain ⟨p, hp⟩ : ∃ p, R[i]? = some p := ⟨_, List.getElem?_eq_getElem hi⟩
        rw [← rsT.E (m := m) (nf := 0) (r := 0) (N := 0) (h1 := h1) hp]
        exact q i p a hp ha
      · intro q i p a hp ha
        rw [rsT.E (m := m) (nf := 0) (r := 0) (N := 0) (h1 := h1) hp]
        exact q i a (List.getElem?_eq_some_iff.mp hp).1 ha
    rw [iff] at hv
    rcases hv with ⟨a, hv⟩ | ⟨a, hv⟩
    · exact bQ.q v hv pq (Or.inr ⟨r, hr, rfl, R, _, T, t.tb (v.p1 hr), Or.inl ⟨rfl, a⟩, rfl⟩)
    · exact bQ.q v hv pq (Or.inr ⟨r, hr, rfl, R, _, T, t.tb (v.p1 hr), Or.inr ⟨rfl, a⟩, rfl⟩)
/-- the walk and what is printed alone change -/
theorem MV.own {M' : aM} (v : MV m h V M) (fr : Fr3 h h') (nx : ∀ b, b ≠ m → b ≠ m + 26 → hI h' b = hI h b) (nm : ∀ j, j ≠ 1 → j ≠ 14 → j ≠ 15 → j ≠ 16 → j ≠ 57 → hI h' m j = hI h m j) (e1 : M'.1 = M.1) (e2 : M'.2.1 = M.2.1) (wk : hI h' m 14 = M'.2.2.1.1 ∧ hI h' m 15 = M'.2.2.1.2.1 ∧ hI h' m 16 = M'.2.2.1.2.2) (pr : hI h' m 57 = nI M'.2.2.2.1 ∧ M'.2.2.2.1 ≤ 7620 ∧ ∀ j, j < M'.2.2.2.1 → hI h' (m + 26) j = M'.2.2.2.2 j) (vw : vWk V M') : MV m h' V M' := by
  obtain ⟨fw, ⟨v1, v2, v3⟩, v4, v5, ⟨v6, v7⟩, ⟨v8, v9, va⟩, ⟨vb, vc, vd⟩, -⟩ := v
  obtain ⟨m1, ⟨m2, m3⟩, ⟨m4, m5⟩, ⟨m6, m7⟩, ⟨m8, m9, ma, mb⟩, mc⟩ := v1
  have n := fun j (h : j ≠ 1 ∧ j ≠ 14 ∧ j ≠ 15 ∧ j ≠ 16 ∧ j ≠ 57) => nm j h.1 h.2.1 h.2.2.1 h.2.2.2.1 h.2.2.2.2
  have r1 : hI h' (m + 1) = hI h (m + 1) := nx _ (by omega) (by omega)
  refine ⟨fw, ⟨⟨m1.fr fr, ⟨m2, (n 2 (by omega)).trans m3⟩, ⟨m4, (n 3 (by omega)).trans m5⟩, ⟨m6, (n 4 (by omega)).trans m7⟩, ⟨m8, (n 5 (by omega)).trans m9, by rw [r1]; exact ma, mb⟩, by rw [r1]; exact mc⟩, v2, (n 6 (by omega)).trans v3⟩, fun k hk => ?_, fun f hf => ?_, ⟨(n 7 (by omega)).trans v6, fun i hi => ?_⟩, ⟨?_, ?_, ?_⟩, ⟨?_, ?_, ?_⟩, wk, pr, vw⟩
  · unfold mPr
    rw [r1]
    exact v4 k hk
  · unfold mFc mPr
    rw [r1]
    exact v5 f hf
  · unfold kpT
    rw [nx _ (by omega) (by omega)]
    exact v7 i hi
  · rw [e1]; exact (n 10 (by omega)).trans v8
  · rw [e1]; exact v9
  · rw [e1, nx _ (by omega) (by omega)]; exact va
  · rw [e2]; exact (n 11 (by omega)).trans vb
  · rw [e2]; exact (n 12 (by omega)).trans vc
  · rw [e2]; exact (n 13 (by omega)).trans vd
theorem MV.wl (v : MV m h V M) {a b c : Int32} (wk : vWk V (mWl M (a, b, c))) : MV m (sW m h a b c) V (mWl M (a, b, c)) := by
  have pr : hI h m 57 = nI M.2.2.2.1 ∧ M.2.2.2.1 ≤ 7620 ∧ ∀ j, j < M.2.2.2.1 → hI h (m + 26) j = M.2.2.2.2 j := by
    obtain ⟨fw, -, -, -, -, -, -, -, q, -⟩ := v
    exact q
  refine v.own (M' := mWl M (a, b, c)) ⟨rfl, rfl, rfl, rfl⟩ (fun b' h1 _ => funext fun j => sW_ne (fun q => h1 q.1)) (fun j h1 h2 h3 h4 h5 => sW_ne (by omega)) rfl rfl ⟨sW_14, sW_15, sW_16⟩ ⟨(sW_ne (by omega)).trans pr.1, pr.2.1, fun j hj => (sW_ne (by omega)).trans (pr.2.2 j hj)⟩ wk
theorem rsT.wk {nf r N : Nat} {h1 : HS} {R : List (Nat × Nat)} {T : Nat → Nat → Int32} {P : kP} (e : P1 m h nf r = P) (t : rsT m h nf r h1 N R T) : LDr P m h1 N ∧ Rsp m h1 R := by
  obtain ⟨l, s, -⟩ := t
  rw [e] at l
  exact ⟨l.r, s⟩
theorem b_m_walk (v : MV m h V M) (p : Int32) : Ev w 8 0 0 yX10_walk cX10_walk 2 (some .int) [.ref m, .int p] h (bQ m (qWlM V M p)) := by
  obtain ⟨fw, ⟨v1, v2, v3⟩, -⟩ := id v
  refine Ev.to (e_m_walk v1 p) (fun r' h' hp => ?_)
  rcases hp with ⟨n, hr, hq⟩ | ⟨r, hr, rfl, h1, N, R, T, t, hp⟩
  · exact ⟨_, _, _, hr, v.q hq, Or.inl ⟨n, rfl, rfl, rfl⟩⟩
  · rcases hp with ⟨z, hv, pq⟩ | ⟨z, hv, pq⟩
    · exact ⟨_, _, _, hv, v.q pq, Or.inr ⟨r, hr, rfl, R, _, T, t.tb (v.p1 hr), Or.inl ⟨z, rfl, rfl, rfl⟩⟩⟩
    · obtain ⟨l1, l2⟩ := t.wk (v.p1 hr)
      have vw : vWk V (mWl M (nI r, 0, 0)) := Or.inr ⟨r, 0, hr, rfl, rfl, m, h1, N, R, l1, l2, z⟩
      exact ⟨_, _, _, hv, (v.wl vw).q pq, Or.inr ⟨r, hr, rfl, R, _, T, t.tb (v.p1 hr), Or.inr ⟨z, rfl, rfl, rfl⟩⟩⟩
theorem MV.mwk (v : MV m h V M) : mWk m h (vNp V) (vNf V) := by
  obtain ⟨fw, -, -, -, -, -, -, ⟨w1, w2, w3⟩, -, vk⟩ := id v
  rcases vk with e | ⟨r, j, r1, r2, r3, m1, h1, N, R, l, s, hj⟩
  · exact Or.inl (w1.trans e)
  · exact Or.inr ⟨r, j, r1, w1.trans r2, w3.trans r3, m1, h1, N, R, by rw [v.p1 r1]; exact l, s, hj⟩
theorem b_m_step (v : MV m h V M) (a c : Int32) : Ev w 8 0 0 yX10_step cX10_step 4 (some .int) [.ref m, .int a, .int c] h (bQ m (qStM V M a c)) := by
  obtain ⟨fw, ⟨v1, v2, v3⟩, -, -, -, -, -, ⟨w1, w2, w3⟩, -⟩ := id v
  refine Ev.to (e_m_step v1 v.mwk a c) (fun r' h' hp => ?_)
  rcases hp with ⟨n, hr, hq⟩ | ⟨l, hp⟩
  · exact ⟨_, _, _, hr, v.q hq, Or.inl ⟨n, rfl, rfl, rfl⟩⟩
  rcases hp with ⟨z, hv, pq⟩ | ⟨r, j, x, y, hr, z1, z2, hx, hy, rfl, rfl, h1, N, R, T, t, hj, hp⟩
  · exact ⟨_, _, _, hv, v.q pq, Or.inr ⟨l, Or.inl ⟨w1.symm.trans z, rfl, rfl, rfl⟩⟩⟩
  · have tb := t.tb (v.p1 hr)
    rcases hp with ⟨z, hv, pq⟩ | ⟨z, hv, pq⟩
    · exact ⟨_, _, _, hv, v.q pq, Or.inr ⟨l, Or.inr ⟨r, j, x, y, R, _, T, _, hr, w1.symm.trans z1, w3.symm.trans z2, hx, hy, rfl, rfl, tb, hj, rfl, Or.inl ⟨z, rfl, rfl, rfl⟩⟩⟩⟩
    · obtain ⟨l1, l2⟩ := t.wk (v.p1 hr)
      obtain ⟨q, hq⟩ : ∃ q, R[j]? = some q := ⟨_, List.getElem?_eq_getElem hj⟩
      rw [w2] at pq
      have vw : vWk V (mWl M (nI r, M.2.2.1.2.1 + 1, T j (3 * x + y))) := by
        rcases t.2.2.2.1 j q (3 * x + y) hq (by omega) with ⟨-, e⟩ | ⟨b, j', p', -, b2, -, e⟩
        · exact absurd e z
        · exact Or.inr ⟨r, j', hr, rfl, e, m, h1, N, R, l1, l2, (List.getElem?_eq_some_iff.mp b2).1⟩
      exact ⟨_, _, _, hv, (v.wl vw).q pq, Or.inr ⟨l, Or.inr ⟨r, j, x, y, R, _, T, _, hr, w1.symm.trans z1, w3.symm.trans z2, hx, hy, rfl, rfl, tb, hj, rfl, Or.inr ⟨z, rfl, rfl, rfl⟩⟩⟩⟩
theorem b_m_walked (v : MV m h V M) (k : Int32) : Ev w 8 0 0 yX10_walked cX10_walked 2 (some .int) [.ref m, .int k] h (bQ m (qQ V M (qWdM V M k))) := by
  obtain ⟨fw, ⟨v1, v2, v3⟩, -, -, -, -, -, ⟨w1, w2, w3⟩, -⟩ := id v
  refine Ev.to (e_m_walked v1 v.mwk k) (fun r' h' hp => ?_)
  rcases hp with ⟨n, hr, hq⟩ | ⟨hk, hp⟩
  · exact bQ.q v hr hq (Or.inl ⟨n, rfl, rfl⟩)
  rcases hp with ⟨z, hv, pq⟩ | ⟨r, j, hr, z1, z2, h1, N, R, T, t, q, hq, hv, pq⟩
  · exact bQ.q v hv pq (Or.inr ⟨hk, Or.inl ⟨w1.symm.trans z, rfl, rfl⟩⟩)
  · rw [w2, rsT.E (m := m) (nf := 0) (r := 0) (N := 0) (h1 := h1) hq] at hv
    exact bQ.q v hv pq (Or.inr ⟨hk, Or.inr ⟨r, j, R, _, T, hr, w1.symm.trans z1, w3.symm.trans z2, t.tb (v.p1 hr), (List.getElem?_eq_some_iff.mp hq).1, rfl, rfl⟩⟩)
theorem prL_o {b j : Nat} : ∀ (L : List Nat) (h : HS) (k : Nat), ¬ (b = m ∧ j = 57) → b ≠ m + 26 → hI (prL m h k L) b j = hI h b j
  | [], _, _, _, _ => rfl
  | c :: L, h, k, h1, h2 => by
    show hI (prL m (pD m h k (nI c)) (k + 1) L) b j = _
    rw [prL_o L _ _ h1 h2]
    unfold pD
    rw [hI_sI, if_neg h1, hI_sI, if_neg (fun q => h2 q.1)]
theorem prL_f : ∀ (L : List Nat) (h : HS) (k : Nat), Fr3 h (prL m h k L)
  | [], _, _ => ⟨rfl, rfl, rfl, rfl⟩
  | c :: L, h, k => prL_f L (pD m h k (nI c)) (k + 1)
theorem prL_n : ∀ (L : List Nat) (h : HS) (k : Nat), hI h m 57 = nI k → hI (prL m h k L) m 57 = nI (k + L.length)
  | [], _, _, e => e
  | c :: L, h, k, e => by
    show hI (prL m (pD m h k (nI c)) (k + 1) L) m 57 = nI (k + (L.length + 1))
    rw [prL_n L _ (k + 1) pD_57, show k + 1 + L.length = k + (L.length + 1) by omega]
theorem prL_b : ∀ (L : List Nat) (h : HS) (k j : Nat), hI (prL m h k L) (m + 26) j = if k ≤ j ∧ j < k + L.length then (nI (L.getD (j - k) 0)).toInt8.toInt32 else hI h (m + 26) j
  | [], h, k, j => by
    show hI h (m + 26) j = if k ≤ j ∧ j < k + 0 then _ else hI h (m + 26) j
    rw [if_neg (by omega)]
  | c :: L, h, k, j => by
    show hI (prL m (pD m h k (nI c)) (k + 1) L) (m + 26) j = if k ≤ j ∧ j < k + (L.length + 1) then _ else _
    rw [prL_b L _ (k + 1) j]
    by_cases c1 : k + 1 ≤ j ∧ j < k + 1 + L.length
    · rw [if_pos c1, if_pos (by omega), show j - k = (j - (k + 1)) + 1 by omega]
      rfl
    · rw [if_neg c1]
      unfold pD
      rw [hI_sI, if_neg (by omega), hI_sI]
      by_cases c2 : j = k
      · rw [if_pos ⟨rfl, c2⟩, if_pos (by omega), c2, Nat.sub_self]
        rfl
      · rw [if_neg (fun q => c2 q.2), if_neg (by omega)]
theorem b_m_print (v : MV m h V M) (p : Int32) : Ev w 8 0 0 yX10_print cX10_print 4 (some .int) [.ref m, .int p] h (bQ m (qPrM V M p)) := by
  obtain ⟨fw, ⟨v1, v2, v3⟩, -, -, -, -, -, wk, -, vk⟩ := id v
  refine Ev.to (e_m_print v1 p) (fun r' h' hp => ?_)
  rcases hp with ⟨n, hr, hq⟩ | ⟨r, hr, rfl, h1, N, R, T, t, hp⟩
  · exact ⟨_, _, _, hr, v.q hq, Or.inl ⟨n, rfl, rfl, rfl⟩⟩
  · rcases hp with ⟨z, hv, pq⟩ | ⟨z, E, hE, hv, pq⟩
    · exact ⟨_, _, _, hv, v.q pq, Or.inr ⟨r, hr, rfl, R, _, T, t.tb (v.p1 hr), Or.inl ⟨z, rfl, rfl, rfl⟩⟩⟩
    · obtain ⟨l, s, hl, tbl', bd⟩ := id t
      have tb : tbM (vP1 V (vS V) (vPR V r)) R E T := by
        obtain ⟨m', h2, N', q1, q2, q3, q4⟩ := t.tb (v.p1 hr)
        rw [v.p1 hr] at l
        exact ⟨m, h1, N, l.r, s, tbl', fun i q hq => ⟨hE i q hq, bd i q hq⟩⟩
      have Tb : ∀ i, i < R.length → ∀ k, k < 24 → T i k = -1 ∨ ∃ j, j < R.length ∧ T i k = nI j := fun i hi k hk => by
        obtain ⟨q, hq⟩ : ∃ q, R[i]? = some q := ⟨_, List.getElem?_eq_getElem hi⟩
        rcases tbl' i q k hq hk with ⟨-, e⟩ | ⟨b, j', p', -, b2, -, e⟩
        · exact Or.inl e
        · exact Or.inr ⟨j', (List.getElem?_eq_some_iff.mp b2).1, e⟩
      have len : ∀ i, i ≤ R.length → (pxA E T i).length ≤ 127 * i := by
        intro i
        induction i with
        | zero => intro _; exact Nat.le_refl _
        | succ i ih =>
          intro hi
          have i1 := ih (by omega)
          have d1 := digs_2 (x := i) (by omega)
          have d2 := digs_3 (E i).toNatClampNeg
          have d3 := pxK_5 (T := T) (i := i) z (Tb i (by omega)) 24 (by omega)
          rw [pxA]
          unfold pxR
          simp only [List.length_append, List.length_cons, List.length_nil]
          omega
      have l76 : (pxA E T R.length).length ≤ 7620 := by have := len R.length (Nat.le_refl _); omega
      generalize hL : pxA E T R.length = L at l76 hv pq
      have v' : MV m (prL m (sI h m 57 0) 0 L) V (mOu M L) := by
        refine v.own (M' := mOu M L) (prL_f L (sI h m 57 0) 0) (fun b b1 b2 => funext fun j => ?_) (fun j j1 j2 j3 j4 j5 => ?_) rfl rfl ⟨?_, ?_, ?_⟩ ⟨?_, l76, fun j hj => ?_⟩ vk
        · rw [prL_o L _ _ (fun q => b1 q.1) b2, hI_sI, if_neg (fun q => b1 q.1)]
        · rw [prL_o L _ _ (fun q => j5 q.2) (by omega), hI_sI, if_neg (fun q => j5 q.2)]
        · rw [prL_o L _ _ (by omega) (by omega), hI_sI, if_neg (by omega)]; exact wk.1
        · rw [prL_o L _ _ (by omega) (by omega), hI_sI, if_neg (by omega)]; exact wk.2.1
        · rw [prL_o L _ _ (by omega) (by omega), hI_sI, if_neg (by omega)]; exact wk.2.2
        · rw [prL_n L _ 0 (by rw [hI_sI, if_pos ⟨rfl, rfl⟩]; rfl), Nat.zero_add]
          rfl
        · have hj' : j < L.length := hj
          rw [prL_b, if_pos (by omega), Nat.sub_zero]
          rfl
      exact ⟨_, _, _, hv, v'.q pq, Or.inr ⟨r, hr, rfl, R, E, T, tb, Or.inr ⟨z, by rw [hL], rfl, by rw [hL]; rfl⟩⟩⟩
end B7
