/-! The reference's questions over states in the class's words: within telling first least whose atoms -/
theorem bfs_at {sc : Int64 → Nat → Option Int64} : ∀ e (j : Nat) (q : Int64 × Nat), (bfs sc e)[j]? = some q → (bfs sc (24 * j))[j]? = some q := by
  intro e
  induction e with
  | zero =>
    intro j q hq
    have hj := (List.getElem?_eq_some_iff.mp hq).1
    have e1 : (bfs sc 0).length = 1 := rfl
    rw [show j = 0 by omega] at hq ⊢
    exact hq
  | succ e ih =>
    intro j q hq
    rcases bfs_grow sc e with x | ⟨k, x, y⟩
    · rw [x] at hq; exact ih j q hq
    · by_cases c : j < (bfs sc e).length
      · rw [x, List.getElem?_append_left c] at hq; exact ih j q hq
      · have h1 := (List.getElem?_eq_some_iff.mp hq).1
        rw [x, List.length_append] at h1
        have h1' : j < (bfs sc e).length + 1 := h1
        have l : e + 1 ≤ 24 * j := by omega
        have st := bfs_stay hq (24 * j - (e + 1))
        rw [show e + 1 + (24 * j - (e + 1)) = 24 * j by omega] at st
        exact st
theorem hasB_xo {x y : Int32} {a : Nat} (ha : a < 32) : hasB (x ^^^ y) (nI a) ↔ ¬ (hasB x (nI a) ↔ hasB y (nI a)) := by
  rw [hasB_iff ha, hasB_iff ha, hasB_iff ha, Int32.toBitVec_xor, BitVec.getLsbD_xor]
  cases x.toBitVec.getLsbD a <;> cases y.toBitVec.getLsbD a <;> simp
theorem apF_has {P : kP} {key : Int64} {a : Nat} (ha : a < 32) : hasB (apF P 0 key) (nI a) ↔ hasB (kE1 P key ^^^ kE2 P key) (nI a) := by
  unfold apF
  rw [if_pos rfl, hasB_or ha, hasB_and ha, hasB_and ha, hasB_nt ha, hasB_nt ha, hasB_xo ha]
  by_cases p : hasB (kE1 P key) (nI a) <;> by_cases q : hasB (kE2 P key) (nI a) <;> simp [p, q]
theorem lsb_apF {P : kP} {t : Nat} (ht : t ≤ 3) (hP : P.1 = nI t) {key : Int64} {a : Nat} (l : lsbP (kE1 P key ^^^ kE2 P key) a) : ntzF (apF P 0 key) = nI a ∧ a < 8 := by
  obtain ⟨k, hk, e⟩ := apF_n ht hP key
  obtain ⟨l1, l2, l3⟩ := l
  have k0 : k ≠ 0 := fun q => by
    have := (apF_has (P := P) (key := key) l1).mpr l2
    rw [e, q] at this
    exact hasB_0 l1 this
  obtain ⟨b, hb, e1, b1, b2, b3⟩ := ntzF_n hk k0
  rw [← e] at b2 b3 e1
  have b2' := (apF_has (P := P) (key := key) b1).mp b2
  have : a = b := by
    rcases Nat.lt_trichotomy a b with c | c | c
    · exact absurd ((apF_has l1).mpr l2) (b3 a c)
    · exact c
    · exact absurd b2' (l3 b c)
  subst this
  exact ⟨e1, hb⟩
/-- the states of a pair: situation s -/
theorem LDU.key {P : kP} {m N s : Nat} {h : HS} (l : LDU P m h N) (hs : s < N) : ∃ q : Int64 × Nat, (bfs (kSc P) (24 * N))[s]? = some q ∧ hI h (m + 8) s = kE1 P q.1 ∧ hI h (m + 9) s = kE2 P q.1 := by
  obtain ⟨⟨l1, l2, l3, l4, l5, l6⟩, -⟩ := l
  obtain ⟨q, hq⟩ : ∃ q, (bfs (kSc P) (24 * N))[s]? = some q := ⟨_, List.getElem?_eq_getElem (by omega)⟩
  exact ⟨q, hq, l6 s q hq⟩
theorem LDU.at {P : kP} {m N s : Nat} {h : HS} (l : LDU P m h N) {q : Int64 × Nat} (hq : (bfs (kSc P) (24 * N))[s]? = some q) : s < N ∧ hI h (m + 8) s = kE1 P q.1 ∧ hI h (m + 9) s = kE2 P q.1 := by
  obtain ⟨⟨l1, l2, l3, l4, l5, l6⟩, -⟩ := l
  have := (List.getElem?_eq_some_iff.mp hq).1
  exact ⟨by omega, l6 s q hq⟩
theorem LDU.len {P : kP} {m N : Nat} {h : HS} (l : LDU P m h N) : (bfs (kSc P) (24 * N)).length = N ∧ 0 < N ∧ N ≤ 16400 := ⟨l.1.2.2.2.1, l.1.2.1, l.1.1⟩
/-- nothing is found -/
theorem LDU.no {P : kP} {m N : Nat} {h : HS} (l : LDU P m h N) (b : Int32) : noP P b ↔ ∀ t, t < N → ∀ q : Int64 × Nat, (bfs (kSc P) (24 * N))[t]? = some q → apF P b q.1 = 0 := by
  constructor
  · rintro ⟨N', h1, h2⟩ t ht q hq
    have := bfs_one l.len.1 h1
    subst this
    exact h2 t q hq
  · intro a
    exact ⟨N, l.len.1, fun j q hq => a j (l.at hq).1 q hq⟩
/-- the first where both differ is found -/
theorem LDU.fd {P : kP} {m N s : Nat} {h : HS} (l : LDU P m h N) (hs : s < N) (ne : ¬ hI h (m + 8) s = hI h (m + 9) s) (eq : ∀ t, t < s → hI h (m + 8) t = hI h (m + 9) t) {q : Int64 × Nat} (hq : (bfs (kSc P) (24 * N))[s]? = some q) : fdP P 0 s q.1 := by
  refine ⟨⟨q.2, bfs_at _ _ _ hq⟩, fun e => ne ?_, fun j p hp hj => ?_⟩
  · obtain ⟨-, e1, e2⟩ := l.at hq
    rw [e1, e2]
    exact apF0.mp e
  · have st := bfs_stay hp (24 * N - 24 * s)
    rw [show 24 * s + (24 * N - 24 * s) = 24 * N by omega] at st
    obtain ⟨-, e1, e2⟩ := l.at st
    refine apF0.mpr ?_
    rw [← e1, ← e2]
    exact eq j hj
/-- the ways back are the same -/
theorem LDU.way {P : kP} {m N s n : Nat} {h : HS} (l : LDU P m h N) (hs : s < N) (wy : wayP m h N s n) : ∃ f, wayL (bfs (kSc P) (24 * s)) s n f ∧ (∀ d, d ≤ n → anc (hI h (m + 10)) s d = f d) ∧ ∀ d, d < n → ∃ q : Int64 × Nat, (bfs (kSc P) (24 * s))[f d]? = some q ∧ hI h (m + 11) (f d) = nI (q.2 % 24) := by
  obtain ⟨⟨l1, l2, ⟨-, -, ml⟩, l4, l5, l6⟩, -⟩ := id l
  obtain ⟨q0, hq0, -⟩ := l.key hs
  have hs0 := bfs_at _ _ _ hq0
  obtain ⟨n', f, f0, fn, hn, hl, hf⟩ := wayL_ex (L := bfs (kSc P) (24 * s)) (fun j q hq hj => bfs_back _ _ _ _ hq hj) (s + 1) s (by omega) (List.getElem?_eq_some_iff.mp hs0).1
  have up : ∀ (j : Nat) (q : Int64 × Nat), (bfs (kSc P) (24 * s))[j]? = some q → (bfs (kSc P) (24 * N))[j]? = some q := fun j q hq => by
    have st := bfs_stay hq (24 * N - 24 * s)
    rw [show 24 * s + (24 * N - 24 * s) = 24 * N by omega] at st
    exact st
  have dep : ∀ x d, d + x = n' → hI h (m + 12) (f d) = nI x := by
    intro x
    induction x with
    | zero =>
      intro d hd
      rw [show d = n' by omega, fn]
      obtain ⟨q, hq, -⟩ := l.key l2
      exact (ml 0 q hq).2.2.2.1 rfl
    | succ x ih =>
      intro d hd
      obtain ⟨g1, g2, q, g3, g4⟩ := hf d (by omega)
      have e := ((ml _ q (up _ _ g3)).2.2.2.2 g1).2
      rw [e, g4, ih (d + 1) (by omega)]
      exact nx_add (b := 1) rfl rfl
  have an : ∀ d, d ≤ n' → anc (hI h (m + 10)) s d = f d := by
    intro d
    induction d with
    | zero => intro _; exact f0.symm
    | succ d ih =>
      intro hd
      obtain ⟨g1, g2, q, g3, g4⟩ := hf d (by omega)
      have e := (ml _ q (up _ _ g3)).2.1
      rw [if_neg (by omega)] at e
      show (hI h (m + 10) (anc (hI h (m + 10)) s d)).toNatClampNeg = f (d + 1)
      have gl := (l.at (up _ _ g3)).1
      have bk := bfs_back _ _ _ _ g3 g1
      rw [ih (by omega), e, nI_clamp (by omega), g4]
  have en : n = n' := by
    have e := dep n' 0 (by omega)
    rw [f0, wy.2.1] at e
    have := wy.1
    exact (nI_eq (by omega) (by omega)).mp e
  subst en
  refine ⟨f, ⟨f0, fn, hn, hl, hf⟩, an, fun d hd => ?_⟩
  obtain ⟨g1, g2, q, g3, g4⟩ := hf d hd
  exact ⟨q, g3, (ml _ q (up _ _ g3)).2.2.1⟩
/-- what a string tells is the same -/
theorem LDU.sp {P : kP} {m N s n a t : Nat} {h : HS} (l : LDU P m h N) (ht : t ≤ 3) (hP : P.1 = nI t) (hs : s < N) (ne : ¬ hI h (m + 8) s = hI h (m + 9) s) (eq : ∀ t, t < s → hI h (m + 8) t = hI h (m + 9) t) (wy : wayP m h N s n) (lb : lsbP (hI h (m + 8) s ^^^ hI h (m + 9) s) a) {k : Int32} (hk : -1 ≤ k) : spP P k (strA n s (hI h (m + 10)) (hI h (m + 11)) (nI a) k) := by
  obtain ⟨q, hq, e1, e2⟩ := l.key hs
  obtain ⟨f, wl, an, by'⟩ := l.way hs wy
  have fd := l.fd hs ne eq hq
  rw [e1, e2] at lb
  obtain ⟨ea, a8⟩ := lsb_apF ht hP lb
  refine Or.inr ⟨s, q.1, n, f, fd, wl, ?_⟩
  unfold strA spV
  by_cases k1 : k = -1
  · rw [if_pos k1, if_pos k1]
  rw [if_neg k1, if_neg k1]
  obtain ⟨j, hj, rfl⟩ : ∃ j, j < 2 ^ 31 ∧ k = nI j := by
    have k0 : ¬ k < 0 := fun q => k1 (by
      have h1 := Int32.le_iff_toInt_le.mp hk
      have h2 := Int32.lt_iff_toInt_lt.mp q
      rw [show (-1 : Int32).toInt = -1 from by decide] at h1
      rw [show (0 : Int32).toInt = 0 from by decide] at h2
      exact Int32.toInt_inj.mp (by rw [show (-1 : Int32).toInt = -1 from by decide]; omega))
    obtain ⟨j, hj, e⟩ := nI_of k0
    exact ⟨j, hj, e⟩
  have n16 : n ≤ 16400 := by have := wy.1; have := l.len.2.2; omega
  rw [nI_clamp (by omega), ea]
  unfold plA
  by_cases c : j ≤ 2 * n
  · have i1 : ¬ 2 * n < j := by omega
    rw [if_pos (nI_le c (by omega)), if_neg i1]
    by_cases c2 : j = 2 * n
    · rw [if_pos (show nI j = nI (2 * n) by rw [c2]), if_pos c2, if_neg (nI_neg1 (by omega))]
    · have i2 : ¬ nI j = nI (2 * n) := fun q => c2 ((nI_eq (by omega) (by omega)).mp q)
      rw [if_neg i2, if_neg c2]
      obtain ⟨p, p1, p2⟩ := by' (n - 1 - j / 2) (by omega)
      rw [an _ (by omega), p1, p2, nI_clamp (by omega)]
      show ((if j % 2 = 0 then nI (p.2 % 24 / 3) else nI (p.2 % 24 % 3)), (0 : Int32)) = if (if j % 2 = 0 then nI (p.2 % 24 / 3) else nI (p.2 % 24 % 3)) = -1 then (-1, 5) else ((if j % 2 = 0 then nI (p.2 % 24 / 3) else nI (p.2 % 24 % 3)), 0)
      rw [if_neg (show ¬ (if j % 2 = 0 then nI (p.2 % 24 / 3) else nI (p.2 % 24 % 3)) = -1 by split <;> exact nI_neg1 (by omega))]
  · have i3 : ¬ nI j ≤ nI (2 * n) := fun q => c ((nI_leI (by omega) (by omega)).mp q)
    have i4 : 2 * n < j := by omega
    rw [if_neg i3, if_pos i4, if_pos rfl]
/-- of a program alone the second has no ends -/
theorem endF_p0 {e : Int32} {s : Int32} : endF (rPlain 0) s e 0 = e := rfl
theorem kE2_1 {V : aV} {s : Nat} {R : Nat → Int32} {key : Int64} : kE2 (vP1 V s R) key = 0 := by
  unfold kE2
  show endF (rPlain 0) (kIt key) (if kbg key = 0 then 0 else rPlain 0 1) (wt (rPlain 0)) &&& kGd (vP1 V s R) key = 0
  rw [wt_pl0, endF_p0, show (if kbg key = 0 then (0 : Int32) else rPlain 0 1) = 0 by split <;> rfl]
  exact Int32.zero_and
theorem LDU.z2 {V : aV} {s : Nat} {R : Nat → Int32} {m N t : Nat} {h : HS} (l : LDU (vP1 V s R) m h N) (ht : t < N) : hI h (m + 9) t = 0 := by
  obtain ⟨q, -, -, e⟩ := l.key ht
  rw [e]
  exact kE2_1
section B4
variable {w : gD} {m : Nat} {h h' : HS} {V : aV} {M : aM}
theorem b_m_within (v : MV m h V M) (p o : Int32) : Ev w 7 0 0 yX10_within cX10_within 5 (some .int) [.ref m, .int p, .int o] h (bQ m (qQ V M (two (vNp V) p o (qWit V)))) := by
  obtain ⟨fw, ⟨v1, v2, v3⟩, -⟩ := id v
  refine Ev.to (e_m_within v1 p o) (fun r' h' hp => ?_)
  rcases hp with ⟨n, hr, hq⟩ | ⟨r, q, hr, hq, rfl, rfl, h1, N, l, hv, pq⟩
  · exact bQ.q v hr hq (Or.inl ⟨n, rfl, rfl⟩)
  · rw [v.p2 hr hq] at l
    have no : noP (vP2 V (vS V) r q) 1 ↔ ∀ t, t < N → hI h1 (m + 8) t &&& (hI h1 (m + 9) t ^^^ -1) = 0 := by
      rw [l.no]
      have ap : ∀ key, apF (vP2 V (vS V) r q) 1 key = kE1 (vP2 V (vS V) r q) key &&& (kE2 (vP2 V (vS V) r q) key ^^^ -1) := fun key => by
        unfold apF
        rw [if_neg (by decide)]
        exact Int32.or_zero
      constructor
      · intro a t ht
        obtain ⟨k, hk, e1, e2⟩ := l.key ht
        rw [e1, e2, ← ap]
        exact a t ht k hk
      · intro a t ht k hk
        obtain ⟨-, e1, e2⟩ := l.at hk
        rw [ap, ← e1, ← e2]
        exact a t ht
    rcases hv with ⟨a, hv⟩ | ⟨a, hv⟩
    · exact bQ.q v hv pq (Or.inr ⟨r, q, hr, hq, rfl, rfl, Or.inl ⟨rfl, no.mpr a⟩, rfl⟩)
    · exact bQ.q v hv pq (Or.inr ⟨r, q, hr, hq, rfl, rfl, Or.inr ⟨rfl, fun e => a (no.mp e)⟩, rfl⟩)
theorem b_m_telling (v : MV m h V M) (p o k : Int32) : Ev w 7 0 0 yX10_telling cX10_telling 5 (some .int) [.ref m, .int p, .int o, .int k] h (bQ m (qQ V M (gat (-1 ≤ k) 1 (two (vNp V) p o (fun r q v st => spP (vP2 V (vS V) r q) k (v, st)))))) := by
  obtain ⟨fw, ⟨v1, v2, v3⟩, -⟩ := id v
  refine Ev.to (e_m_telling v1 p o k) (fun r' h' hp => ?_)
  rcases hp with ⟨n, hr, hq⟩ | ⟨hk, n, hr, hq⟩ | ⟨hk, r, q, hr, hq, rfl, rfl, h1, N, l, hv⟩
  · exact bQ.q v hr hq (Or.inl ⟨n, rfl, rfl⟩)
  · exact bQ.q v hr hq (Or.inr ⟨hk, Or.inl ⟨n, rfl, rfl⟩⟩)
  · rw [v.p2 hr hq] at l
    rcases hv with ⟨s, n, a, hs, ne, eq, wy, lb, hv, pq⟩ | ⟨eq, hv, pq⟩
    · exact bQ.q v hv pq (Or.inr ⟨hk, Or.inr ⟨r, q, hr, hq, rfl, rfl, l.sp v2.1.1 rfl hs ne eq wy lb hk⟩⟩)
    · refine bQ.q v hv pq (Or.inr ⟨hk, Or.inr ⟨r, q, hr, hq, rfl, rfl, Or.inl ⟨(l.no 0).mpr (fun t ht k hk => ?_), rfl⟩⟩⟩)
      obtain ⟨-, e1, e2⟩ := l.at hk
      exact apF0.mpr (by rw [← e1, ← e2]; exact eq t ht)
theorem b_m_whose (v : MV m h V M) (p o : Int32) : Ev w 7 0 0 yX10_whose cX10_whose 4 (some .int) [.ref m, .int p, .int o] h (bQ m (qQ V M (two (vNp V) p o (qWho V)))) := by
  obtain ⟨fw, ⟨v1, v2, v3⟩, -⟩ := id v
  refine Ev.to (e_m_whose v1 p o) (fun r' h' hp => ?_)
  rcases hp with ⟨n, hr, hq⟩ | ⟨r, q, hr, hq, rfl, rfl, h1, N, l, hv⟩
  · exact bQ.q v hr hq (Or.inl ⟨n, rfl, rfl⟩)
  · rw [v.p2 hr hq] at l
    rcases hv with ⟨s, a, hs, ne, eq, lb, hv, pq⟩ | ⟨eq, hv, pq⟩
    · obtain ⟨k, hk, e1, e2⟩ := l.key hs
      have fd := l.fd hs ne eq hk
      rw [e1, e2] at lb
      obtain ⟨ea, a8⟩ := lsb_apF v2.1.1 rfl lb
      rw [e1] at hv
      refine bQ.q v hv pq (Or.inr ⟨r, q, hr, hq, rfl, rfl, Or.inr ⟨s, k.1, fd, ?_, rfl⟩⟩)
      rw [ea]
      by_cases c : hasB (kE1 (vP2 V (vS V) r q) k.1) (nI a)
      · have c1 : kE1 (vP2 V (vS V) r q) k.1 >>> (nI a &&& 31) &&& 1 = 1 := c
        rw [if_pos c1, c1]
        rfl
      · have c1 : ¬ kE1 (vP2 V (vS V) r q) k.1 >>> (nI a &&& 31) &&& 1 = 1 := c
        obtain ⟨x, hx, ex⟩ := and_small (a := kE1 (vP2 V (vS V) r q) k.1 >>> (nI a &&& 31)) (b := 1) (k := 1) rfl (by omega)
        have c2 : kE1 (vP2 V (vS V) r q) k.1 >>> (nI a &&& 31) &&& 1 = 0 := by
          rcases (show x = 0 ∨ x = 1 by omega) with e | e
          · rw [ex, e]; rfl
          · exact absurd (by rw [ex, e]; rfl) c1
        rw [if_neg c1, if_pos c2]
    · exact bQ.q v hv pq (Or.inr ⟨r, q, hr, hq, rfl, rfl, Or.inl ⟨l.1.eq_iff.mpr eq, rfl, rfl⟩⟩)
theorem b_m_first (v : MV m h V M) (p k : Int32) : Ev w 7 0 0 yX10_first cX10_first 4 (some .int) [.ref m, .int p, .int k] h (bQ m (qQ V M (gat (-1 ≤ k) 1 (one (vNp V) p (fun r v st => spP (vP1 V (vS V) (vPR V r)) k (v, st)))))) := by
  obtain ⟨fw, ⟨v1, v2, v3⟩, -⟩ := id v
  refine Ev.to (e_m_first v1 p k) (fun r' h' hp => ?_)
  rcases hp with ⟨n, hr, hq⟩ | ⟨hk, n, hr, hq⟩ | ⟨hk, r, hr, rfl, h1, N, l, hv⟩
  · exact bQ.q v hr hq (Or.inl ⟨n, rfl, rfl⟩)
  · exact bQ.q v hr hq (Or.inr ⟨hk, Or.inl ⟨n, rfl, rfl⟩⟩)
  · rw [v.p1 hr] at l
    rcases hv with ⟨s, n, a, hs, ne, eq, wy, lb, hv, pq⟩ | ⟨eq, hv, pq⟩
    · refine bQ.q v hv pq (Or.inr ⟨hk, Or.inr ⟨r, hr, rfl, l.sp v2.1.1 rfl hs (by rw [l.z2 hs]; exact ne) (fun t ht => by rw [l.z2 (by omega)]; exact eq t ht) wy ?_ hk⟩⟩)
      rw [l.z2 hs, Int32.xor_zero]
      exact lb
    · refine bQ.q v hv pq (Or.inr ⟨hk, Or.inr ⟨r, hr, rfl, Or.inl ⟨(l.no 0).mpr (fun t ht k hk => ?_), rfl⟩⟩⟩)
      obtain ⟨-, e1, e2⟩ := l.at hk
      exact apF0.mpr (by rw [← e1, ← e2, l.z2 ht]; exact eq t ht)
theorem b_m_atoms (v : MV m h V M) (p : Int32) : Ev w 7 0 0 yX10_atoms_ cX10_atoms_ 2 (some .int) [.ref m, .int p] h (bQ m (qQ V M (one (vNp V) p (qAto V)))) := by
  obtain ⟨fw, ⟨v1, v2, v3⟩, -⟩ := id v
  refine Ev.to (e_m_atoms_ v1 p) (fun r' h' hp => ?_)
  rcases hp with ⟨n, hr, hq⟩ | ⟨r, hr, rfl, h1, N, l, hv, pq⟩
  · exact bQ.q v hr hq (Or.inl ⟨n, rfl, rfl⟩)
  · rw [v.p1 hr] at l
    refine bQ.q v hv pq (Or.inr ⟨r, hr, rfl, ?_, rfl⟩)
    have h0 : (bfs (kSc (vP1 V (vS V) (vPR V r))) (24 * N))[0]? = some (BEG, 0) := by
      have e : (bfs (kSc (vP1 V (vS V) (vPR V r))) 0)[0]? = some (BEG, 0) := rfl
      have st := bfs_stay e (24 * N)
      rw [Nat.zero_add] at st
      exact st
    rw [(l.at h0).2.1]
    have h5 := (v2.2.1 (vA V) (Nat.le_refl _)).2.2 r hr
    have p3 : vPR V r 1 &&& allF (nI (vNt V)) = vPR V r 1 := h5.2.2.1
    obtain ⟨z1, -, z3, z4⟩ := kBeg
    have endz : ∀ (R : Nat → Int32) (e : Int32) n, n ≤ 16 → endF R 0 e n = e := fun R e n hn => hasB_ext fun b hb => by
      rw [endF_has n hn b hb]
      exact ⟨fun q => by rcases q with q | ⟨p, hp, q, -⟩; exact q; exact absurd q (hasB_0 (by omega)), Or.inl⟩
    have w5 : wt (vPR V r) ≤ 5 := h5.1
    have wb : wt (fbA (nI (vS V)) (vFR V) (vNf V)) ≤ 2 := v2.2.2.1 _ v2.s4
    have g : kGd (vP1 V (vS V) (vPR V r)) BEG = allF (nI (vNt V)) &&& (fbA (nI (vS V)) (vFR V) (vNf V) 1 ^^^ -1) := by
      unfold kGd
      show allF (nI (vNt V)) &&& (endF (fbA (nI (vS V)) (vFR V) (vNf V)) (kBa BEG) (fbA (nI (vS V)) (vFR V) (vNf V) 1) (wt (fbA (nI (vS V)) (vFR V) (vNf V))) ^^^ -1) = _
      rw [z3, endz _ _ _ (by omega)]
    unfold kE1
    show endF (vPR V r) (kMi BEG) (if kbg BEG = 0 then 0 else vPR V r 1) (wt (vPR V r)) &&& kGd (vP1 V (vS V) (vPR V r)) BEG = _
    rw [g, z1, z4, if_neg (by decide), endz _ _ _ (by omega), ← Int32.and_assoc, p3]
end B4
