/-! The reference's object between calls, in the words of the class's; what a call answers and leaves -/
def kpT (m : Nat) (h : HS) (i : Nat) (S : aH) : Prop := hI h (m + 2) (2458 * i + 2456) = nI S.1 ∧ hI h (m + 2) (2458 * i + 2457) = nI S.2.1 ∧ ∀ k, k < S.1 → tr (fun j => hI h (m + 2) (2458 * i + 307 * k + j)) = S.2.2 k
/-- a walk has a rest it is at -/
def vWk (V : aV) (M : aM) : Prop := M.2.2.1.1 = -1 ∨ ∃ r j, r < vNp V ∧ M.2.2.1.1 = nI r ∧ M.2.2.1.2.2 = nI j ∧ ∃ m1 h1 N R, LDr (vP1 V (vS V) (vPR V r)) m1 h1 N ∧ Rsp m1 h1 R ∧ j < R.length
def MV (m : Nat) (h : HS) (V : aV) (M : aM) : Prop := ∃ fw, (mOK m h (vNt V) (vNa V) (vNp V) (vNf V) fw ∧ vOK V ∧ hI h m 6 = nI (vS V)) ∧ (∀ k, k < vNp V → mPr m h k = vPR V k) ∧ (∀ f, f < vNf V → mFc m h f = vFR V f) ∧ (hI h m 7 = nI (vA V) ∧ ∀ i, i < vA V → kpT m h i (vHi V i)) ∧ (hI h m 10 = nI M.1.1 ∧ M.1.1 ≤ 500 ∧ ∀ k, k < M.1.1 → M.1.2 k < 256 ∧ hI h (m + 3) k = nI (M.1.2 k)) ∧ (hI h m 11 = M.2.1.1 ∧ hI h m 12 = M.2.1.2.1 ∧ hI h m 13 = M.2.1.2.2) ∧ (hI h m 14 = M.2.2.1.1 ∧ hI h m 15 = M.2.2.1.2.1 ∧ hI h m 16 = M.2.2.1.2.2) ∧ (hI h m 57 = nI M.2.2.2.1 ∧ M.2.2.2.1 ≤ 7620 ∧ ∀ j, j < M.2.2.2.1 → hI h (m + 26) j = M.2.2.2.2 j) ∧ vWk V M
theorem gRec_tr {m : Nat} {h : HS} {k j : Nat} (hj : j < 307) : gRec (hI h (m + 1)) k j = mPr m h k j := (if_pos hj).symm
section MV
variable {m : Nat} {h h' : HS} {V : aV} {M : aM}
theorem MV.q (v : MV m h V M) {st : Int32} (p : pQ m h h' st) : MV m h' V (mSt M st) := by
  obtain ⟨fw, ⟨v1, v2, v3⟩, v4, v5, ⟨v6, v7⟩, ⟨v8, v9, va⟩, ⟨vb, vc, vd⟩, ⟨ve, vf, vg⟩, ⟨vh, vi, vj⟩, vk⟩ := v
  obtain ⟨k, p1, p2⟩ := p
  have ok := v1.kp k
  have hnp : vNp V ≤ 8 := v1.2.2.2.1.1
  have hnf : vNf V ≤ 2 := v1.2.2.2.2.1.1
  have pr : ∀ r, r < 11 → mPr m h' r = mPr m h r := fun r hr => mPr_kp k hr
  have fc : ∀ f, f < 3 → mFc m h' f = mFc m h f := fun f hf => mFc_kp k hf
  obtain ⟨k1, k2, k3, k4, k5, k6, k7⟩ := k
  refine ⟨fw, ⟨ok, v2, by rw [k2 6 (by omega) (by omega) (by omega)]; exact v3⟩, fun i hi => (pr i (by omega)).trans (v4 i hi), fun f hf => (fc f (by omega)).trans (v5 f hf), ⟨by rw [k2 7 (by omega) (by omega) (by omega)]; exact v6, fun i hi => ?_⟩, ⟨by rw [k2 10 (by omega) (by omega) (by omega)]; exact v8, v9, by rw [k6]; exact va⟩, ⟨p2, by rw [k2 12 (by omega) (by omega) (by omega)]; exact vc, by rw [k2 13 (by omega) (by omega) (by omega)]; exact vd⟩, ⟨by rw [k2 14 (by omega) (by omega) (by omega)]; exact ve, by rw [k2 15 (by omega) (by omega) (by omega)]; exact vf, by rw [k2 16 (by omega) (by omega) (by omega)]; exact vg⟩, ⟨by rw [k3]; exact vh, vi, by rw [k7]; exact vj⟩, vk⟩
  unfold kpT
  rw [k5]
  exact v7 i hi
theorem MV.pair (v : MV m h V M) (s : Int32) (R R' : Nat → Int32) : pP (hI h m 2) (hI h m 3) s (mFc m h) (vNf V) R R' = pP (nI (vNt V)) (nI (vNa V)) s (vFR V) (vNf V) R R' := by
  obtain ⟨fw, ⟨v1, -, -⟩, -, v5, -⟩ := v
  unfold pP
  rw [v1.2.1.2, v1.2.2.1.2, fbA_cg (s := s) (F := mFc m h) (F' := vFR V) v5 _ (Nat.le_refl _)]
theorem MV.p1 (v : MV m h V M) {r : Nat} (hr : r < vNp V) : P1 m h (vNf V) r = vP1 V (vS V) (vPR V r) := by
  unfold P1 vP1
  rw [v.pair]
  obtain ⟨fw, ⟨-, -, v3⟩, v4, -⟩ := v
  rw [v3, v4 r hr]
theorem MV.p2s (v : MV m h V M) {r q : Nat} (hr : r < vNp V) (hq : q < vNp V) (s : Nat) : P2s m h (vNf V) (nI s) r q = vP2 V s r q := by
  unfold P2s vP2
  rw [v.pair]
  obtain ⟨fw, -, v4, -⟩ := v
  rw [v4 r hr, v4 q hq]
theorem MV.p2 (v : MV m h V M) {r q : Nat} (hr : r < vNp V) (hq : q < vNp V) : P2 m h (vNf V) r q = vP2 V (vS V) r q := by
  unfold P2
  rw [show hI h m 6 = nI (vS V) from by obtain ⟨fw, ⟨-, -, v3⟩, -⟩ := v; exact v3]
  exact v.p2s hr hq _
end MV
/-- what a call of the class gives: a value, the states behind it -/
def aQ (x : Nat) (Q : Value → aV → aM → Prop) (r' : Option Value) (h' : HS) : Prop := ∃ v V' M', r' = some v ∧ KV x h' V' M' ∧ Q v V' M'
/-- and of the reference -/
def bQ (m : Nat) (Q : Value → aV → aM → Prop) (r' : Option Value) (h' : HS) : Prop := ∃ v V' M', r' = some v ∧ MV m h' V' M' ∧ Q v V' M'
/-- a question: an int, a status -/
def qQ (V : aV) (M : aM) (Q : Int32 → Int32 → Prop) (v : Value) (V' : aV) (M' : aM) : Prop := ∃ i st, v = .int i ∧ Q i st ∧ V' = V ∧ M' = mSt M st
/-- it is told -/
def fQ (Q : Value → aV → aM → Prop) : Prop := ∀ v v2 V V2 M M2, Q v V M → Q v2 V2 M2 → v = v2 ∧ V = V2 ∧ M = M2
def fQ2 (Q : Int32 → Int32 → Prop) : Prop := ∀ v st v2 st2, Q v st → Q v2 st2 → v = v2 ∧ st = st2
theorem fQ2.q {V : aV} {M : aM} {Q : Int32 → Int32 → Prop} (f : fQ2 Q) : fQ (qQ V M Q) := by
  intro v v2 V1 V2 M1 M2 h1 h2
  obtain ⟨i, st, rfl, q, rfl, rfl⟩ := h1
  obtain ⟨i2, st2, rfl, q2, rfl, rfl⟩ := h2
  obtain ⟨rfl, rfl⟩ := f _ _ _ _ q q2
  exact ⟨rfl, rfl, rfl⟩
theorem bQ.q {m : Nat} {h h' : HS} {V : aV} {M : aM} {Q : Int32 → Int32 → Prop} (v : MV m h V M) {i st : Int32} {r' : Option Value} (hr : r' = some (.int i)) (p : pQ m h h' st) (q : Q i st) : bQ m (qQ V M Q) r' h' := ⟨_, _, _, hr, v.q p, i, st, rfl, q, rfl, rfl⟩
theorem aQ.q {x W : Nat} {h h1 : HS} {V : aV} {RC : Nat → Nat → Int32} {M : aM} {Q : Int32 → Int32 → Prop} (K : K0 x W h V RC) (m : kvM x h M) {i st : Int32} {r' : Option Value} (hr : r' = some (.int i)) (K1 : K0 x W h1 V RC) (k : qKp x h h1) (q : Q i st) : aQ x (qQ V M Q) r' (sI h1 x 3 st) := ⟨_, _, _, hr, K.st K1 k m st, i, st, rfl, q, rfl, rfl⟩
theorem aQ.r {x W : Nat} {h : HS} {V : aV} {RC : Nat → Nat → Int32} {M : aM} {Q : Int32 → Int32 → Prop} (K : K0 x W h V RC) (m : kvM x h M) {i st : Int32} {r' : Option Value} (hr : r' = some (.int i)) (q : Q i st) : aQ x (qQ V M Q) r' (sI h x 3 st) := aQ.q K m hr K (qKp.rf x h) q
abbrev inP (n : Nat) (p : Int32) : Prop := 0 ≤ p ∧ p ≤ nI n - 1
/-- one program: refused, or what Q says of it -/
def one (n : Nat) (p : Int32) (Q : Nat → Int32 → Int32 → Prop) (v st : Int32) : Prop := (¬ inP n p ∧ v = -1 ∧ st = 2) ∨ ∃ r, r < n ∧ p = nI r ∧ Q r v st
def two (n : Nat) (p o : Int32) (Q : Nat → Nat → Int32 → Int32 → Prop) (v st : Int32) : Prop := (¬ (inP n p ∧ inP n o) ∧ v = -1 ∧ st = 2) ∨ ∃ r q, r < n ∧ q < n ∧ p = nI r ∧ o = nI q ∧ Q r q v st
/-- a gate with a status of its own -/
def gat (c : Prop) (k : Int32) (Q : Int32 → Int32 → Prop) (v st : Int32) : Prop := (¬ c ∧ v = -1 ∧ st = k) ∨ (c ∧ Q v st)
theorem inP_of {n r : Nat} (hn : n < 100000) (hr : r < n) : inP n (nI r) := (in_np hn).mpr ⟨nI_nn (by omega), nI_lt hr (by omega)⟩
theorem fQ2.gat {c : Prop} {k : Int32} {Q : Int32 → Int32 → Prop} (f : c → fQ2 Q) : fQ2 (gat c k Q) := by
  intro v st v2 st2 h1 h2
  rcases h1 with ⟨n1, rfl, rfl⟩ | ⟨c1, q1⟩ <;> rcases h2 with ⟨n2, rfl, rfl⟩ | ⟨c2, q2⟩
  · exact ⟨rfl, rfl⟩
  · exact absurd c2 n1
  · exact absurd c1 n2
  · exact f c1 _ _ _ _ q1 q2
theorem fQ2.one {n : Nat} (hn : n < 100000) {p : Int32} {Q : Nat → Int32 → Int32 → Prop} (f : ∀ r, r < n → fQ2 (Q r)) : fQ2 (one n p Q) := by
  intro v st v2 st2 h1 h2
  rcases h1 with ⟨n1, rfl, rfl⟩ | ⟨r, r1, r2, q1⟩ <;> rcases h2 with ⟨n2, rfl, rfl⟩ | ⟨r', s1, s2, q2⟩
  · exact ⟨rfl, rfl⟩
  · exact absurd (s2 ▸ inP_of hn s1) n1
  · exact absurd (r2 ▸ inP_of hn r1) n2
  · have e : r = r' := (nI_eq (by omega) (by omega)).mp (r2.symm.trans s2)
    subst e
    exact f r r1 _ _ _ _ q1 q2
theorem fQ2.two {n : Nat} (hn : n < 100000) {p o : Int32} {Q : Nat → Nat → Int32 → Int32 → Prop} (f : ∀ r q, r < n → q < n → fQ2 (Q r q)) : fQ2 (two n p o Q) := by
  intro v st v2 st2 h1 h2
  rcases h1 with ⟨n1, rfl, rfl⟩ | ⟨r, q, r1, r2, r3, r4, q1⟩ <;> rcases h2 with ⟨n2, rfl, rfl⟩ | ⟨r', q', s1, s2, s3, s4, q2⟩
  · exact ⟨rfl, rfl⟩
  · exact absurd ⟨s3 ▸ inP_of hn s1, s4 ▸ inP_of hn s2⟩ n1
  · exact absurd ⟨r3 ▸ inP_of hn r1, r4 ▸ inP_of hn r2⟩ n2
  · have e : r = r' := (nI_eq (by omega) (by omega)).mp (r3.symm.trans s3)
    have e2 : q = q' := (nI_eq (by omega) (by omega)).mp (r4.symm.trans s4)
    subst e e2
    exact f r q r1 r2 _ _ _ _ q1 q2
