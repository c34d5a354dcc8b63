/-! The class's object between calls: its shape, its world, its deeds, its table, its search, the rest -/
/-- what a question leaves as it was: only search, table and status change -/
def qKp (x : Nat) (h h' : HS) : Prop := hT h' = hT h ∧ hK h' = hK h ∧ hN h' = hN h ∧ (∀ b k, ¬ (b = x + 36 ∧ k = 5) → hR h' b k = hR h b k) ∧ (∀ b, b ≠ x → (b < x + 17 ∨ x + 46 < b) → hI h' b = hI h b) ∧ (∀ k, k ≠ 3 → hI h' x k = hI h x k) ∧ ∀ b, b ≠ x + 34 → b ≠ x + 35 → hL h' b = hL h b
theorem qKp.rf (x : Nat) (h : HS) : qKp x h h := ⟨rfl, rfl, rfl, fun _ _ _ => rfl, fun _ _ _ => rfl, fun _ _ => rfl, fun _ _ _ => rfl⟩
theorem qKp.tr {x : Nat} {h h1 h2 : HS} (a : qKp x h h1) (b : qKp x h1 h2) : qKp x h h2 := by
  obtain ⟨a1, a2, a3, a4, a5, a6, a7⟩ := a
  obtain ⟨b1, b2, b3, b4, b5, b6, b7⟩ := b
  exact ⟨b1.trans a1, b2.trans a2, b3.trans a3, fun c k q => (b4 c k q).trans (a4 c k q), fun c q1 q2 => (b5 c q1 q2).trans (a5 c q1 q2), fun k q => (b6 k q).trans (a6 k q), fun c q1 q2 => (b7 c q1 q2).trans (a7 c q1 q2)⟩
theorem qKp_st (x : Nat) (h : HS) (v : Int32) : qKp x h (sI h x 3 v) := ⟨rfl, rfl, rfl, fun _ _ _ => rfl, fun b b1 _ => hI_sI_ne b1, fun k q => by rw [hI_sI, if_neg (fun x => q x.2)], fun _ _ _ => rfl⟩
/-- the same, but for the object's own numbers -/
def qKq (x : Nat) (h h' : HS) : Prop := hT h' = hT h ∧ hK h' = hK h ∧ hN h' = hN h ∧ (∀ b k, ¬ (b = x + 36 ∧ k = 5) → hR h' b k = hR h b k) ∧ (∀ b, b ≠ x → (b < x + 17 ∨ x + 46 < b) → hI h' b = hI h b) ∧ ∀ b, b ≠ x + 34 → b ≠ x + 35 → hL h' b = hL h b
theorem qKp.w {x : Nat} {h h' : HS} (k : qKp x h h') : qKq x h h' := ⟨k.1, k.2.1, k.2.2.1, k.2.2.2.1, k.2.2.2.2.1, k.2.2.2.2.2.2⟩
/-- only the object's own numbers change -/
def xIn (x : Nat) (h h' : HS) : Prop := h'.2 = h.2 ∧ ∀ b, b ≠ x → hI h' b = hI h b
theorem xIn.rf (x : Nat) (h : HS) : xIn x h h := ⟨rfl, fun _ _ => rfl⟩
theorem xIn.i {x k : Nat} {h h' : HS} {v : Int32} (a : xIn x h h') : xIn x h (sI h' x k v) := ⟨a.1, fun b hb => (hI_sI_ne hb).trans (a.2 b hb)⟩
theorem xIn.w {x : Nat} {h h' : HS} (a : xIn x h h') : qKq x h h' := by
  obtain ⟨a1, a2⟩ := a
  refine ⟨by show h'.2.2.2.2.2 = h.2.2.2.2.2; rw [a1], by show h'.2.2.2.1 = h.2.2.2.1; rw [a1], by show h'.2.2.2.2.1 = h.2.2.2.2.1; rw [a1], fun b k _ => by show h'.2.2.1 b k = h.2.2.1 b k; rw [a1], fun b hb _ => a2 b hb, fun b _ _ => by show h'.2.1 b = h.2.1 b; rw [a1]⟩
/-- a piece is the same in h' -/
theorem pcS.qk {x a n : Nat} {R : Nat → Int32} {h h' : HS} (p : pcS h a n R) (k : qKq x h h') (ha : x + 46 < a ∨ (x < a ∧ a + 4 < x + 17)) : pcS h' a n R := by
  obtain ⟨-, k2, k3, k4, k5, -⟩ := k
  have e : ∀ i, i ≤ 4 → hI h' (a + i) = hI h (a + i) := fun i hi => k5 _ (by omega) (by omega)
  have r : ∀ j, hR h' a j = hR h a j := fun j => k4 a j (by omega)
  unfold pcS
  rw [k2, k3, show hI h' a = hI h a from e 0 (by omega), e 1 (by omega), e 2 (by omega), e 3 (by omega), e 4 (by omega), r, r, r, r]
  exact p
/-- the shape of the object x with its world W -/
def kvX (x W : Nat) (h : HS) : Prop := hK h x = 10 ∧ (hR h x 0 = some (x + 1) ∧ hK h (x + 1) = 14 ∧ hN h (x + 1) = 500) ∧ (hR h x 1 = some (x + 2) ∧ kSh (x + 2) h) ∧ (hR h x 6 = some W ∧ wSh W h) ∧ (hR h x 7 = some (x + 12) ∧ dSh (x + 12) h) ∧ (hR h x 8 = some (x + 17) ∧ sSh (x + 17) h) ∧ (hR h x 9 = some (x + 36) ∧ tSh (x + 36) h) ∧ (hR h x 10 = some (x + 47) ∧ ppSh (x + 47) h) ∧ (hR h x 11 = some (x + 49) ∧ pcS h (x + 49) 0 (rPlain 0)) ∧ (W = x + 6 ∨ x + 49 < W) ∧ (x + 49 < hT h ∧ W + 5 < hT h) ∧ pcS h (W + 5) 0 (rPlain 0)
theorem kvX.q {x W : Nat} {h h' : HS} (hx : kvX x W h) (k : qKq x h h') : kvX x W h' := by
  obtain ⟨x0, x1, x2, x3, x4, x5, x6, x7, ⟨x8, x9⟩, xW, ⟨xa, xb⟩, xc⟩ := hx
  have p9 := x9.qk k (Or.inl (by omega))
  have pc := xc.qk k (by omega)
  obtain ⟨k1, k2, k3, k4, -, -⟩ := k
  unfold kvX kSh wSh dSh sSh rSh tSh ppSh
  unfold kSh at x2
  unfold wSh at x3
  unfold dSh at x4
  unfold sSh rSh at x5
  unfold tSh at x6
  unfold ppSh at x7
  have t5 : ∀ k, k ≠ 5 → hR h' (x + 36) k = hR h (x + 36) k := fun k hk => k4 _ _ (by omega)
  have eX : ∀ k, hR h' x k = hR h x k := fun k => k4 _ _ (by omega)
  have e2 : ∀ k, hR h' (x + 2) k = hR h (x + 2) k := fun k => k4 _ _ (by omega)
  have e12 : ∀ k, hR h' (x + 12) k = hR h (x + 12) k := fun k => k4 _ _ (by omega)
  have e17 : ∀ k, hR h' (x + 17) k = hR h (x + 17) k := fun k => k4 _ _ (by omega)
  have e19 : ∀ k, hR h' (x + 17 + 2) k = hR h (x + 17 + 2) k := fun k => k4 _ _ (by omega)
  have e23 : ∀ k, hR h' (x + 17 + 6) k = hR h (x + 17 + 6) k := fun k => k4 _ _ (by omega)
  have e27 : ∀ k, hR h' (x + 17 + 10) k = hR h (x + 17 + 10) k := fun k => k4 _ _ (by omega)
  have e47 : ∀ k, hR h' (x + 47) k = hR h (x + 47) k := fun k => k4 _ _ (by omega)
  have eW : ∀ k, hR h' W k = hR h W k := fun k => k4 _ _ (by omega)
  rw [k1, k2, k3]
  simp only [eX, e2, e12, e17, e19, e23, e27, e47, eW, t5 1 (by omega), t5 2 (by omega), t5 3 (by omega), t5 4 (by omega), t5 8 (by omega), t5 9 (by omega), t5 10 (by omega), t5 11 (by omega), t5 12 (by omega), t5 13 (by omega)]
  exact ⟨x0, x1, x2, x3, x4, x5, x6, x7, ⟨x8, p9⟩, xW, ⟨xa, xb⟩, pc⟩
/-- tests, acts, facts; what facts tell; how many actions are kept, and programs (how many, facts assumed, what they tell) ahead of each, at last as they are -/
abbrev aH : Type := Nat × Nat × (Nat → Nat → Int32)
abbrev aV : Type := (Nat × Nat × Nat) × (Nat → Nat → Int32) × Nat × (Nat → aH)
/-- tape; status, fault, place; the walk; what was printed -/
abbrev aM : Type := (Nat × (Nat → Nat)) × (Int32 × Int32 × Int32) × (Int32 × Int32 × Int32) × Nat × (Nat → Int32)
abbrev vNt (V : aV) : Nat := V.1.1
abbrev vNa (V : aV) : Nat := V.1.2.1
abbrev vNf (V : aV) : Nat := V.1.2.2
abbrev vFR (V : aV) : Nat → Nat → Int32 := V.2.1
abbrev vA (V : aV) : Nat := V.2.2.1
abbrev vHi (V : aV) : Nat → aH := V.2.2.2
abbrev vNp (V : aV) : Nat := (vHi V (vA V)).1
abbrev vS (V : aV) : Nat := (vHi V (vA V)).2.1
abbrev vPR (V : aV) : Nat → Nat → Int32 := (vHi V (vA V)).2.2
/-- a pair of programs, with some facts assumed -/
def vP2 (V : aV) (s : Nat) (r q : Nat) : kP := pP (nI (vNt V)) (nI (vNa V)) (nI s) (vFR V) (vNf V) (vPR V r) (vPR V q)
def vP1 (V : aV) (s : Nat) (R : Nat → Int32) : kP := pP (nI (vNt V)) (nI (vNa V)) (nI s) (vFR V) (vNf V) R (rPlain 0)
/-- what holds of all programs -/
def pOK (nt : Nat) (R : Nat → Int32) : Prop := wt R ≤ 5 ∧ R 0 = nI (wt R) ∧ R 1 &&& allF (nI nt) = R 1 ∧ ∃ d, d ≤ 6 ∧ R 306 = nI d
/-- what holds of all states -/
def vOK (V : aV) : Prop := (vNt V ≤ 3 ∧ vNa V ≤ 3 ∧ vNf V ≤ 2 ∧ vA V ≤ 8) ∧ (∀ i, i ≤ vA V → (vHi V i).1 ≤ 8 ∧ (vHi V i).2.1 < 4 ∧ ∀ k, k < (vHi V i).1 → pOK (vNt V) ((vHi V i).2.2 k)) ∧ (∀ s, s < 4 → wt (fbA (nI s) (vFR V) (vNf V)) ≤ 2) ∧ ∀ f, f < vNf V → wt (vFR V f) ≤ 2
/-- a is a piece that tells R, behind all that is the object's own -/
def okP (x W : Nat) (h : HS) (a : Nat) (R : Nat → Int32) : Prop := (x + 49 < a ∧ W + 5 < a) ∧ (a < hT h ∧ (0 < wt R → a + 4 < hT h)) ∧ pcS h a (wt R) R
/-- b is a piece that tells what facts forbid -/
def okB (x W : Nat) (h : HS) (b : Nat) (R : Nat → Int32) : Prop := (b = W + 5 ∧ wt R = 0 ∨ x + 49 < b ∧ W + 5 < b) ∧ (b < hT h ∧ (0 < wt R → b + 4 < hT h)) ∧ pcS h b (wt R) R
/-- the world -/
def kvW (x W : Nat) (h : HS) (V : aV) (RC : Nat → Nat → Int32) : Prop := (hI h W 0 = nI (vNt V) ∧ hI h W 1 = nI (vNa V) ∧ hI h W 2 = nI (vNp V) ∧ hI h W 3 = nI (vNf V) ∧ hI h W 4 = nI (vS V)) ∧ (∀ k, k < vNp V → ∃ a, hR h (W + 1) k = some a ∧ RC a = vPR V k ∧ okP x W h a (vPR V k) ∧ hI h (W + 2) k = vPR V k 306) ∧ (∀ f, f < vNf V → ∃ b, hR h (W + 3) f = some b ∧ W + 5 < b ∧ x + 49 < b ∧ b < hT h ∧ hK h b = 3 ∧ hI h b 0 = nI (wt (vFR V f))) ∧ ∀ f, f < 4 → ∃ b, (hR h (W + 4) f = some b ∨ hR h (W + 4) f = none ∧ b = W + 5) ∧ okB x W h b (fbA (nI f) (vFR V) (vNf V))
/-- an action (kind, number, piece, layer) led from S to S' -/
def dLk (x W : Nat) (h : HS) (nf : Nat) (RC : Nat → Nat → Int32) (c n l : Int32) (p : Option Nat) (S S' : aH) : Prop :=
  (c = 0 ∧ n = nI S.1 ∧ S'.1 = S.1 + 1 ∧ S'.2.1 = S.2.1 ∧ ∀ k, k < S.1 → S'.2.2 k = S.2.2 k) ∨
  (c = 1 ∧ ∃ q a, n = nI q ∧ q < S.1 ∧ S'.1 + 1 = S.1 ∧ S'.2.1 = S.2.1 ∧ (∀ k, k < q → S'.2.2 k = S.2.2 k) ∧ (∀ k, q ≤ k → k < S'.1 → S'.2.2 k = S.2.2 (k + 1)) ∧ l = S.2.2 q 306 ∧ p = some a ∧ RC a = S.2.2 q ∧ okP x W h a (S.2.2 q)) ∨
  (c = 2 ∧ ∃ f, f < nf ∧ n = nI f ∧ S'.1 = S.1 ∧ (∀ k, k < S.1 → S'.2.2 k = S.2.2 k) ∧ nI S.2.1 = nI S'.2.1 ^^^ 1 <<< (nI f &&& 31))
/-- the deeds -/
def kvD (x W : Nat) (h : HS) (V : aV) (RC : Nat → Nat → Int32) : Prop := hI h (x + 12) 0 = nI (vA V) ∧ ∀ i, i < vA V → (∃ b, hR h (x + 15) i = some b ∧ hK h b = 3 ∧ x + 48 < b ∧ b < hT h) ∧ dLk x W h (vNf V) RC (hI h (x + 13) i) (hI h (x + 14) i) (hI h (x + 16) i) (hR h (x + 15) i) (vHi V i) (vHi V (i + 1))
/-- the table: none, or that of a piece -/
def kvT (x : Nat) (h : HS) (V : aV) (RC : Nat → Nat → Int32) : Prop := hR h (x + 36) 5 = none ∨ ∃ a f, hR h (x + 36) 5 = some a ∧ a < hT h ∧ f < 4 ∧ hI h (x + 36) 6 = nI f ∧ tbO (vP1 V f (RC a)) (fun i => hI h (x + 36 + i))
/-- the search -/
def kvS (x : Nat) (h : HS) : Prop := sId (x + 17) h ∧ ∀ j, j < 3845 → hL h (x + 35) j = 0
/-- tape, status, fault, walk, print -/
def kvM (x : Nat) (h : HS) (M : aM) : Prop := (hI h x 2 = nI M.1.1 ∧ M.1.1 ≤ 500 ∧ ∀ k, k < M.1.1 → M.1.2 k < 256 ∧ hI h (x + 1) k = sb (M.1.2 k)) ∧ (hI h x 3 = M.2.1.1 ∧ hI h x 4 = M.2.1.2.1 ∧ hI h x 5 = M.2.1.2.2) ∧ (hI h x 12 = M.2.2.1.1 ∧ hI h x 13 = M.2.2.1.2.1 ∧ hI h x 14 = M.2.2.1.2.2) ∧ hI h (x + 47) 1 = nI M.2.2.2.1 ∧ M.2.2.2.1 ≤ 7620 ∧ ∀ j, j < M.2.2.2.1 → hI h (x + 48) j = M.2.2.2.2 j
/-- all but the last -/
def K0 (x W : Nat) (h : HS) (V : aV) (RC : Nat → Nat → Int32) : Prop := kvX x W h ∧ vOK V ∧ kvW x W h V RC ∧ kvD x W h V RC ∧ kvT x h V RC ∧ kvS x h
def KV (x : Nat) (h : HS) (V : aV) (M : aM) : Prop := ∃ W RC, K0 x W h V RC ∧ kvM x h M
def mSt (M : aM) (v : Int32) : aM := (M.1, (v, M.2.1.2), M.2.2)
section KVQ
variable {x W : Nat} {h h' : HS} {V : aV} {RC : Nat → Nat → Int32}
theorem okP.qk {a : Nat} {R : Nat → Int32} (p : okP x W h a R) (k : qKq x h h') : okP x W h' a R := by
  obtain ⟨⟨p1, p2⟩, p3, p4⟩ := p
  refine ⟨⟨p1, p2⟩, ?_, p4.qk k (Or.inl (by omega))⟩
  rw [k.1]; exact p3
theorem okB.qk {a : Nat} {R : Nat → Int32} (p : okB x W h a R) (k : qKq x h h') (hW : W = x + 6 ∨ x + 49 < W) : okB x W h' a R := by
  obtain ⟨p1, p3, p4⟩ := p
  refine ⟨p1, ?_, p4.qk k (by omega)⟩
  rw [k.1]; exact p3
theorem kvW.q (w : kvW x W h V RC) (k : qKq x h h') (hW : W = x + 6 ∨ x + 49 < W) : kvW x W h' V RC := by
  obtain ⟨w1, w2, w3, w4⟩ := w
  have eW : hI h' W = hI h W := k.2.2.2.2.1 W (by omega) (by omega)
  have e2 : hI h' (W + 2) = hI h (W + 2) := k.2.2.2.2.1 _ (by omega) (by omega)
  refine ⟨by rw [eW]; exact w1, fun i hi => ?_, fun f hf => ?_, fun f hf => ?_⟩
  · obtain ⟨a, a1, a2, a3, a4⟩ := w2 i hi
    exact ⟨a, (k.2.2.2.1 _ _ (by omega)).trans a1, a2, a3.qk k, by rw [e2]; exact a4⟩
  · obtain ⟨b, b1, b2, b3, b4, b5, b6⟩ := w3 f hf
    exact ⟨b, (k.2.2.2.1 _ _ (by omega)).trans b1, b2, b3, by rw [k.1]; exact b4, by rw [k.2.1]; exact b5, by rw [k.2.2.2.2.1 b (by omega) (by omega)]; exact b6⟩
  · obtain ⟨b, b1, b2⟩ := w4 f hf
    exact ⟨b, by rw [k.2.2.2.1 (W + 4) f (by omega)]; exact b1, b2.qk k hW⟩
theorem kvD.q (d : kvD x W h V RC) (k : qKq x h h') : kvD x W h' V RC := by
  obtain ⟨d1, d2⟩ := d
  have e : ∀ i, i ≤ 4 → hI h' (x + 12 + i) = hI h (x + 12 + i) := fun i hi => k.2.2.2.2.1 _ (by omega) (by omega)
  have r : ∀ j, hR h' (x + 15) j = hR h (x + 15) j := fun j => k.2.2.2.1 _ _ (by omega)
  refine ⟨by rw [show hI h' (x + 12) = hI h (x + 12) from e 0 (by omega)]; exact d1, fun i hi => ?_⟩
  obtain ⟨⟨b, b1, b2, b3, b4⟩, l⟩ := d2 i hi
  rw [r, show hI h' (x + 13) = hI h (x + 13) from e 1 (by omega), show hI h' (x + 14) = hI h (x + 14) from e 2 (by omega), show hI h' (x + 16) = hI h (x + 16) from e 4 (by omega)]
  refine ⟨⟨b, b1, by rw [k.2.1]; exact b2, b3, by rw [k.1]; exact b4⟩, ?_⟩
  rcases l with l | ⟨l1, q, a, l2, l3, l4, l5, l6, l7, l8, l9, l10, l11⟩ | l
  · exact Or.inl l
  · exact Or.inr (Or.inl ⟨l1, q, a, l2, l3, l4, l5, l6, l7, l8, l9, l10, l11.qk k⟩)
  · exact Or.inr (Or.inr l)
/-- behind a question -/
theorem K0.qq (K : K0 x W h V RC) (k : qKq x h h') (t : kvT x h' V RC) (s : kvS x h') : K0 x W h' V RC := ⟨K.1.q k, K.2.1, K.2.2.1.q k K.1.2.2.2.2.2.2.2.2.2.1, K.2.2.2.1.q k, t, s⟩
theorem K0.q (K : K0 x W h V RC) (k : qKp x h h') (t : kvT x h' V RC) (s : kvS x h') : K0 x W h' V RC := K.qq k.w t s
theorem K0.xi (K : K0 x W h V RC) (a : xIn x h h') : K0 x W h' V RC := by
  have e2 := a.1
  obtain ⟨-, -, -, -, t, s1, s2⟩ := id K
  have k := a.w
  refine K.qq k ?_ ⟨?_, fun j hj => by show h'.2.1 (x + 35) j = 0; rw [e2]; exact s2 j hj⟩
  · rcases t with t | ⟨b, f, t1, t2, t3, t4, t5⟩
    · exact Or.inl (by show h'.2.2.1 (x + 36) 5 = none; rw [e2]; exact t)
    · refine Or.inr ⟨b, f, by show h'.2.2.1 (x + 36) 5 = some b; rw [e2]; exact t1, by rw [k.1]; exact t2, t3, by rw [a.2 _ (by omega)]; exact t4, ?_⟩
      rw [show (fun i => hI h' (x + 36 + i)) = fun i => hI h (x + 36 + i) from funext fun i => a.2 _ (by omega)]
      exact t5
  · unfold sId
    rw [a.2 _ (by omega), a.2 _ (by omega), a.2 _ (by omega)]
    exact s1
theorem kvM.q {M : aM} (m : kvM x h M) (k : qKp x h h') {v : Int32} (h3 : hI h' x 3 = v) : kvM x h' (mSt M v) := by
  obtain ⟨⟨m1, m2, m3⟩, ⟨m4, m5, m6⟩, ⟨m7, m8, m9⟩, ma, mb, mc⟩ := m
  have e := k.2.2.2.2.2.1
  have e1 : hI h' (x + 1) = hI h (x + 1) := k.2.2.2.2.1 _ (by omega) (by omega)
  have e2 : hI h' (x + 47) = hI h (x + 47) := k.2.2.2.2.1 _ (by omega) (by omega)
  have e3 : hI h' (x + 48) = hI h (x + 48) := k.2.2.2.2.1 _ (by omega) (by omega)
  refine ⟨⟨by rw [e _ (by omega)]; exact m1, m2, by rw [e1]; exact m3⟩, ⟨h3, by rw [e _ (by omega)]; exact m5, by rw [e _ (by omega)]; exact m6⟩, ⟨by rw [e _ (by omega)]; exact m7, by rw [e _ (by omega)]; exact m8, by rw [e _ (by omega)]; exact m9⟩, by rw [e2]; exact ma, mb, by rw [e3]; exact mc⟩
/-- a question that answers with status v -/
theorem K0.st (K : K0 x W h V RC) {M : aM} {h1 : HS} (K1 : K0 x W h1 V RC) (k : qKp x h h1) (m : kvM x h M) (v : Int32) : KV x (sI h1 x 3 v) V (mSt M v) := by
  have k2 := qKp_st x h1 v
  have e : ∀ b, b ≠ x → hI (sI h1 x 3 v) b = hI h1 b := fun b hb => hI_sI_ne hb
  obtain ⟨-, -, -, -, t, s1, s2⟩ := id K1
  refine ⟨W, RC, K1.q k2 ?_ ⟨?_, s2⟩, m.q (k.tr k2) (by rw [hI_sI, if_pos ⟨rfl, rfl⟩])⟩
  · rcases t with t | ⟨a, f, t1, t2, t3, t4, t5⟩
    · exact Or.inl t
    · refine Or.inr ⟨a, f, t1, t2, t3, by rw [e _ (by omega)]; exact t4, ?_⟩
      rw [show (fun i => hI (sI h1 x 3 v) (x + 36 + i)) = fun i => hI h1 (x + 36 + i) from funext fun i => e _ (by omega)]
      exact t5
  · unfold sId
    rw [e _ (by omega), e _ (by omega), e _ (by omega)]
    exact s1
end KVQ
