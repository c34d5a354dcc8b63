/-! What a text tells: sums, rows, ones, without the heap -/
/-- weight and record -/
abbrev pR : Type := Nat × (Nat → Int32)
/-- a fault (its kind, the token that it is told at), or the token behind and what was told -/
abbrev pRz : Type := (Nat × Nat) ⊕ (Nat × pR)
/-- codes, words, what names tell, all atoms -/
abbrev pE : Type := (Nat → Nat) × (Nat → Nat) × (Nat → Option pR) × Int32
def pBad (E : pE) (k j : Nat) : pRz := .inl (if E.1 j = 1 then 1 else k, j)
def pThen (r : Option pRz) (k : Nat → pR → Option pRz) : Option pRz :=
  match r with
  | none => none
  | some (.inl x) => some (.inl x)
  | some (.inr (j, a)) => k j a
abbrev pOpn (c : Nat) : Prop := c = 33 ∨ c = 40 ∨ c = 294 ∨ c = 24388997
abbrev pBeg (c : Nat) : Prop := c = 48 ∨ c = 49 ∨ c = 2 ∨ pOpn c
/-- md: 0 a base, 1 stars behind acc, 2 a one, 3 the rest of a row, 4 a sum, 5 the rest of a sum, 6 a row -/
def pz (E : pE) : Nat → Nat → Nat → Nat → pR → Option pRz
  | 0, _, _, _, _ => none
  | f + 1, md, o, j, acc =>
    if md = 0 then
      if E.1 j = 48 then some (.inr (j + 1, (0, rPlain 0)))
      else if E.1 j = 49 then some (.inr (j + 1, (0, rPlain E.2.2.2)))
      else if E.1 j = 2 then (match E.2.2.1 (E.2.1 j) with | none => some (pBad E 3 j) | some a => some (.inr (j + 1, a)))
      else if ¬ pOpn (E.1 j) then some (pBad E 2 j)
      else if o = 4 then some (pBad E 4 j)
      else if E.1 j = 33 then
        pThen (pz E f 0 (o + 1) (j + 1) acc) (fun j1 a => if a.1 = 0 then some (.inr (j1, (0, rPlain (E.2.2.2 &&& (a.2 1 ^^^ -1))))) else some (.inl (5, j1)))
      else if E.1 j = 40 then
        pThen (pz E f 4 (o + 1) (j + 1) acc) (fun j1 a => if E.1 j1 = 41 then some (.inr (j1 + 1, a)) else some (pBad E 2 j1))
      else if E.1 j = 294 then
        pThen (pz E f 4 (o + 1) (j + 1) acc) (fun j1 t => if t.1 ≠ 0 then some (.inl (5, j1)) else if E.1 j1 ≠ 663726 then some (pBad E 2 j1) else
          pThen (pz E f 4 (o + 1) (j1 + 1) acc) (fun j2 y => if E.1 j2 ≠ 176741 then some (pBad E 2 j2) else
            pThen (pz E f 4 (o + 1) (j2 + 1) acc) (fun j3 n => if E.1 j3 ≠ 5572 then some (pBad E 2 j3) else
              some (.inr (j3 + 1, (y.1 + n.1, rSum (rBegins y.2 y.1 (t.2 1)) (rBegins n.2 n.1 (E.2.2.2 &&& (t.2 1 ^^^ -1))) y.1 n.1))))))
      else
        pThen (pz E f 4 (o + 1) (j + 1) acc) (fun j1 t => if t.1 ≠ 0 then some (.inl (5, j1)) else if E.1 j1 ≠ 143 then some (pBad E 2 j1) else
          pThen (pz E f 4 (o + 1) (j1 + 1) acc) (fun j2 y => if E.1 j2 ≠ 5572 then some (pBad E 2 j2) else
            some (.inr (j2 + 1, (y.1, rFinish (rStar (rBegins y.2 y.1 (t.2 1)) y.1 E.2.2.2) y.1 (E.2.2.2 &&& (t.2 1 ^^^ -1)))))))
    else if md = 1 then
      if E.1 j = 42 then pz E f 1 o (j + 1) (acc.1, rStar acc.2 acc.1 E.2.2.2) else some (.inr (j, acc))
    else if md = 2 then pThen (pz E f 0 o j acc) (fun j1 a => pz E f 1 o j1 a)
    else if md = 3 then
      if pBeg (E.1 j) then pThen (pz E f 2 o j acc) (fun j1 a => pz E f 3 o j1 (acc.1 + a.1, rJoin acc.2 a.2 acc.1 a.1)) else some (.inr (j, acc))
    else if md = 4 then pThen (pz E f 6 o j acc) (fun j1 a => pz E f 5 o j1 a)
    else if md = 5 then
      if E.1 j = 43 then pThen (pz E f 6 o (j + 1) acc) (fun j1 a => pz E f 5 o j1 (acc.1 + a.1, rSum acc.2 a.2 acc.1 a.1)) else some (.inr (j, acc))
    else pThen (pz E f 2 o j acc) (fun j1 a => pz E f 3 o j1 a)
/-- where a result ends -/
def pEn : pRz → Nat
  | .inl x => x.2
  | .inr x => x.1
/-- a record that a text tells: its weight, no layer, nothing but atoms that are there -/
def okT (al : Int32) (a : pR) : Prop := a.2 0 = nI a.1 ∧ a.2 306 = 0 ∧ (a.1 ≤ 6 → a.2 1 &&& al = a.2 1 ∧ ∀ p, p < a.1 → a.2 (18 + p) &&& al = a.2 (18 + p))
theorem okT.plain {al e : Int32} (h : e &&& al = e) : okT al (0, rPlain e) := by
  refine ⟨rfl, rfl, fun _ => ⟨?_, fun p hp => absurd hp (Nat.not_lt_zero _)⟩⟩
  show rPlain e 1 &&& al = rPlain e 1
  exact h
theorem and_z (al : Int32) : 0 &&& al = 0 := by
  apply Int32.toBitVec_inj.1
  simp
theorem and_s (al : Int32) : al &&& al = al := by
  apply Int32.toBitVec_inj.1
  simp
theorem and_l (x y al : Int32) (h : x &&& al = x) : (x &&& y) &&& al = x &&& y := by
  rw [Int32.and_assoc, Int32.and_comm y al, ← Int32.and_assoc, h]
theorem or_l {x y al : Int32} (h : x &&& al = x) (h2 : y &&& al = y) : (x ||| y) &&& al = x ||| y := by
  have e : (x ||| y) &&& al = (x &&& al) ||| (y &&& al) := by
    apply Int32.toBitVec_inj.1
    show (x.toBitVec ||| y.toBitVec) &&& al.toBitVec = (x.toBitVec &&& al.toBitVec) ||| (y.toBitVec &&& al.toBitVec)
    apply BitVec.eq_of_getLsbD_eq
    intro i _
    simp only [BitVec.getLsbD_and, BitVec.getLsbD_or]
    cases x.toBitVec.getLsbD i <;> cases y.toBitVec.getLsbD i <;> cases al.toBitVec.getLsbD i <;> rfl
  rw [e, h, h2]
theorem okT.begins {al : Int32} {a : pR} (h : okT al a) (e : Int32) : okT al (a.1, rBegins a.2 a.1 e) := by
  obtain ⟨h0, h1, h2⟩ := h
  refine ⟨rBegins_0.trans h0, ?_, fun q => ?_⟩
  · show rBegins a.2 a.1 e 306 = 0
    unfold rBegins bgP
    by_cases q : a.1 ≤ 16
    · rw [if_pos q, if_neg (by omega), if_neg (by omega)]; exact h1
    · rw [if_neg q]; exact h1
  · have q6 : a.1 ≤ 6 := q
    obtain ⟨g1, g2⟩ := h2 q6
    refine ⟨?_, fun p hp => ?_⟩
    · show rBegins a.2 a.1 e 1 &&& al = rBegins a.2 a.1 e 1
      unfold rBegins bgP
      rw [if_pos (by omega), if_pos rfl]
      exact and_l _ _ _ g1
    · have hp' : p < a.1 := hp
      show rBegins a.2 a.1 e (18 + p) &&& al = rBegins a.2 a.1 e (18 + p)
      unfold rBegins bgP
      rw [if_pos (by omega), if_neg (by omega), if_pos (by omega)]
      exact and_l _ _ _ (g2 p hp')
theorem okT.finish {al : Int32} {a : pR} (h : okT al a) (e : Int32) : okT al (a.1, rFinish a.2 a.1 e) := by
  obtain ⟨h0, h1, h2⟩ := h
  refine ⟨rFinish_0.trans h0, ?_, fun q => ?_⟩
  · show rFinish a.2 a.1 e 306 = 0
    unfold rFinish bgP
    by_cases q : a.1 ≤ 16
    · rw [if_pos q, if_neg (by omega), if_neg (by omega)]; exact h1
    · rw [if_neg q]; exact h1
  · have q6 : a.1 ≤ 6 := q
    obtain ⟨g1, g2⟩ := h2 q6
    refine ⟨?_, fun p hp => ?_⟩
    · show rFinish a.2 a.1 e 1 &&& al = rFinish a.2 a.1 e 1
      unfold rFinish bgP
      rw [if_pos (by omega), if_pos rfl]
      exact and_l _ _ _ g1
    · have hp' : p < a.1 := hp
      show rFinish a.2 a.1 e (18 + p) &&& al = rFinish a.2 a.1 e (18 + p)
      unfold rFinish bgP
      rw [if_pos (by omega), if_neg (by omega), if_neg (by omega)]
      exact g2 p hp'
theorem okT.star {al : Int32} {a : pR} (h : okT al a) : okT al (a.1, rStar a.2 a.1 al) := by
  obtain ⟨h0, h1, h2⟩ := h
  refine ⟨rStar_0.trans h0, ?_, fun q => ?_⟩
  · show rStar a.2 a.1 al 306 = 0
    unfold rStar stP
    by_cases q : a.1 ≤ 16
    · rw [if_pos q, if_neg (by omega), if_neg (by omega)]; exact h1
    · rw [if_neg q]; exact h1
  · have q6 : a.1 ≤ 6 := q
    obtain ⟨g1, g2⟩ := h2 q6
    refine ⟨?_, fun p hp => ?_⟩
    · show rStar a.2 a.1 al 1 &&& al = rStar a.2 a.1 al 1
      unfold rStar stP
      rw [if_pos (by omega), if_pos rfl]
      exact and_s al
    · have hp' : p < a.1 := hp
      show rStar a.2 a.1 al (18 + p) &&& al = rStar a.2 a.1 al (18 + p)
      unfold rStar stP
      rw [if_pos (by omega), if_neg (by omega), if_neg (by omega)]
      exact g2 p hp'
theorem rBes_306 (X Y : Nat → Int32) (a b : Nat) : rBes X Y a b 306 = 0 := by
  unfold rBes
  split
  · unfold besF; rw [if_neg (by omega), if_neg (by omega), if_neg (by omega), if_neg (by omega), if_neg (by omega), if_neg (by omega)]
  · rfl
theorem rBes_18 (X Y : Nat → Int32) {a b p : Nat} (h : a + b ≤ 16) (hp : p < a + b) : rBes X Y a b (18 + p) = if p < a then X (18 + p) else Y (18 + (p - a)) := by
  unfold rBes
  rw [if_pos h]
  unfold besF
  rw [if_neg (by omega), if_neg (by omega), if_neg (by omega), if_pos (by omega), if_pos (by omega), Nat.add_sub_cancel_left]
  rfl
theorem okT.sum {al : Int32} {a b : pR} (h : okT al a) (g : okT al b) : okT al (a.1 + b.1, rSum a.2 b.2 a.1 b.1) := by
  refine ⟨rSum_0, ?_, fun q => ?_⟩
  · show rSum a.2 b.2 a.1 b.1 306 = 0
    unfold rSum
    split
    · rw [upd, if_neg (by omega)]; exact rBes_306 _ _ _ _
    · exact rBes_306 _ _ _ _
  · have q6 : a.1 + b.1 ≤ 6 := q
    obtain ⟨a1, a2⟩ := h.2.2 (by omega)
    obtain ⟨b1, b2⟩ := g.2.2 (by omega)
    refine ⟨?_, fun p hp => ?_⟩
    · show rSum a.2 b.2 a.1 b.1 1 &&& al = rSum a.2 b.2 a.1 b.1 1
      unfold rSum
      rw [if_pos (by omega), upd, if_pos rfl]
      exact or_l a1 b1
    · have hp' : p < a.1 + b.1 := hp
      show rSum a.2 b.2 a.1 b.1 (18 + p) &&& al = rSum a.2 b.2 a.1 b.1 (18 + p)
      unfold rSum
      rw [if_pos (by omega), upd, if_neg (by omega), rBes_18 _ _ (by omega) hp']
      split
      · exact a2 p (by assumption)
      · exact b2 _ (by omega)
theorem rJoin_0' (X Y : Nat → Int32) (a b : Nat) : rJoin X Y a b 0 = nI (a + b) := by
  unfold rJoin
  by_cases q : a + b ≤ 16
  · rw [if_pos q, joQ, if_neg (by omega), joP, if_neg (by omega), if_neg (by omega), if_neg (by omega), rBes, if_pos q, besF, if_pos rfl]
  · rw [if_neg q, rBes, if_neg q, upd, if_pos rfl]
theorem okT.join {al : Int32} {a b : pR} (h : okT al a) (g : okT al b) : okT al (a.1 + b.1, rJoin a.2 b.2 a.1 b.1) := by
  refine ⟨rJoin_0' _ _ _ _, ?_, fun q => ?_⟩
  · show rJoin a.2 b.2 a.1 b.1 306 = 0
    unfold rJoin
    by_cases q : a.1 + b.1 ≤ 16
    · rw [if_pos q, joQ, if_neg (by omega), joP, if_neg (by omega), if_neg (by omega), if_neg (by omega)]
      exact rBes_306 _ _ _ _
    · rw [if_neg q]
      exact rBes_306 _ _ _ _
  · have q6 : a.1 + b.1 ≤ 6 := q
    obtain ⟨a1, a2⟩ := h.2.2 (by omega)
    obtain ⟨b1, b2⟩ := g.2.2 (by omega)
    refine ⟨?_, fun p hp => ?_⟩
    · show rJoin a.2 b.2 a.1 b.1 1 &&& al = rJoin a.2 b.2 a.1 b.1 1
      unfold rJoin
      rw [if_pos (by omega), joQ, if_neg (by omega), joP, if_pos rfl]
      exact and_l _ _ _ a1
    · have hp' : p < a.1 + b.1 := hp
      show rJoin a.2 b.2 a.1 b.1 (18 + p) &&& al = rJoin a.2 b.2 a.1 b.1 (18 + p)
      unfold rJoin
      rw [if_pos (by omega), joQ]
      by_cases e : a.1 ≤ p
      · rw [if_pos (by omega)]
        exact and_l _ _ _ a1
      · rw [if_neg (by omega), joP, if_neg (by omega), if_neg (by omega), if_neg (by omega), rBes_18 _ _ (by omega) hp', if_pos (by omega)]
        exact a2 p (by omega)
/-- whenever a token is no end there is one behind it -/
def pTok (E : pE) (c : Nat) : Prop := ∀ j, j < c → E.1 j ≠ 0 → j + 1 < c
def pMs (c md j : Nat) : Nat := 8 * (c - j) + (if md = 0 then 0 else if md = 1 then 1 else if md = 2 then 1 else if md = 3 then 2 else if md = 4 then 3 else if md = 5 then 3 else 2)
/-- what a result keeps to -/
def pOk (E : pE) (c md j : Nat) (acc : pR) (r : pRz) : Prop :=
  match r with
  | .inl x => j ≤ x.2 ∧ x.2 < c ∧ x.1 ≠ 0
  | .inr x => j ≤ x.1 ∧ x.1 < c ∧ (md = 0 ∨ md = 2 ∨ md = 4 ∨ md = 6 → j < x.1) ∧ okT E.2.2.2 x.2 ∧ x.2.1 ≤ (if md = 1 ∨ md = 3 ∨ md = 5 then acc.1 else 0) + 5 * (x.1 - j)
theorem pBad_ok {E : pE} {c md j j0 k : Nat} {acc : pR} (h0 : j0 ≤ j) (hj : j < c) (hk : k ≠ 0) : pOk E c md j0 acc (pBad E k j) := by
  refine ⟨h0, hj, ?_⟩
  show (if E.1 j = 1 then 1 else k) ≠ 0
  split
  · omega
  · exact hk
/-- a step of two -/
theorem pThen_ok {E : pE} {c md md' j j0 : Nat} {acc acc' : pR} {r : Option pRz} {k : Nat → pR → Option pRz} (h0 : j0 ≤ j) (hr : ∃ x, r = some x ∧ pOk E c md' j acc' x) (hk : ∀ j1 a, pOk E c md' j acc' (.inr (j1, a)) → ∃ x, k j1 a = some x ∧ pOk E c md j0 acc x) : ∃ x, pThen r k = some x ∧ pOk E c md j0 acc x := by
  obtain ⟨x, rfl, hx⟩ := hr
  rcases x with x | ⟨j1, a⟩
  · exact ⟨.inl x, rfl, Nat.le_trans h0 hx.1, hx.2⟩
  · exact hk j1 a hx
theorem pz_tot {E : pE} {c : Nat} (ht : pTok E c) (hnm : ∀ w a, E.2.2.1 w = some a → a.1 ≤ 5 ∧ okT E.2.2.2 a) : ∀ f md o j acc, md ≤ 6 → j < c → pMs c md j < f → (md = 1 ∨ md = 3 ∨ md = 5 → okT E.2.2.2 acc) → ∃ r, pz E f md o j acc = some r ∧ pOk E c md j acc r := by
  intro f
  induction f with
  | zero => intro md o j acc _ _ h _; exact absurd h (Nat.not_lt_zero _)
  | succ f ih =>
    intro md o j acc hmd hj hf hacc
    have hb : ∀ o j acc, j < c → 8 * (c - j) < f → ∃ r, pz E f 0 o j acc = some r ∧ pOk E c 0 j acc r := fun o j acc h1 h2 => ih 0 o j acc (by omega) h1 h2 (fun q => by omega)
    have hs : ∀ o j acc, j < c → 8 * (c - j) + 3 < f → ∃ r, pz E f 4 o j acc = some r ∧ pOk E c 4 j acc r := fun o j acc h1 h2 => ih 4 o j acc (by omega) h1 h2 (fun q => by omega)
    unfold pz
    by_cases m0 : md = 0
    · subst m0
      have hf' : 8 * (c - j) ≤ f := by have : pMs c 0 j = 8 * (c - j) := rfl; omega
      rw [if_pos rfl]
      by_cases e48 : E.1 j = 48
      · rw [if_pos e48]
        have := ht j hj (by omega)
        exact ⟨_, rfl, by show j ≤ j + 1; omega, this, fun _ => by show j < j + 1; omega, okT.plain (and_z _), Nat.zero_le _⟩
      rw [if_neg e48]
      by_cases e49 : E.1 j = 49
      · rw [if_pos e49]
        have := ht j hj (by omega)
        exact ⟨_, rfl, by show j ≤ j + 1; omega, this, fun _ => by show j < j + 1; omega, okT.plain (and_s _), Nat.zero_le _⟩
      rw [if_neg e49]
      by_cases e2 : E.1 j = 2
      · rw [if_pos e2]
        have := ht j hj (by omega)
        cases hn : E.2.2.1 (E.2.1 j) with
        | none => exact ⟨_, rfl, pBad_ok (Nat.le_refl _) hj (by omega)⟩
        | some a =>
          obtain ⟨a1, a2⟩ := hnm _ _ hn
          refine ⟨_, rfl, by show j ≤ j + 1; omega, this, fun _ => by show j < j + 1; omega, a2, ?_⟩
          show a.1 ≤ 0 + 5 * (j + 1 - j)
          omega
      rw [if_neg e2]
      by_cases eo : pOpn (E.1 j)
      · rw [if_neg (fun q => q eo)]
        have hj1 := ht j hj (by omega)
        by_cases e4 : o = 4
        · rw [if_pos e4]
          exact ⟨_, rfl, pBad_ok (Nat.le_refl _) hj (by omega)⟩
        rw [if_neg e4]
        by_cases e33 : E.1 j = 33
        · rw [if_pos e33]
          refine pThen_ok (by omega) (hb _ (j + 1) acc hj1 (by omega)) (fun j1 a hx => ?_)
          obtain ⟨x1, x2, x3, x4, x5⟩ := hx
          have x3' := x3 (Or.inl rfl)
          dsimp only at x1 x2 x3'
          by_cases ea : a.1 = 0
          · rw [if_pos ea]
            exact ⟨_, rfl, by show j ≤ j1; omega, x2, fun _ => by show j < j1; omega, okT.plain (and_l _ _ _ (and_s _)), Nat.zero_le _⟩
          · rw [if_neg ea]
            exact ⟨_, rfl, by show j ≤ j1; omega, x2, by show 5 ≠ 0; omega⟩
        rw [if_neg e33]
        by_cases e40 : E.1 j = 40
        · rw [if_pos e40]
          refine pThen_ok (by omega) (hs _ (j + 1) acc hj1 (by omega)) (fun j1 a hx => ?_)
          obtain ⟨x1, x2, x3, x4, x5⟩ := hx
          have x3' := x3 (Or.inr (Or.inr (Or.inl rfl)))
          dsimp only at x1 x2 x3' x4 x5
          rw [if_neg (by omega)] at x5
          by_cases ea : E.1 j1 = 41
          · rw [if_pos ea]
            have := ht j1 x2 (by omega)
            refine ⟨_, rfl, by show j ≤ j1 + 1; omega, this, fun _ => by show j < j1 + 1; omega, x4, ?_⟩
            show a.1 ≤ 0 + 5 * (j1 + 1 - j)
            omega
          · rw [if_neg ea]
            exact ⟨_, rfl, pBad_ok (by omega) x2 (by omega)⟩
        rw [if_neg e40]
        by_cases eif : E.1 j = 294
        · rw [if_pos eif]
          refine pThen_ok (by omega) (hs _ (j + 1) acc hj1 (by omega)) (fun j1 t hx => ?_)
          obtain ⟨x1, x2, x3, x4, x5⟩ := hx
          have x3' := x3 (Or.inr (Or.inr (Or.inl rfl)))
          dsimp only at x1 x2 x3' x4 x5
          by_cases et : t.1 = 0
          · rw [if_neg (fun q => q et)]
            by_cases ec : E.1 j1 = 663726
            · rw [if_neg (fun q => q ec)]
              have hj2 := ht j1 x2 (by omega)
              refine pThen_ok (by omega) (hs _ (j1 + 1) acc hj2 (by omega)) (fun j2 y hy => ?_)
              obtain ⟨y1, y2, y3, y4, y5⟩ := hy
              have y3' := y3 (Or.inr (Or.inr (Or.inl rfl)))
              dsimp only at y1 y2 y3' y4 y5
              rw [if_neg (by omega)] at y5
              by_cases ed : E.1 j2 = 176741
              · rw [if_neg (fun q => q ed)]
                have hj3 := ht j2 y2 (by omega)
                refine pThen_ok (by omega) (hs _ (j2 + 1) acc hj3 (by omega)) (fun j3 n hn => ?_)
                obtain ⟨n1, n2, n3, n4, n5⟩ := hn
                have n3' := n3 (Or.inr (Or.inr (Or.inl rfl)))
                dsimp only at n1 n2 n3' n4 n5
                rw [if_neg (by omega)] at n5
                by_cases ee : E.1 j3 = 5572
                · rw [if_neg (fun q => q ee)]
                  have := ht j3 n2 (by omega)
                  refine ⟨_, rfl, by show j ≤ j3 + 1; omega, this, fun _ => by show j < j3 + 1; omega, (y4.begins _).sum (n4.begins _), ?_⟩
                  show y.1 + n.1 ≤ 0 + 5 * (j3 + 1 - j)
                  omega
                · rw [if_pos ee]
                  exact ⟨_, rfl, pBad_ok (by omega) n2 (by omega)⟩
              · rw [if_pos ed]
                exact ⟨_, rfl, pBad_ok (by omega) y2 (by omega)⟩
            · rw [if_pos ec]
              exact ⟨_, rfl, pBad_ok (by omega) x2 (by omega)⟩
          · rw [if_pos et]
            exact ⟨_, rfl, by show j ≤ j1; omega, x2, by show 5 ≠ 0; omega⟩
        · rw [if_neg eif]
          refine pThen_ok (by omega) (hs _ (j + 1) acc hj1 (by omega)) (fun j1 t hx => ?_)
          obtain ⟨x1, x2, x3, x4, x5⟩ := hx
          have x3' := x3 (Or.inr (Or.inr (Or.inl rfl)))
          dsimp only at x1 x2 x3' x4 x5
          by_cases et : t.1 = 0
          · rw [if_neg (fun q => q et)]
            by_cases ec : E.1 j1 = 143
            · rw [if_neg (fun q => q ec)]
              have hj2 := ht j1 x2 (by omega)
              refine pThen_ok (by omega) (hs _ (j1 + 1) acc hj2 (by omega)) (fun j2 y hy => ?_)
              obtain ⟨y1, y2, y3, y4, y5⟩ := hy
              have y3' := y3 (Or.inr (Or.inr (Or.inl rfl)))
              dsimp only at y1 y2 y3' y4 y5
              rw [if_neg (by omega)] at y5
              by_cases ee : E.1 j2 = 5572
              · rw [if_neg (fun q => q ee)]
                have := ht j2 y2 (by omega)
                refine ⟨_, rfl, by show j ≤ j2 + 1; omega, this, fun _ => by show j < j2 + 1; omega, ((y4.begins _).star).finish _, ?_⟩
                show y.1 ≤ 0 + 5 * (j2 + 1 - j)
                omega
              · rw [if_pos ee]
                exact ⟨_, rfl, pBad_ok (by omega) y2 (by omega)⟩
            · rw [if_pos ec]
              exact ⟨_, rfl, pBad_ok (by omega) x2 (by omega)⟩
          · rw [if_pos et]
            exact ⟨_, rfl, by show j ≤ j1; omega, x2, by show 5 ≠ 0; omega⟩
      · rw [if_pos eo]
        exact ⟨_, rfl, pBad_ok (Nat.le_refl _) hj (by omega)⟩
    rw [if_neg m0]
    by_cases m1 : md = 1
    · subst m1
      have hf' : 8 * (c - j) + 1 ≤ f := by have : pMs c 1 j = 8 * (c - j) + 1 := rfl; omega
      have ha := hacc (Or.inl rfl)
      rw [if_pos rfl]
      by_cases e : E.1 j = 42
      · rw [if_pos e]
        have hj1 := ht j hj (by omega)
        obtain ⟨r, hr, ho⟩ := ih 1 o (j + 1) (acc.1, rStar acc.2 acc.1 E.2.2.2) (by omega) hj1 (by show 8 * (c - (j + 1)) + 1 < f; omega) (fun _ => ha.star)
        refine ⟨r, hr, ?_⟩
        rcases r with x | ⟨j1, a⟩
        · exact ⟨by have := ho.1; omega, ho.2⟩
        · obtain ⟨x1, x2, x3, x4, x5⟩ := ho
          dsimp only at x1 x2 x5
          refine ⟨by show j ≤ j1; omega, x2, fun q => by omega, x4, ?_⟩
          show a.1 ≤ acc.1 + 5 * (j1 - j)
          have x5' : a.1 ≤ acc.1 + 5 * (j1 - (j + 1)) := x5
          omega
      · rw [if_neg e]
        exact ⟨_, rfl, Nat.le_refl _, hj, fun q => by omega, ha, Nat.le_add_right _ _⟩
    rw [if_neg m1]
    by_cases m2 : md = 2
    · subst m2
      have hf' : 8 * (c - j) + 1 ≤ f := by have : pMs c 2 j = 8 * (c - j) + 1 := rfl; omega
      rw [if_pos rfl]
      refine pThen_ok (Nat.le_refl _) (hb o j acc hj (by omega)) (fun j1 a hx => ?_)
      obtain ⟨x1, x2, x3, x4, x5⟩ := hx
      have x3' := x3 (Or.inl rfl)
      dsimp only at x1 x2 x3' x4 x5
      rw [if_neg (by omega)] at x5
      obtain ⟨r, hr, ho⟩ := ih 1 o j1 a (by omega) x2 (by show 8 * (c - j1) + 1 < f; omega) (fun _ => x4)
      refine ⟨r, hr, ?_⟩
      rcases r with x | ⟨j2, b⟩
      · exact ⟨by have := ho.1; omega, ho.2⟩
      · obtain ⟨y1, y2, y3, y4, y5⟩ := ho
        dsimp only at y1 y2
        refine ⟨by show j ≤ j2; omega, y2, fun _ => by show j < j2; omega, y4, ?_⟩
        have y5' : b.1 ≤ a.1 + 5 * (j2 - j1) := y5
        show b.1 ≤ 0 + 5 * (j2 - j)
        omega
    rw [if_neg m2]
    by_cases m3 : md = 3
    · subst m3
      have hf' : 8 * (c - j) + 2 ≤ f := by have : pMs c 3 j = 8 * (c - j) + 2 := rfl; omega
      have ha := hacc (Or.inr (Or.inl rfl))
      rw [if_pos rfl]
      by_cases e : pBeg (E.1 j)
      · rw [if_pos e]
        refine pThen_ok (Nat.le_refl _) (ih 2 o j acc (by omega) hj (by show 8 * (c - j) + 1 < f; omega) (fun q => by omega)) (fun j1 a hx => ?_)
        obtain ⟨x1, x2, x3, x4, x5⟩ := hx
        have x3' := x3 (Or.inr (Or.inl rfl))
        dsimp only at x1 x2 x3' x4 x5
        rw [if_neg (by omega)] at x5
        obtain ⟨r, hr, ho⟩ := ih 3 o j1 (acc.1 + a.1, rJoin acc.2 a.2 acc.1 a.1) (by omega) x2 (by show 8 * (c - j1) + 2 < f; omega) (fun _ => ha.join x4)
        refine ⟨r, hr, ?_⟩
        rcases r with x | ⟨j2, b⟩
        · exact ⟨by have := ho.1; omega, ho.2⟩
        · obtain ⟨y1, y2, y3, y4, y5⟩ := ho
          dsimp only at y1 y2
          refine ⟨by show j ≤ j2; omega, y2, fun q => by omega, y4, ?_⟩
          have y5' : b.1 ≤ acc.1 + a.1 + 5 * (j2 - j1) := y5
          show b.1 ≤ acc.1 + 5 * (j2 - j)
          omega
      · rw [if_neg e]
        exact ⟨_, rfl, Nat.le_refl _, hj, fun q => by omega, ha, Nat.le_add_right _ _⟩
    rw [if_neg m3]
    by_cases m4 : md = 4
    · subst m4
      have hf' : 8 * (c - j) + 3 ≤ f := by have : pMs c 4 j = 8 * (c - j) + 3 := rfl; omega
      rw [if_pos rfl]
      refine pThen_ok (Nat.le_refl _) (ih 6 o j acc (by omega) hj (by show 8 * (c - j) + 2 < f; omega) (fun q => by omega)) (fun j1 a hx => ?_)
      obtain ⟨x1, x2, x3, x4, x5⟩ := hx
      have x3' := x3 (Or.inr (Or.inr (Or.inr rfl)))
      dsimp only at x1 x2 x3' x4 x5
      rw [if_neg (by omega)] at x5
      obtain ⟨r, hr, ho⟩ := ih 5 o j1 a (by omega) x2 (by show 8 * (c - j1) + 3 < f; omega) (fun _ => x4)
      refine ⟨r, hr, ?_⟩
      rcases r with x | ⟨j2, b⟩
      · exact ⟨by have := ho.1; omega, ho.2⟩
      · obtain ⟨y1, y2, y3, y4, y5⟩ := ho
        dsimp only at y1 y2
        refine ⟨by show j ≤ j2; omega, y2, fun _ => by show j < j2; omega, y4, ?_⟩
        have y5' : b.1 ≤ a.1 + 5 * (j2 - j1) := y5
        show b.1 ≤ 0 + 5 * (j2 - j)
        omega
    rw [if_neg m4]
    by_cases m5 : md = 5
    · subst m5
      have hf' : 8 * (c - j) + 3 ≤ f := by have : pMs c 5 j = 8 * (c - j) + 3 := rfl; omega
      have ha := hacc (Or.inr (Or.inr rfl))
      rw [if_pos rfl]
      by_cases e : E.1 j = 43
      · rw [if_pos e]
        have hj1 := ht j hj (by omega)
        refine pThen_ok (by omega) (ih 6 o (j + 1) acc (by omega) hj1 (by show 8 * (c - (j + 1)) + 2 < f; omega) (fun q => by omega)) (fun j1 a hx => ?_)
        obtain ⟨x1, x2, x3, x4, x5⟩ := hx
        have x3' := x3 (Or.inr (Or.inr (Or.inr rfl)))
        dsimp only at x1 x2 x3' x4 x5
        rw [if_neg (by omega)] at x5
        obtain ⟨r, hr, ho⟩ := ih 5 o j1 (acc.1 + a.1, rSum acc.2 a.2 acc.1 a.1) (by omega) x2 (by show 8 * (c - j1) + 3 < f; omega) (fun _ => ha.sum x4)
        refine ⟨r, hr, ?_⟩
        rcases r with x | ⟨j2, b⟩
        · exact ⟨by have := ho.1; omega, ho.2⟩
        · obtain ⟨y1, y2, y3, y4, y5⟩ := ho
          dsimp only at y1 y2
          refine ⟨by show j ≤ j2; omega, y2, fun q => by omega, y4, ?_⟩
          have y5' : b.1 ≤ acc.1 + a.1 + 5 * (j2 - j1) := y5
          show b.1 ≤ acc.1 + 5 * (j2 - j)
          omega
      · rw [if_neg e]
        exact ⟨_, rfl, Nat.le_refl _, hj, fun q => by omega, ha, Nat.le_add_right _ _⟩
    rw [if_neg m5]
    have m6 : md = 6 := by omega
    subst m6
    have hf' : 8 * (c - j) + 2 ≤ f := by have : pMs c 6 j = 8 * (c - j) + 2 := rfl; omega
    refine pThen_ok (Nat.le_refl _) (ih 2 o j acc (by omega) hj (by show 8 * (c - j) + 1 < f; omega) (fun q => by omega)) (fun j1 a hx => ?_)
    obtain ⟨x1, x2, x3, x4, x5⟩ := hx
    have x3' := x3 (Or.inr (Or.inl rfl))
    dsimp only at x1 x2 x3' x4 x5
    rw [if_neg (by omega)] at x5
    obtain ⟨r, hr, ho⟩ := ih 3 o j1 a (by omega) x2 (by show 8 * (c - j1) + 2 < f; omega) (fun _ => x4)
    refine ⟨r, hr, ?_⟩
    rcases r with x | ⟨j2, b⟩
    · exact ⟨by have := ho.1; omega, ho.2⟩
    · obtain ⟨y1, y2, y3, y4, y5⟩ := ho
      dsimp only at y1 y2
      refine ⟨by show j ≤ j2; omega, y2, fun _ => by show j < j2; omega, y4, ?_⟩
      have y5' : b.1 ≤ a.1 + 5 * (j2 - j1) := y5
      show b.1 ≤ 0 + 5 * (j2 - j)
      omega
