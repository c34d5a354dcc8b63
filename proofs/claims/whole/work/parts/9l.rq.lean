/-! what counts of sums and rows with a piece of weight 0; pThen; what of the rest of a text's sum is to come -/
theorem rBes_at (X Y : Nat → Int32) {a b p : Nat} (h : a + b ≤ 16) (hp : p < a + b) : rBes X Y a b (2 + p) = rSel X Y a 2 p ∧ rBes X Y a b (18 + p) = rSel X Y a 18 p ∧ rBes X Y a b (34 + p) = rSel X Y a 34 p ∧ ∀ q, q < 16 → rBes X Y a b (50 + 16 * p + q) = rBet X Y a b p q := by
  unfold rBes
  rw [if_pos h]
  unfold besF
  refine ⟨?_, ?_, ?_, fun q hq => ?_⟩
  · rw [if_neg (by omega), if_neg (by omega), if_pos (by omega), Nat.add_sub_cancel_left, if_pos hp]
  · rw [if_neg (by omega), if_neg (by omega), if_neg (by omega), if_pos (by omega), Nat.add_sub_cancel_left, if_pos hp]
  · rw [if_neg (by omega), if_neg (by omega), if_neg (by omega), if_neg (by omega), if_pos (by omega), Nat.add_sub_cancel_left, if_pos hp]
  · rw [if_neg (by omega), if_neg (by omega), if_neg (by omega), if_neg (by omega), if_neg (by omega), if_pos (by omega), show (50 + 16 * p + q - 50) / 16 = p by omega, show (50 + 16 * p + q - 50) % 16 = q by omega, if_pos hp]
theorem and_cm (x y : Int32) : x &&& y = y &&& x := Int32.and_comm x y
theorem rq_sum0 (Y : Nat → Int32) (b : Nat) : rQ b (rSum (rPlain 0) Y 0 b) Y := by
  intro hb
  unfold rSum
  rw [if_pos (by omega)]
  refine ⟨?_, fun p hp => ?_⟩
  · rw [upd, if_pos rfl]
    show rPlain 0 1 ||| Y 1 = Y 1
    rw [rPlain_z]
    exact Int32.zero_or
  · obtain ⟨b1, b2, b3, b4⟩ := rBes_at (rPlain 0) Y (a := 0) (b := b) (p := p) (by omega) (by omega)
    refine ⟨?_, ?_, ?_, fun q hq => ?_⟩
    · rw [upd, if_neg (by omega), b1, rSel, if_neg (by omega), Nat.sub_zero]
    · rw [upd, if_neg (by omega), b2, rSel, if_neg (by omega), Nat.sub_zero]
    · rw [upd, if_neg (by omega), b3, rSel, if_neg (by omega), Nat.sub_zero]
    · rw [upd, if_neg (by omega), b4 q (by omega), rBet, if_neg (by omega), if_pos (by omega), Nat.sub_zero, Nat.sub_zero]
theorem rq_begins (T Y : Nat → Int32) (b : Nat) : rQ b (rJoin T Y 0 b) (rBegins Y b (T 1)) := by
  intro hb
  unfold rJoin rBegins
  rw [if_pos (by omega), if_pos (by omega)]
  refine ⟨?_, fun p hp => ?_⟩
  · rw [joQ, if_neg (by omega), joP, if_pos rfl, bgP, if_pos rfl]
    exact and_cm _ _
  · obtain ⟨b1, b2, b3, b4⟩ := rBes_at T Y (a := 0) (b := b) (p := p) (by omega) (by omega)
    refine ⟨?_, ?_, ?_, fun q hq => ?_⟩
    · rw [joQ, if_neg (by omega), joP, if_neg (by omega), if_neg (by omega), if_neg (by omega), b1, rSel, if_neg (by omega), Nat.sub_zero, bgP, if_neg (by omega), if_neg (by omega)]
    · rw [joQ, if_pos (by omega), bgP, if_neg (by omega), if_pos (by omega), and_cm]
      congr 2
      omega
    · rw [joQ, if_neg (by omega), joP, if_neg (by omega), if_neg (by omega), if_neg (by omega), b3, rSel, if_neg (by omega), Nat.sub_zero, bgP, if_neg (by omega), if_neg (by omega)]
    · rw [joQ, if_neg (by omega), joP, if_neg (by omega), if_neg (by omega), if_neg (by omega), b4 q (by omega), rBet, if_neg (by omega), if_pos (by omega), Nat.sub_zero, Nat.sub_zero, bgP, if_neg (by omega), if_neg (by omega)]
theorem rq_finish (X T : Nat → Int32) (a : Nat) : rQ (a + 0) (rJoin X T a 0) (rFinish X a (T 1)) := by
  intro ha
  have ha' : a ≤ 6 := ha
  unfold rJoin rFinish
  rw [if_pos (by omega), if_pos (by omega)]
  refine ⟨?_, fun p hp => ?_⟩
  · rw [joQ, if_neg (by omega), joP, if_pos rfl, bgP, if_pos rfl]
  · have hp' : p < a := hp
    obtain ⟨b1, b2, b3, b4⟩ := rBes_at X T (a := a) (b := 0) (p := p) (by omega) (by omega)
    refine ⟨?_, ?_, ?_, fun q hq => ?_⟩
    · rw [joQ, if_neg (by omega), joP, if_neg (by omega), if_neg (by omega), if_neg (by omega), b1, rSel, if_pos (by omega), bgP, if_neg (by omega), if_neg (by omega)]
    · rw [joQ, if_neg (by omega), joP, if_neg (by omega), if_neg (by omega), if_neg (by omega), b2, rSel, if_pos (by omega), bgP, if_neg (by omega), if_neg (by omega)]
    · rw [joQ, if_neg (by omega), joP, if_neg (by omega), if_pos (by omega), bgP, if_neg (by omega), if_pos (by omega)]
    · have hq' : q < a := hq
      rw [joQ, if_neg (by omega), joP, if_neg (by omega), if_neg (by omega), if_neg (by omega), b4 q (by omega), rBet, if_pos (by omega), if_pos (by omega), bgP, if_neg (by omega), if_neg (by omega)]
theorem rq_all {al : Int32} {a : pR} (h : okT al a) : rQ a.1 (rBegins a.2 a.1 al) a.2 := by
  intro hb
  obtain ⟨-, -, g⟩ := h
  obtain ⟨g1, g2⟩ := g hb
  unfold rBegins
  rw [if_pos (by omega)]
  refine ⟨?_, fun p hp => ⟨?_, ?_, ?_, fun q hq => ?_⟩⟩
  · rw [bgP, if_pos rfl]; exact g1
  · rw [bgP, if_neg (by omega), if_neg (by omega)]
  · rw [bgP, if_neg (by omega), if_pos (by omega)]; exact g2 p hp
  · rw [bgP, if_neg (by omega), if_neg (by omega)]
  · rw [bgP, if_neg (by omega), if_neg (by omega)]
theorem rq_row {al : Int32} {a : pR} (h : okT al a) : rQ (0 + a.1) (rJoin (rPlain al) a.2 0 a.1) a.2 := by
  rw [Nat.zero_add]
  exact (rq_begins (rPlain al) a.2 a.1).tr (rq_all h)
theorem or_and_s (x y : Int32) : (x ||| y) ||| y = x ||| y := by
  apply Int32.toBitVec_inj.1
  simp [BitVec.or_assoc]
theorem rStar2 (R : Nat → Int32) (n : Nat) (al : Int32) : rStar (rStar R n al) n al = rStar R n al := by
  unfold rStar
  by_cases h : n ≤ 16
  · rw [if_pos h, if_pos h]
    funext k
    unfold stP
    by_cases e1 : k = 1
    · rw [if_pos e1, if_pos e1]
    · rw [if_neg e1, if_neg e1]
      by_cases e2 : 50 ≤ k ∧ k < 306 ∧ (k - 50) % 16 < n ∧ ((k - 50) / 16 < n ∨ (k - 50) / 16 = n ∧ (k - 50) % 16 < 0)
      · rw [if_pos e2, if_pos e2, if_neg (c := 34 + (k - 50) / 16 = 1) (by omega), if_neg (c := 50 ≤ 34 + (k - 50) / 16 ∧ _) (by omega), if_neg (c := 18 + (k - 50) % 16 = 1) (by omega), if_neg (c := 50 ≤ 18 + (k - 50) % 16 ∧ _) (by omega)]
        exact or_and_s _ _
      · rw [if_neg e2, if_neg e2]
  · rw [if_neg h, if_neg h]
theorem pThen_as (r : Option pRz) (k1 k2 : Nat → pR → Option pRz) : pThen (pThen r k1) k2 = pThen r (fun j a => pThen (k1 j a) k2) := by
  rcases r with _ | (x | ⟨j, a⟩) <;> rfl
/-- stars behind acc -/
theorem pz_stars {E : pE} : ∀ F o j acc r, pz E F 1 o j acc = some r → ∃ j2 a2, r = .inr (j2, a2) ∧ j ≤ j2 ∧ a2.1 = acc.1 ∧ E.1 j2 ≠ 42 ∧ (∀ i, j ≤ i → i < j2 → E.1 i = 42) ∧ a2.2 = (if j2 = j then acc.2 else rStar acc.2 acc.1 E.2.2.2) := by
  intro F
  induction F with
  | zero => intro o j acc r h; rw [pz] at h; cases h
  | succ F ih =>
    intro o j acc r h
    by_cases e : E.1 j = 42
    · rw [pz_1s e] at h
      obtain ⟨j2, a2, h1, h2, h3, h4, h5, h6⟩ := ih o (j + 1) _ r h
      refine ⟨j2, a2, h1, by omega, h3, h4, fun i i1 i2 => ?_, ?_⟩
      · by_cases q : i = j
        · rw [q]; exact e
        · exact h5 i (by omega) i2
      · rw [if_neg (by omega), h6]
        by_cases q : j2 = j + 1
        · rw [if_pos q]
        · rw [if_neg q]; exact rStar2 _ _ _
    · rw [pz_1n e] at h
      exact ⟨j, acc, (Option.some.inj h).symm, Nat.le_refl _, rfl, e, fun i i1 i2 => absurd i1 (by omega), (if_pos rfl).symm⟩
