/-! The class's load: what it leads to; the reader just made -/
/-- what a text leads to -/
def vLd (S : pS) : aV := ((S.1.1, S.1.2.1, S.1.2.2.2), (fun f => tr (S.2.2.2 f).2), 0, fun _ => (S.1.2.2.1, 2 ^ S.1.2.2.2 - 1, fun k => tr (S.2.2.1 k).2))
def qLd (V : aV) (M : aM) (n : Nat) (r : pLz) (v : Value) (V' : aV) (M' : aM) : Prop := match r with
  | .inl x => v = .int (-1) ∧ V' = V ∧ M' = ((0, M.1.2), (9, nI x.1, nI (plT M.1.2 n x.2)), M.2.2)
  | .inr x => v = .int (nI x.2.1.2.2.1) ∧ V' = vLd x.2 ∧ M' = ((0, M.1.2), (0, 0, -1), (-1, M.2.2.1.2), M.2.2.2)
def qLod (V : aV) (M : aM) (k : Int32) (v : Value) (V' : aV) (M' : aM) : Prop := (¬ (0 ≤ k ∧ k ≤ nI M.1.1) ∧ v = .int (-1) ∧ V' = V ∧ M' = mSt M 1) ∨ ∃ n, n ≤ M.1.1 ∧ k = nI n ∧ ∃ r, pTx M.1.2 n 502 0 pSz = some r ∧ qLd V M n r v V' M'
theorem wt_tr (R : Nat → Int32) : wt (tr R) = wt R := by
  unfold wt tr
  rw [if_pos (by omega)]
theorem rq_tr (n : Nat) (R : Nat → Int32) : rQ n R (tr R) := rQ.ag (ag_tr R)
theorem fsP_le (FR : Nat → pR) : ∀ d f, fsP FR f ≤ fsP FR (f + d) := by
  intro d
  induction d with
  | zero => intro f; exact Nat.le_refl _
  | succ d ih =>
    intro f
    have := ih f
    show fsP FR f ≤ fsP FR (f + d) + (FR (f + d)).1
    omega
theorem fbA_fs {s : Int32} {F : Nat → Nat → Int32} {FR : Nat → pR} {nf : Nat} (e : ∀ f, f < nf → wt (F f) = (FR f).1) (h2 : fsP FR nf ≤ 2) : ∀ f, f ≤ nf → wt (fbA s F f) ≤ fsP FR f := by
  intro f
  induction f with
  | zero => intro _; exact Nat.le_of_eq (wt_of (a := 0) rfl (by omega))
  | succ f ih =>
    intro hf
    have i := ih (by omega)
    have l := fsP_le FR (nf - (f + 1)) (f + 1)
    rw [show f + 1 + (nf - (f + 1)) = nf by omega] at l
    have l2 : fsP FR (f + 1) = fsP FR f + (FR f).1 := rfl
    have ef := e f (by omega)
    rw [fbA]
    split
    · rw [wt_of (a := wt (fbA s F f) + wt (F f)) rSum_0 (by omega)]
      omega
    · omega
theorem vLd_ok {S : pS} (k : pSk S) : vOK (vLd S) := by
  obtain ⟨⟨s1, s2, s3, s4⟩, s5, s6, s7, s8⟩ := k
  have w : ∀ a : pR, okT (allF (nI S.1.1)) a → a.1 < 2 ^ 31 → wt (tr a.2) = a.1 := fun a ok l => by rw [wt_tr]; exact wt_of ok.1 l
  have fw : ∀ f, f < S.1.2.2.2 → wt (tr (S.2.2.2 f).2) = (S.2.2.2 f).1 := fun f hf => w _ (s7 f hf) (by have := fsP_ge S.2.2.2 S.1.2.2.2 f hf; omega)
  refine ⟨⟨s1, s2, s4, Nat.zero_le _⟩, fun i _ => ⟨s3, ?_, fun j hj => ?_⟩, fun s _ => ?_, fun f hf => ?_⟩
  · show 2 ^ S.1.2.2.2 - 1 < 4
    rcases (show S.1.2.2.2 = 0 ∨ S.1.2.2.2 = 1 ∨ S.1.2.2.2 = 2 by omega) with e | e | e <;> rw [e] <;> decide
  · obtain ⟨a5, ok⟩ := s6 j hj
    have e := w _ ok (by omega)
    show pOK S.1.1 (tr (S.2.2.1 j).2)
    refine ⟨by omega, ?_, ?_, 0, by omega, ?_⟩
    · rw [e]; unfold tr; rw [if_pos (by omega)]; exact ok.1
    · unfold tr; rw [if_pos (by omega)]; exact (ok.2.2 (by omega)).1
    · unfold tr; rw [if_pos (by omega)]; exact ok.2.1
  · exact Nat.le_trans (fbA_fs (FR := S.2.2.2) fw s8 S.1.2.2.2 (Nat.le_refl _)) s8
  · show wt (tr (S.2.2.2 f).2) ≤ 2
    rw [fw f hf]
    have := fsP_ge S.2.2.2 S.1.2.2.2 f hf
    omega
/-- cells of the object stay but for its numbers, the tape and the tokens; there is more behind -/
def xE (x : Nat) (h h' : HS) : Prop := hT h ≤ hT h' ∧ ∀ b, b < hT h → (hL h' b = hL h b ∧ hR h' b = hR h b ∧ hK h' b = hK h b ∧ hN h' b = hN h b) ∧ ((b < x ∨ x + 5 < b) → hI h' b = hI h b)
theorem K0.xe {x W : Nat} {h h' : HS} {V : aV} {RC : Nat → Nat → Int32} (K : K0 x W h V RC) (e : xE x h h') : K0 x W h' V RC := by
  obtain ⟨e1, e2⟩ := e
  have K1 : K0 x W ((fun b => if x ≤ b ∧ b ≤ x + 5 then hI h b else hI h' b, h'.2) : HS) V RC := by
    refine K.ext ⟨e1, fun b hb => ?_⟩
    obtain ⟨⟨a1, a2, a3, a4⟩, a5⟩ := e2 b hb
    refine ⟨?_, a1, a2, a3, a4⟩
    show (if x ≤ b ∧ b ≤ x + 5 then hI h b else hI h' b) = hI h b
    by_cases c : x ≤ b ∧ b ≤ x + 5
    · rw [if_pos c]
    · rw [if_neg c]; exact a5 (by omega)
  exact K1.tp ⟨rfl, fun b hb => (show hI h' b = if x ≤ b ∧ b ≤ x + 5 then hI h b else hI h' b by rw [if_neg (by omega)])⟩
/-- the reader just made, between lines, nothing told -/
theorem cLn_0 {h : HS} {T np c n : Nat} {tx : Nat → Nat} (hk : kSh T h) (lt : T + 3 < hT h) (ct : cT T h tx n c 0) : cLn (hT h) (hT h + 1) T (hT h + 7) (hC h (hT h) (cX3 (hT h) T np)) tx n c 0 pSz ∧ hI (hC h (hT h) (cX3 (hT h) T np)) (hT h) 2 = -1 ∧ pcW (hC h (hT h) (cX3 (hT h) T np)) (hT h + 1 + 5) 0 (rPlain 0) := by
  have ex : hExt h (hC h (hT h) (cX3 (hT h) T np)) := hC_ext
  obtain ⟨a01, a02, a03, a04, -⟩ := hC_at (h := h) (a := hT h) (L := cX3 (hT h) T np) (i := 0) rfl
  obtain ⟨a11, a12, a13, a14, -⟩ := hC_at (h := h) (a := hT h) (L := cX3 (hT h) T np) (i := 1) rfl
  obtain ⟨a21, a22, -⟩ := hC_at (h := h) (a := hT h) (L := cX3 (hT h) T np) (i := 2) rfl
  obtain ⟨a31, a32, -⟩ := hC_at (h := h) (a := hT h) (L := cX3 (hT h) T np) (i := 3) rfl
  obtain ⟨a41, a42, -⟩ := hC_at (h := h) (a := hT h) (L := cX3 (hT h) T np) (i := 4) rfl
  obtain ⟨a51, a52, -⟩ := hC_at (h := h) (a := hT h) (L := cX3 (hT h) T np) (i := 5) rfl
  obtain ⟨a61, a62, a63, -⟩ := hC_at (h := h) (a := hT h) (L := cX3 (hT h) T np) (i := 6) rfl
  obtain ⟨a71, a72, a73, -⟩ := hC_at (h := h) (a := hT h) (L := cX3 (hT h) T np) (i := 7) rfl
  have aT : hT (hC h (hT h) (cX3 (hT h) T np)) = hT h + 8 := rfl
  rw [Nat.add_zero] at a01 a02 a03 a04
  generalize hC h (hT h) (cX3 (hT h) T np) = g at *
  have e : ∀ b, b < hT h → hI g b = hI h b ∧ hR g b = hR h b ∧ hK g b = hK h b ∧ hN g b = hN h b := fun b hb => ⟨(ex.2 b hb).1, (ex.2 b hb).2.2.1, (ex.2 b hb).2.2.2.1, (ex.2 b hb).2.2.2.2⟩
  refine ⟨⟨⟨⟨⟨a01, by rw [a04]; rfl, by rw [a04]; rfl, by rw [a04]; rfl⟩, ⟨a71, a72⟩, ?_, ⟨a11, ⟨by rw [a14]; rfl, a21, a22⟩, ⟨by rw [a14]; rfl, a31, a32⟩, ⟨by rw [a14]; rfl, a41, a42⟩, ⟨by rw [a14]; rfl, a51, a52⟩, by rw [a14]; rfl, a61⟩, by omega, by omega, by omega, by omega⟩, ?_, by rw [a03]; rfl, ⟨Nat.zero_le _, Nat.zero_le _, Nat.zero_le _⟩, ⟨by rw [a13]; rfl, by rw [a13]; rfl, by rw [a13]; rfl⟩, pSz_k.2.1, fun k hk => ?_, fun k hk => absurd hk (Nat.not_lt_zero _)⟩, ⟨by rw [a13]; rfl, fun k hk => absurd hk (Nat.not_lt_zero _)⟩, fun k hk => absurd hk (Nat.not_lt_zero _), by rw [a03]; rfl, pSz_k⟩, by rw [a03]; rfl, ⟨⟨by rw [a63]; rfl, fun _ => by rw [a63]; rfl⟩, by omega, ⟨⟨a61, by rw [a63]; rfl⟩, fun q => absurd q (Nat.not_lt_zero _)⟩, fun p hp => absurd hp (Nat.not_lt_zero _)⟩⟩
  · unfold kSh
    rw [(e T (by omega)).2.1, (e T (by omega)).2.2.1, (e (T + 1) (by omega)).2.2.1, (e (T + 1) (by omega)).2.2.2, (e (T + 2) (by omega)).2.2.1, (e (T + 2) (by omega)).2.2.2, (e (T + 3) (by omega)).2.2.1, (e (T + 3) (by omega)).2.2.2]
    exact hk
  · unfold cT
    rw [(e T (by omega)).1, (e (T + 1) (by omega)).1, (e (T + 2) (by omega)).1, (e (T + 3) (by omega)).1]
    exact ct
  · rw [a73]
    exact (if_neg (show ¬ usd 0 0 0 k by omega)).symm
