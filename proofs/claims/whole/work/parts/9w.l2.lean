/-! the class's Reader: between lines; a new name -/
/-- a fault k is told at token j, seen from a line's start -/
def bdL (U W T N : Nat) (h h' : HS) (tx : Nat → Nat) (n c k j : Nat) : Prop := lF U W T N h h' ∧ cT T h' tx n c j ∧ hI h' U 1 = nI k ∧ hI h' U 2 = nI (plT tx n j) ∧ hI h' U 1 ≠ 0
theorem bdF.l {U W T N : Nat} {h h1 : HS} {tx : Nat → Nat} {n c k j : Nat} (b : bdF U T h h1 tx n c k j) : bdL U W T N h h1 tx n c k j := ⟨b.1.l, b.2⟩
theorem bdL.pre {U W T N : Nat} {h0 h h1 : HS} {tx : Nat → Nat} {n c k j : Nat} (a : lF U W T N h0 h) (b : bdL U W T N h h1 tx n c k j) : bdL U W T N h0 h1 tx n c k j := ⟨a.tr b.1, b.2⟩
/-- within a line: what was told so far, token j in hand, no fault; v5: whether names are closed -/
def cLm (U W T N : Nat) (h : HS) (tx : Nat → Nat) (n c j : Nat) (S : pS) (v5 : Int32) : Prop := cSt U W T N h tx n c j S.1.1 S.1.2.1 S.1.2.2.1 S.2.1 S.2.2.1 ∧ (hI h W 3 = nI S.1.2.2.2 ∧ ∀ k, k < S.1.2.2.2 → ∃ a, hR h (W + 3) k = some a ∧ pcW h a (S.2.2.2 k).1 (S.2.2.2 k).2 ∧ W + 5 < a) ∧ (∀ k, k < S.1.2.2.1 → hI h (W + 2) k = 0 ∧ (∃ a, hR h (W + 1) k = some a ∧ W + 5 < a) ∧ ∀ i, i < k → hR h (W + 1) i ≠ hR h (W + 1) k) ∧ hI h U 5 = v5 ∧ pSk S
/-- between lines -/
abbrev cLn (U W T N : Nat) (h : HS) (tx : Nat → Nat) (n c j : Nat) (S : pS) : Prop := cLm U W T N h tx n c j S (if S.1.2.2.1 = 0 ∧ S.1.2.2.2 = 0 then 0 else 1)
theorem cLm.q {U W T N : Nat} {h h1 : HS} {tx : Nat → Nat} {n c j j1 : Nat} {S : pS} {v5 : Int32} (L : cLm U W T N h tx n c j S v5) (a : qF U T h h1) (ct : cT T h1 tx n c j1) (h0 : hI h1 U 1 = 0) : cLm U W T N h1 tx n c j1 S v5 := by
  obtain ⟨s, ⟨f1, f2⟩, l, u, k⟩ := L
  have hq := s.1
  obtain ⟨⟨q1, -⟩, -, ⟨q3, -⟩, ⟨q4, ⟨-, q5, -⟩, ⟨-, q6, -⟩, ⟨-, q7, -⟩, -⟩, l1, l2, l3, l4⟩ := id hq
  have eW : hI h1 W 3 = hI h W 3 := (a.2 W (by omega)).2 3 (fun x => by omega) (fun x => by rw [x.1, q3] at q4; exact absurd q4 (by decide))
  have e2 : ∀ i, hI h1 (W + 2) i = hI h (W + 2) i := fun i => (a.2 (W + 2) (by omega)).2 i (fun x => by rw [x.1, q1] at q6; exact absurd q6 (by decide)) (fun x => by rw [x.1, q3] at q6; exact absurd q6 (by decide))
  have e3 : hR h1 (W + 3) = hR h (W + 3) := (a.2 (W + 3) (by omega)).1.2.1
  have e5 : hI h1 U 5 = hI h U 5 := (a.2 U l1).2 5 (fun x => by omega) (fun x => hq.ne x.1)
  refine ⟨s.q a ct h0, ⟨eW.trans f1, fun i hi => ?_⟩, fun i hi => ⟨(e2 i).trans (l i hi).1, by rw [(a.2 (W + 1) (by omega)).1.2.1]; exact (l i hi).2⟩, e5.trans u, k⟩
  obtain ⟨p, p1, p2, p3⟩ := f2 i hi
  exact ⟨p, by rw [e3]; exact p1, p2.q q1 q3 a, p3⟩
theorem cLm.t {U W T N : Nat} {h h1 : HS} {tx : Nat → Nat} {n c j j1 : Nat} {S : pS} {v5 : Int32} (L : cLm U W T N h tx n c j S v5) (a : tF T h h1) (ct : cT T h1 tx n c j1) : cLm U W T N h1 tx n c j1 S v5 := L.q a.q ct ((a.2 U 1 (fun x => L.1.1.ne x.1)).trans L.1.2.2.1)
/-- the token in hand stays -/
theorem cT.l {U W T N : Nat} {h h1 : HS} {tx : Nat → Nat} {n c j : Nat} (ct : cT T h tx n c j) (hq : cQ U W T N h) (a : lF U W T N h h1) (e : ∀ k, 1 ≤ k → k ≤ 4 → hI h1 T k = hI h T k) : cT T h1 tx n c j := by
  obtain ⟨⟨q1, -⟩, ⟨q5, q6⟩, ⟨t1, ⟨-, k1, k1'⟩, ⟨-, k2, k2'⟩, -, k3, k3'⟩, ⟨w1, -, ⟨-, w6, w7⟩, -⟩, l1, l2, l3, l4⟩ := hq
  have ot : ∀ i, 1 ≤ i → i ≤ 3 → hK h (T + i) = 12 → hN h (T + i) = 501 → hI h1 (T + i) = hI h (T + i) := fun i i1 i2 h1 h2 => funext fun k => (a.2 (T + i) (by omega)).2.2 k (fun x => by rw [x.1, q1] at h1; exact absurd h1 (by decide)) (fun x => by omega) (fun x => by rw [x.1, w1] at h1; exact absurd h1 (by decide)) (fun x => by rw [x, w7] at h2; exact absurd h2 (by decide)) (fun x => by rw [x, q6] at h2; exact absurd h2 (by decide))
  have e0 : hI h1 T 0 = hI h T 0 := (a.2 T (by omega)).2.2 0 (fun x => by rw [x.1, q1] at t1; exact absurd t1 (by decide)) (fun x => by omega) (fun x => by rw [x.1, w1] at t1; exact absurd t1 (by decide)) (fun x => by rw [x, w6] at t1; exact absurd t1 (by decide)) (fun x => by rw [x, q5] at t1; exact absurd t1 (by decide))
  obtain ⟨⟨c1, c2⟩, d1, d2, d3, d4⟩ := ct
  refine ⟨⟨e0.trans c1, ?_⟩, (e 4 (by omega) (by omega)).trans d1, (e 1 (by omega) (by omega)).trans d2, (e 3 (by omega) (by omega)).trans d3, fun x => (e 2 (by omega) (by omega)).trans (d4 x)⟩
  rw [ot 1 (by omega) (by omega) k1 k1', ot 2 (by omega) (by omega) k2 k2', ot 3 (by omega) (by omega) k3 k3']
  exact c2
section L2
variable {w : gD} {U W T N : Nat} {h : HS} {tx : Nat → Nat} {n c j : Nat} {S : pS}
theorem cLm.name (b : Bool) (L : cLn U W T N h tx n c j S) (hnp : S.1.2.2.1 = 0) (hnf : S.1.2.2.2 = 0) (h3 : (if b = true then S.1.1 else S.1.2.1) < 3) {wv : Nat} (hw : wv < 2 ^ 30) : lF U W T N h (sI (sI h N (if b = true then S.1.1 else 3 + S.1.2.1) (nI wv)) W (if b = true then 0 else 1) (nI ((if b = true then S.1.1 else S.1.2.1) + 1))) ∧ cLn U W T N (sI (sI h N (if b = true then S.1.1 else 3 + S.1.2.1) (nI wv)) W (if b = true then 0 else 1) (nI ((if b = true then S.1.1 else S.1.2.1) + 1))) tx n c j (if b = true then ((S.1.1 + 1, S.1.2), updA S.2.1 (0 + S.1.1) wv, S.2.2) else ((S.1.1, S.1.2.1 + 1, S.1.2.2), updA S.2.1 (3 + S.1.2.1) wv, S.2.2)) := by
  obtain ⟨s, ⟨f1, f2⟩, l, u, k⟩ := L
  obtain ⟨hq, ct, h0, ⟨d1, d2, d3⟩, ⟨d4, d5, d6⟩, d7, d8, d9⟩ := id s
  obtain ⟨⟨q1, -⟩, ⟨q5, q6⟩, ⟨t1, -⟩, ⟨w1, -, ⟨-, w6, w7⟩, -⟩, l1, l2, l3, l4⟩ := id hq
  have NW : N ≠ W := fun x => by rw [x, w1] at q5; exact absurd q5 (by decide)
  have NW2 : N ≠ W + 2 := fun x => by rw [x, w7] at q6; exact absurd q6 (by decide)
  have NU : N ≠ U := fun x => by rw [x, q1] at q5; exact absurd q5 (by decide)
  have NT : N ≠ T := fun x => by rw [x, t1] at q5; exact absurd q5 (by decide)
  have WU : W ≠ U := fun x => by rw [x, q1] at w1; exact absurd w1 (by decide)
  have WT : W ≠ T := fun x => by rw [x, t1] at w1; exact absurd w1 (by decide)
  have fr : ∀ sl f v v', f ≤ 3 → lF U W T N h (sI (sI h N sl v) W f v') := fun sl f v v' hf => ⟨Nat.le_refl _, fun b _ => ⟨⟨rfl, rfl, rfl, fun _ _ p => by rw [hI_sI, if_neg (fun x => WU x.1.symm), hI_sI, if_neg (fun x => NU x.1.symm), hI_sI, if_neg (fun x => WU x.1.symm), hI_sI, if_neg (fun x => NU x.1.symm)]; exact p⟩, fun _ _ => rfl, fun k _ _ p3 _ p5 => by rw [hI_sI, if_neg (fun x => p3 ⟨x.1, by omega⟩), hI_sI, if_neg (fun x => p5 x.1)]⟩⟩
  have upd30 : ∀ x k, updA S.2.1 x wv k < 2 ^ 30 := fun x k => by
    unfold updA; split
    · exact hw
    · exact d7 k
  cases b with
  | true =>
    rw [if_pos rfl] at h3
    show lF U W T N h (sI (sI h N S.1.1 (nI wv)) W 0 (nI (S.1.1 + 1))) ∧ cLn U W T N (sI (sI h N S.1.1 (nI wv)) W 0 (nI (S.1.1 + 1))) tx n c j ((S.1.1 + 1, S.1.2), updA S.2.1 (0 + S.1.1) wv, S.2.2)
    have e := fr S.1.1 0 (nI wv) (nI (S.1.1 + 1)) (by omega)
    refine ⟨e, ⟨hq.l e, ct.l hq e (fun k _ _ => by rw [hI_sI, if_neg (fun x => WT x.1.symm), hI_sI, if_neg (fun x => NT x.1.symm)]), by rw [hI_sI, if_neg (fun x => WU x.1.symm), hI_sI, if_neg (fun x => NU x.1.symm)]; exact h0, ⟨by show S.1.1 + 1 ≤ 3; omega, d2, d3⟩, ⟨by rw [hI_sI, if_pos ⟨rfl, rfl⟩], by rw [hI_sI, if_neg (by omega), hI_sI, if_neg (fun x => NW x.1.symm)]; exact d5, by rw [hI_sI, if_neg (by omega), hI_sI, if_neg (fun x => NW x.1.symm)]; exact d6⟩, upd30 _, fun i hi => ?_, fun i hi => absurd (show i < S.1.2.2.1 from hi) (by omega)⟩, ⟨by rw [hI_sI, if_neg (by omega), hI_sI, if_neg (fun x => NW x.1.symm)]; exact f1, fun i hi => absurd (show i < S.1.2.2.2 from hi) (by omega)⟩, fun i hi => absurd (show i < S.1.2.2.1 from hi) (by omega), ?_, ?_⟩
    · show hI (sI (sI h N S.1.1 (nI wv)) W 0 (nI (S.1.1 + 1))) N i = if usd (S.1.1 + 1) S.1.2.1 S.1.2.2.1 i then nI (updA S.2.1 (0 + S.1.1) wv i) else 0
      rw [hI_sI, if_neg (fun x => NW x.1), hI_sI]
      unfold updA
      by_cases q : i = S.1.1
      · rw [if_pos ⟨rfl, q⟩, if_pos (show usd (S.1.1 + 1) S.1.2.1 S.1.2.2.1 i by left; omega), if_pos (by omega)]
      · rw [if_neg (fun x => q x.2), if_neg (c := i = 0 + S.1.1) (by omega), d8 i hi]
        by_cases q2 : usd S.1.1 S.1.2.1 S.1.2.2.1 i
        · rw [if_pos q2, if_pos (show usd (S.1.1 + 1) S.1.2.1 S.1.2.2.1 i by rcases q2 with q2 | q2 | q2; exact Or.inl (by omega); exact Or.inr (Or.inl q2); exact Or.inr (Or.inr q2))]
        · rw [if_neg q2, if_neg (fun x => q2 (by rcases x with x | x | x; exact Or.inl (by omega); exact Or.inr (Or.inl x); exact Or.inr (Or.inr x)))]
    · rw [hI_sI, if_neg (fun x => WU x.1.symm), hI_sI, if_neg (fun x => NU x.1.symm)]; exact u
    · exact ⟨⟨by show S.1.1 + 1 ≤ 3; omega, d2, d3, k.1.2.2.2⟩, upd30 _, fun i hi => absurd (show i < S.1.2.2.1 from hi) (by omega), fun i hi => absurd (show i < S.1.2.2.2 from hi) (by omega), k.2.2.2.2⟩
  | false =>
    rw [if_neg (by decide)] at h3
    show lF U W T N h (sI (sI h N (3 + S.1.2.1) (nI wv)) W 1 (nI (S.1.2.1 + 1))) ∧ cLn U W T N (sI (sI h N (3 + S.1.2.1) (nI wv)) W 1 (nI (S.1.2.1 + 1))) tx n c j ((S.1.1, S.1.2.1 + 1, S.1.2.2), updA S.2.1 (3 + S.1.2.1) wv, S.2.2)
    have e := fr (3 + S.1.2.1) 1 (nI wv) (nI (S.1.2.1 + 1)) (by omega)
    refine ⟨e, ⟨hq.l e, ct.l hq e (fun k _ _ => by rw [hI_sI, if_neg (fun x => WT x.1.symm), hI_sI, if_neg (fun x => NT x.1.symm)]), by rw [hI_sI, if_neg (fun x => WU x.1.symm), hI_sI, if_neg (fun x => NU x.1.symm)]; exact h0, ⟨d1, by show S.1.2.1 + 1 ≤ 3; omega, d3⟩, ⟨by rw [hI_sI, if_neg (by omega), hI_sI, if_neg (fun x => NW x.1.symm)]; exact d4, by rw [hI_sI, if_pos ⟨rfl, rfl⟩], by rw [hI_sI, if_neg (by omega), hI_sI, if_neg (fun x => NW x.1.symm)]; exact d6⟩, upd30 _, fun i hi => ?_, fun i hi => absurd (show i < S.1.2.2.1 from hi) (by omega)⟩, ⟨by rw [hI_sI, if_neg (by omega), hI_sI, if_neg (fun x => NW x.1.symm)]; exact f1, fun i hi => absurd (show i < S.1.2.2.2 from hi) (by omega)⟩, fun i hi => absurd (show i < S.1.2.2.1 from hi) (by omega), ?_, ?_⟩
    · show hI (sI (sI h N (3 + S.1.2.1) (nI wv)) W 1 (nI (S.1.2.1 + 1))) N i = if usd S.1.1 (S.1.2.1 + 1) S.1.2.2.1 i then nI (updA S.2.1 (3 + S.1.2.1) wv i) else 0
      rw [hI_sI, if_neg (fun x => NW x.1), hI_sI]
      unfold updA
      by_cases q : i = 3 + S.1.2.1
      · rw [if_pos ⟨rfl, q⟩, if_pos (show usd S.1.1 (S.1.2.1 + 1) S.1.2.2.1 i by right; left; omega), if_pos (by omega)]
      · rw [if_neg (fun x => q x.2), if_neg (c := i = 3 + S.1.2.1) q, d8 i hi]
        by_cases q2 : usd S.1.1 S.1.2.1 S.1.2.2.1 i
        · rw [if_pos q2, if_pos (show usd S.1.1 (S.1.2.1 + 1) S.1.2.2.1 i by rcases q2 with q2 | q2 | q2; exact Or.inl q2; exact Or.inr (Or.inl (by omega)); exact Or.inr (Or.inr q2))]
        · rw [if_neg q2, if_neg (fun x => q2 (by rcases x with x | x | x; exact Or.inl x; exact Or.inr (Or.inl (by omega)); exact Or.inr (Or.inr x)))]
    · rw [hI_sI, if_neg (fun x => WU x.1.symm), hI_sI, if_neg (fun x => NU x.1.symm)]; exact u
    · exact ⟨⟨d1, by show S.1.2.1 + 1 ≤ 3; omega, d3, k.1.2.2.2⟩, upd30 _, fun i hi => absurd (show i < S.1.2.2.1 from hi) (by omega), fun i hi => absurd (show i < S.1.2.2.2 from hi) (by omega), k.2.2.2.2⟩
end L2
