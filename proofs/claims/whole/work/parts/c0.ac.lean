/-! The class's actions: what they change, what stays; a deed kept -/
def aFr (x W : Nat) (h h1 : HS) : Prop := hT h ≤ hT h1 ∧ ∀ b, b < hT h → (hK h1 b = hK h b ∧ hN h1 b = hN h b ∧ hL h1 b = hL h b) ∧ (b ≠ x + 15 → b ≠ W + 1 → hR h1 b = hR h b) ∧ (b ≠ x → ¬ (x + 12 ≤ b ∧ b ≤ x + 16) → b ≠ W → b ≠ W + 2 → hI h1 b = hI h b)
theorem aFr.rf (x W : Nat) (h : HS) : aFr x W h h := ⟨Nat.le_refl _, fun _ _ => ⟨⟨rfl, rfl, rfl⟩, fun _ _ => rfl, fun _ _ _ _ => rfl⟩⟩
theorem aFr.tr {x W : Nat} {h h1 h2 : HS} (a : aFr x W h h1) (b : aFr x W h1 h2) : aFr x W h h2 := by
  refine ⟨Nat.le_trans a.1 b.1, fun c hc => ?_⟩
  obtain ⟨⟨a1, a2, a3⟩, a4, a5⟩ := a.2 c hc
  obtain ⟨⟨b1, b2, b3⟩, b4, b5⟩ := b.2 c (Nat.lt_of_lt_of_le hc a.1)
  exact ⟨⟨b1.trans a1, b2.trans a2, b3.trans a3⟩, fun p q => (b4 p q).trans (a4 p q), fun p q r s => (b5 p q r s).trans (a5 p q r s)⟩
theorem hExt.a {x W : Nat} {h h1 : HS} (e : hExt h h1) : aFr x W h h1 := ⟨e.1, fun b hb => ⟨⟨(e.2 b hb).2.2.2.1, (e.2 b hb).2.2.2.2, (e.2 b hb).2.1⟩, fun _ _ => (e.2 b hb).2.2.1, fun _ _ _ _ => (e.2 b hb).1⟩⟩
theorem aFr_x {x W k : Nat} {h : HS} {v : Int32} : aFr x W h (sI h x k v) := ⟨Nat.le_refl _, fun _ _ => ⟨⟨rfl, rfl, rfl⟩, fun _ _ => rfl, fun p _ _ _ => hI_sI_ne p⟩⟩
theorem aFr_W {x W k : Nat} {h : HS} {v : Int32} : aFr x W h (sI h W k v) := ⟨Nat.le_refl _, fun _ _ => ⟨⟨rfl, rfl, rfl⟩, fun _ _ => rfl, fun _ _ p _ => hI_sI_ne p⟩⟩
theorem aFr_V {x W : Nat} {h : HS} {F L : Nat → Int32} {P : Nat → Option Nat} : aFr x W h (hV W h F L P) := ⟨Nat.le_refl _, fun _ _ => ⟨⟨rfl, rfl, rfl⟩, fun _ p => hV_neR p, fun _ _ p q => hV_ne p q⟩⟩
theorem aFr_D {x W : Nat} {h : HS} {F A B L : Nat → Int32} {P : Nat → Option Nat} : aFr x W h (hD (x + 12) h F A B L P) := ⟨Nat.le_refl _, fun _ _ => ⟨⟨rfl, rfl, rfl⟩, fun p _ => hD_neR p, fun _ p _ _ => hD_ne (by omega)⟩⟩
section AC
variable {x W : Nat} {h h1 : HS} {V : aV} {RC RC' : Nat → Nat → Int32}
theorem pcS.af {a n : Nat} {R : Nat → Int32} (p : pcS h a n R) (f : aFr x W h h1) (la : a < hT h) (l4 : 0 < n → a + 4 < hT h) (h0 : a ≠ x ∧ ¬ (x + 12 ≤ a ∧ a ≤ x + 16) ∧ a ≠ W ∧ a ≠ W + 1 ∧ a ≠ W + 2) (h4 : 0 < n → x + 16 < a ∧ W + 2 < a) : pcS h1 a n R := by
  obtain ⟨p1, p2, p3, p4, p5, p6⟩ := p
  obtain ⟨⟨k1, -, -⟩, r1, i1⟩ := f.2 a la
  have e0 : hI h1 a = hI h a := i1 h0.1 h0.2.1 h0.2.2.1 h0.2.2.2.2
  have er : hR h1 a = hR h a := r1 (by omega) h0.2.2.2.1
  have ot : 0 < n → ∀ i, 1 ≤ i → i ≤ 4 → hI h1 (a + i) = hI h (a + i) ∧ hK h1 (a + i) = hK h (a + i) ∧ hN h1 (a + i) = hN h (a + i) := fun hn i h1 h2 => by
    have l := l4 hn
    have g := h4 hn
    obtain ⟨⟨k1, k2, -⟩, -, i1⟩ := f.2 (a + i) (by omega)
    exact ⟨i1 (by omega) (by omega) (by omega) (by omega), k1, k2⟩
  refine ⟨by rw [k1]; exact p1, by rw [e0]; exact p2, by rw [e0]; exact p3, by rw [e0]; exact p4, fun hn => ?_, fun q hq => ?_⟩
  · rw [er, (ot hn 1 (by omega) (by omega)).2.1, (ot hn 2 (by omega) (by omega)).2.1, (ot hn 3 (by omega) (by omega)).2.1, (ot hn 4 (by omega) (by omega)).2.1, (ot hn 1 (by omega) (by omega)).2.2, (ot hn 2 (by omega) (by omega)).2.2, (ot hn 3 (by omega) (by omega)).2.2, (ot hn 4 (by omega) (by omega)).2.2]
    exact p5 hn
  · have hn : 0 < n := by omega
    rw [(ot hn 1 (by omega) (by omega)).1, (ot hn 2 (by omega) (by omega)).1, (ot hn 3 (by omega) (by omega)).1, (ot hn 4 (by omega) (by omega)).1]
    exact p6 q hq
theorem kvX.a (hx : kvX x W h) (f : aFr x W h h1) : kvX x W h1 := by
  obtain ⟨x0, x1, x2, x3, x4, x5, x6, x7, ⟨x8, x9⟩, xW, ⟨xa, xb⟩, xc⟩ := hx
  have p9 := x9.af f xa (fun q => absurd q (Nat.lt_irrefl 0)) (by omega) (fun q => absurd q (Nat.lt_irrefl 0))
  have pc := xc.af f xb (fun q => absurd q (Nat.lt_irrefl 0)) (by omega) (fun q => absurd q (Nat.lt_irrefl 0))
  have eK : ∀ b, b < hT h → hK h1 b = hK h b := fun b hb => (f.2 b hb).1.1
  have eN : ∀ b, b < hT h → hN h1 b = hN h b := fun b hb => (f.2 b hb).1.2.1
  have eR : ∀ b k, b < hT h → b ≠ x + 15 → b ≠ W + 1 → hR h1 b k = hR h b k := fun b k hb h1 h2 => by rw [(f.2 b hb).2.1 h1 h2]
  have fT := f.1
  unfold kvX kSh wSh dSh sSh rSh tSh ppSh
  unfold kSh at x2
  unfold wSh at x3
  unfold dSh at x4
  unfold sSh rSh at x5
  unfold tSh at x6
  unfold ppSh at x7
  simp (disch := omega) only [eK, eN, eR]
  exact ⟨x0, x1, x2, x3, x4, x5, x6, x7, ⟨x8, p9⟩, xW, ⟨by omega, by omega⟩, pc⟩
theorem okP.af {a : Nat} {R : Nat → Int32} (p : okP x W h a R) (f : aFr x W h h1) : okP x W h1 a R := by
  obtain ⟨⟨p1, p2⟩, ⟨p3, p4⟩, p5⟩ := p
  have := f.1
  exact ⟨⟨p1, p2⟩, ⟨by omega, fun q => by have := p4 q; omega⟩, p5.af f p3 p4 (by omega) (fun _ => by omega)⟩
theorem okB.af {a : Nat} {R : Nat → Int32} (p : okB x W h a R) (f : aFr x W h h1) (hW : W = x + 6 ∨ x + 49 < W) : okB x W h1 a R := by
  obtain ⟨p0, ⟨p3, p4⟩, p5⟩ := p
  have := f.1
  refine ⟨p0, ⟨by omega, fun q => by have := p4 q; omega⟩, p5.af f p3 p4 (by omega) (fun q => by omega)⟩
/-- what a state says of the programs -/
def kvP (x W : Nat) (h : HS) (S : aH) (RC : Nat → Nat → Int32) : Prop := hI h W 2 = nI S.1 ∧ hI h W 4 = nI S.2.1 ∧ ∀ k, k < S.1 → ∃ a, hR h (W + 1) k = some a ∧ RC a = S.2.2 k ∧ okP x W h a (S.2.2 k) ∧ hI h (W + 2) k = S.2.2 k 306
theorem dLk.af {c n l : Int32} {p : Option Nat} {S S' : aH} {nf : Nat} (d : dLk x W h nf RC c n l p S S') (f : aFr x W h h1) (hr : ∀ a, a < hT h → RC' a = RC a) : dLk x W h1 nf RC' c n l p S S' := by
  rcases d with l | ⟨l1, q, a, l2, l3, l4, l5, l6, l7, l8, l9, l10, l11⟩ | l
  · exact Or.inl l
  · exact Or.inr (Or.inl ⟨l1, q, a, l2, l3, l4, l5, l6, l7, l8, l9, (hr a l11.2.1.1).trans l10, l11.af f⟩)
  · exact Or.inr (Or.inr l)
/-- the states when an action has led to S -/
def vAct (V : aV) (S : aH) : aV := (V.1, V.2.1, (if vA V = 8 then 8 else vA V + 1), fun i => if vA V = 8 then (if i < 8 then vHi V (i + 1) else S) else (if i ≤ vA V then vHi V i else S))
theorem vAct_S (V : aV) (S : aH) : vHi (vAct V S) (vA (vAct V S)) = S := by
  show (if vA V = 8 then (if (if vA V = 8 then 8 else vA V + 1) < 8 then _ else S) else (if (if vA V = 8 then 8 else vA V + 1) ≤ vA V then _ else S)) = S
  by_cases e : vA V = 8
  · rw [if_pos e, if_pos e, if_neg (by omega)]
  · rw [if_neg e, if_neg e, if_neg (by omega)]
theorem vAct_ok (hV : vOK V) {S : aH} (h1 : S.1 ≤ 8) (h2 : S.2.1 < 4) (h3 : ∀ k, k < S.1 → pOK (vNt V) (S.2.2 k)) : vOK (vAct V S) := by
  obtain ⟨⟨v1, v2, v3, v4⟩, v5, v6, v7⟩ := hV
  refine ⟨⟨v1, v2, v3, ?_⟩, fun i hi => ?_, v6, v7⟩
  · show (if vA V = 8 then 8 else vA V + 1) ≤ 8
    split <;> omega
  · have hi' : i ≤ (if vA V = 8 then 8 else vA V + 1) := hi
    have key : ∀ T : aH, (T = S ∨ ∃ j, j ≤ vA V ∧ T = vHi V j) → T.1 ≤ 8 ∧ T.2.1 < 4 ∧ ∀ k, k < T.1 → pOK (vNt V) (T.2.2 k) := by
      intro T hT
      rcases hT with rfl | ⟨j, hj, rfl⟩
      · exact ⟨h1, h2, h3⟩
      · exact v5 j hj
    refine key (vHi (vAct V S) i) ?_
    show (if vA V = 8 then (if i < 8 then vHi V (i + 1) else S) else (if i ≤ vA V then vHi V i else S)) = S ∨ ∃ j, j ≤ vA V ∧ (if vA V = 8 then (if i < 8 then vHi V (i + 1) else S) else (if i ≤ vA V then vHi V i else S)) = vHi V j
    by_cases e : vA V = 8
    · rw [if_pos e]
      by_cases e2 : i < 8
      · rw [if_pos e2]; exact Or.inr ⟨i + 1, by omega, rfl⟩
      · rw [if_neg e2]; exact Or.inl rfl
    · rw [if_neg e]
      by_cases e2 : i ≤ vA V
      · rw [if_pos e2]; exact Or.inr ⟨i, e2, rfl⟩
      · rw [if_neg e2]; exact Or.inl rfl
/-- the rows of the deeds when one more is kept -/
def dkR (x : Nat) (h h1 : HS) (a : Nat) (c n l : Int32) (p : Nat) : Prop := hI h1 (x + 12) 0 = nI (if a = 8 then 8 else a + 1) ∧ ((a ≠ 8 ∧ hI h1 (x + 13) = upd (hI h (x + 13)) a c ∧ hI h1 (x + 14) = upd (hI h (x + 14)) a n ∧ hI h1 (x + 16) = upd (hI h (x + 16)) a l ∧ hR h1 (x + 15) = updO (hR h (x + 15)) a (some p)) ∨ (a = 8 ∧ hI h1 (x + 13) = upd (mvD (hI h (x + 13)) 0 7) 7 c ∧ hI h1 (x + 14) = upd (mvD (hI h (x + 14)) 0 7) 7 n ∧ hI h1 (x + 16) = upd (mvD (hI h (x + 16)) 0 7) 7 l ∧ hR h1 (x + 15) = updO (mvD (hR h (x + 15)) 0 7) 7 (some p)))
theorem kvD.kp (d : kvD x W h V RC) (hV : vOK V) (f : aFr x W h h1) (hr : ∀ a, a < hT h → RC' a = RC a) {S : aH} {c n l : Int32} {p : Nat} (r : dkR x h h1 (vA V) c n l p) (kp : hK h1 p = 3 ∧ x + 48 < p ∧ p < hT h1) (lk : dLk x W h1 (vNf V) RC' c n l (some p) (vHi V (vA V)) S) : kvD x W h1 (vAct V S) RC' := by
  obtain ⟨d1, d2⟩ := d
  obtain ⟨r0, r⟩ := r
  have a8 : vA V ≤ 8 := hV.1.2.2.2
  have old : ∀ b, (b < hT h ∧ hK h b = 3 ∧ x + 48 < b) → hK h1 b = 3 ∧ x + 48 < b ∧ b < hT h1 := fun b hb => ⟨(f.2 b hb.1).1.1.trans hb.2.1, hb.2.2, Nat.lt_of_lt_of_le hb.1 f.1⟩
  refine ⟨r0, fun i hi => ?_⟩
  have hi' : i < (if vA V = 8 then 8 else vA V + 1) := hi
  show (∃ b, hR h1 (x + 15) i = some b ∧ hK h1 b = 3 ∧ x + 48 < b ∧ b < hT h1) ∧ dLk x W h1 (vNf V) RC' (hI h1 (x + 13) i) (hI h1 (x + 14) i) (hI h1 (x + 16) i) (hR h1 (x + 15) i) (if vA V = 8 then (if i < 8 then vHi V (i + 1) else S) else (if i ≤ vA V then vHi V i else S)) (if vA V = 8 then (if i + 1 < 8 then vHi V (i + 1 + 1) else S) else (if i + 1 ≤ vA V then vHi V (i + 1) else S))
  rcases r with ⟨n8, r1, r2, r3, r4⟩ | ⟨e8, r1, r2, r3, r4⟩
  · rw [if_neg n8] at hi'
    rw [if_neg n8, if_neg n8, r1, r2, r3, r4]
    unfold upd updO
    by_cases e : i = vA V
    · rw [if_pos e, if_pos e, if_pos e, if_pos e, if_pos (by omega), if_neg (by omega), e]
      exact ⟨⟨p, rfl, kp⟩, lk⟩
    · rw [if_neg e, if_neg e, if_neg e, if_neg e, if_pos (by omega), if_pos (by omega)]
      obtain ⟨⟨b, b1, b2, b3, b4⟩, dl⟩ := d2 i (by omega)
      exact ⟨⟨b, b1, old b ⟨b4, b2, b3⟩⟩, dl.af f hr⟩
  · rw [if_pos e8] at hi'
    rw [if_pos e8, if_pos e8, r1, r2, r3, r4]
    unfold upd updO mvD
    by_cases e : i = 7
    · rw [if_pos e, if_pos e, if_pos e, if_pos e, if_pos (by omega), if_neg (by omega), e]
      rw [e8] at lk
      exact ⟨⟨p, rfl, kp⟩, lk⟩
    · rw [if_neg e, if_neg e, if_neg e, if_neg e, if_pos (by omega), if_pos (by omega), if_pos (by omega), if_pos (by omega), if_pos (by omega), if_pos (by omega)]
      obtain ⟨⟨b, b1, b2, b3, b4⟩, dl⟩ := d2 (i + 1) (by omega)
      exact ⟨⟨b, b1, old b ⟨b4, b2, b3⟩⟩, dl.af f hr⟩
/-- behind an action -/
theorem K0.ac (K : K0 x W h V RC) (f : aFr x W h h1) (hr : ∀ a, a < hT h → RC' a = RC a) {V' : aV} (e1 : V'.1 = V.1) (e2 : V'.2.1 = V.2.1) (ok : vOK V') (i03 : hI h1 W 0 = hI h W 0 ∧ hI h1 W 1 = hI h W 1 ∧ hI h1 W 3 = hI h W 3) (wp : kvP x W h1 (vHi V' (vA V')) RC') (d : kvD x W h1 V' RC') : K0 x W h1 V' RC' := by
  obtain ⟨hx, hV, ⟨⟨w0, w1, w2, w3, w4⟩, -, w6, w7⟩, -, t, s1, s2⟩ := K
  have hx1 := hx.a f
  have xW := hx.2.2.2.2.2.2.2.2.2.1
  obtain ⟨xa, xb⟩ := hx.2.2.2.2.2.2.2.2.2.2.1
  have eNt : vNt V' = vNt V := by show V'.1.1 = V.1.1; rw [e1]
  have eNa : vNa V' = vNa V := by show V'.1.2.1 = V.1.2.1; rw [e1]
  have eNf : vNf V' = vNf V := by show V'.1.2.2 = V.1.2.2; rw [e1]
  have eFR : vFR V' = vFR V := e2
  obtain ⟨p2, p4, p5⟩ := wp
  refine ⟨hx1, ok, ⟨⟨i03.1.trans (w0.trans (by rw [eNt])), i03.2.1.trans (w1.trans (by rw [eNa])), p2, i03.2.2.trans (w3.trans (by rw [eNf])), p4⟩, p5, fun g hg => ?_, fun g hg => ?_⟩, d, ?_, ?_, fun j hj => ?_⟩
  · rw [eNf] at hg
    rw [eFR]
    obtain ⟨b, b1, b2, b3, b4, b5, b6⟩ := w6 g hg
    have fb := f.2 b b4
    exact ⟨b, by rw [(f.2 (W + 3) (by omega)).2.1 (by omega) (by omega)]; exact b1, b2, b3, Nat.lt_of_lt_of_le b4 f.1, fb.1.1.trans b5, by rw [fb.2.2 (by omega) (by omega) (by omega) (by omega)]; exact b6⟩
  · rw [eNf, eFR]
    obtain ⟨b, b1, b2⟩ := w7 g hg
    exact ⟨b, by rw [(f.2 (W + 4) (by omega)).2.1 (by omega) (by omega)]; exact b1, b2.af f xW⟩
  · have e5 : hR h1 (x + 36) = hR h (x + 36) := (f.2 (x + 36) (by omega)).2.1 (by omega) (by omega)
    rcases t with t | ⟨a, g, t1, t2, t3, t4, t5⟩
    · exact Or.inl (by rw [e5]; exact t)
    · have ei : ∀ i, i ≤ 10 → hI h1 (x + 36 + i) = hI h (x + 36 + i) := fun i hi => (f.2 (x + 36 + i) (by omega)).2.2 (by omega) (by omega) (by omega) (by omega)
      refine Or.inr ⟨a, g, by rw [e5]; exact t1, Nat.lt_of_lt_of_le t2 f.1, t3, by rw [show hI h1 (x + 36) = hI h (x + 36) from ei 0 (by omega)]; exact t4, ?_⟩
      have eP : vP1 V' g (RC' a) = vP1 V g (RC a) := by
        unfold vP1
        rw [eNt, eNa, eFR, eNf, hr a t2]
      rw [eP]
      exact tbO.cg (fun i hi => ei i (by omega)) t5
  · have ei : ∀ i, i ≤ 18 → hI h1 (x + 17 + i) = hI h (x + 17 + i) := fun i hi => (f.2 (x + 17 + i) (by omega)).2.2 (by omega) (by omega) (by omega) (by omega)
    unfold sId
    rw [show hI h1 (x + 17) = hI h (x + 17) from ei 0 (by omega), ei 15 (by omega), ei 14 (by omega)]
    exact s1
  · rw [(f.2 (x + 35) (by omega)).1.2.2]
    exact s2 j hj
end AC
