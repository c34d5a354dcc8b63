/-! Piece: what a piece tells, whatever its weight; rows of the one that is being made; copyPlaces -/
theorem g_cI {z : gZ} {w : gD} {d MC MS n : Nat} {y : MethodName} {cc : ByteArray} {ret : Option FieldType} {Q : State → Prop} {cn sn pc : Nat} {lv : List (Nat × Value)} {rest : List Value} {h : HS} (C : GC z w d MC MS y cc n ret) {dd mc ms index maxL k b : Nat} {x : MethodName} {bytes : ByteArray} {h' : HS} (As : List Value) (hm : gMc x bytes maxL k) (hl : Cond.methodLink y.cls index x ∈ gtb) (hE : EvF w dd mc ms x bytes maxL none (.ref b :: As) h none h') (hfl : z.2.1.flags = flags0) (hdd : dd + 1 ≤ d) (hmax : maxL ≤ 45) (h1 : cn + mc ≤ MC) (h2 : sn + ms ≤ MS) (hlen : As.length = k) {st : List Value} (hst : st = As.reverse ++ .ref b :: rest) (hrm : (rest.map fun v => v.category).sum ≤ 8) (hd : decode cc pc = .ok (.invokespecial index, 3))
    (kk : GW z w n Q (cn + mc) (sn + ms) (pc + 3) lv rest h') : GW z w n Q cn sn pc lv st h := g_callI C As hm hl hE hfl hdd hmax h1 h2 hlen hst hrm hd (fun r h2 hp => by obtain ⟨rfl, rfl⟩ := hp; exact kk)
theorem g_cIN {z : gZ} {w : gD} {d MC MS n : Nat} {y : MethodName} {cc : ByteArray} {ret : Option FieldType} {Q : State → Prop} {cn sn pc : Nat} {lv : List (Nat × Value)} {rest : List Value} {h : HS} (C : GC z w d MC MS y cc n ret) {dd mc ms index maxL k b : Nat} {x : MethodName} {bytes : ByteArray} {host : String} {h' : HS} (As : List Value) (hm : gMc x bytes maxL k) (hl : (y.cls, index, x, host) ∈ gNm) (hE : EvF w dd mc ms x bytes maxL none (.ref b :: As) h none h') (hfl : z.2.1.flags = flags0) (hdd : dd + 1 ≤ d) (hmax : maxL ≤ 45) (h1 : cn + mc ≤ MC) (h2 : sn + ms ≤ MS) (hlen : As.length = k) {st : List Value} (hst : st = As.reverse ++ .ref b :: rest) (hrm : (rest.map fun v => v.category).sum ≤ 8) (hd : decode cc pc = .ok (.invokespecial index, 3))
    (kk : GW z w n Q (cn + mc) (sn + ms) (pc + 3) lv rest h') : GW z w n Q cn sn pc lv st h := g_callIN C As hm hl hE hfl hdd hmax h1 h2 hlen hst hrm hd (fun r h2 hp => by obtain ⟨rfl, rfl⟩ := hp; exact kk)
/-- the rows of an object with s places -/
def pcRw (h : HS) (a s : Nat) : Prop := (hR h a 3 = some (a + 1) ∧ hR h a 4 = some (a + 2) ∧ hR h a 5 = some (a + 3) ∧ hR h a 6 = some (a + 4)) ∧ (hK h (a + 1) = 12 ∧ hK h (a + 2) = 12 ∧ hK h (a + 3) = 12 ∧ hK h (a + 4) = 12) ∧ hN h (a + 1) = s ∧ hN h (a + 2) = s ∧ hN h (a + 3) = s ∧ hN h (a + 4) = s * s
def pcT (h : HS) (a s : Nat) : Prop := (hK h a = 3 ∧ hI h a 2 = nI s) ∧ (0 < s → pcRw h a s ∧ a + 4 < hT h)
/-- s places at a tell what the record R tells of them -/
def pcP (h : HS) (a s : Nat) (R : Nat → Int32) : Prop := pcT h a s ∧ ∀ p, p < s → hI h (a + 1) p = R (2 + p) ∧ hI h (a + 2) p = R (18 + p) ∧ hI h (a + 3) p = R (34 + p) ∧ ∀ q, q < s → hI h (a + 4) (p * s + q) = R (50 + 16 * p + q)
/-- a piece of weight n at a tells what the record R tells; a heavy one its weight alone -/
def pcW (h : HS) (a n : Nat) (R : Nat → Int32) : Prop := (hI h a 0 = nI n ∧ (n ≤ 6 → hI h a 1 = R 1)) ∧ a < hT h ∧ pcP h a (szP n) R
theorem szP_s {n : Nat} (h : n ≤ 6) : szP n = n := if_pos h
theorem szP_h {n : Nat} (h : 6 < n) : szP n = 0 := if_neg (by omega)
theorem pcW.s {h : HS} {a n : Nat} {R : Nat → Int32} (p : pcW h a n R) (hn : n ≤ 6) : pcS h a n R := by
  obtain ⟨⟨w0, w1⟩, _, ⟨⟨t1, t2⟩, t3⟩, r⟩ := p
  rw [szP_s hn] at t2 t3 r
  exact ⟨t1, w0, w1 hn, t2, fun q => (t3 q).1, r⟩
theorem pcW.ext {h h' : HS} {a n : Nat} {R : Nat → Int32} (p : pcW h a n R) (e : hExt h h') : pcW h' a n R := by
  obtain ⟨⟨w0, w1⟩, lt, ⟨⟨t1, t2⟩, t3⟩, r⟩ := p
  obtain ⟨a1, -, a3, a4, a5⟩ := e.2 a lt
  refine ⟨⟨by rw [a1]; exact w0, fun hn => by rw [a1]; exact w1 hn⟩, Nat.lt_of_lt_of_le lt e.1, ⟨⟨by rw [a4]; exact t1, by rw [a1]; exact t2⟩, fun q => ?_⟩, fun q hq => ?_⟩
  · obtain ⟨⟨r1, r2, r3⟩, b⟩ := t3 q
    obtain ⟨-, -, -, c1, d1⟩ := e.2 (a + 1) (by omega)
    obtain ⟨-, -, -, c2, d2⟩ := e.2 (a + 2) (by omega)
    obtain ⟨-, -, -, c3, d3⟩ := e.2 (a + 3) (by omega)
    obtain ⟨-, -, -, c4, d4⟩ := e.2 (a + 4) (by omega)
    refine ⟨⟨?_, ?_, ?_⟩, Nat.lt_of_lt_of_le b e.1⟩
    · rw [a3]; exact r1
    · rw [c1, c2, c3, c4]; exact r2
    · rw [d1, d2, d3, d4]; exact r3
  · obtain ⟨_, b⟩ := t3 (by omega)
    obtain ⟨c1, -⟩ := e.2 (a + 1) (by omega)
    obtain ⟨c2, -⟩ := e.2 (a + 2) (by omega)
    obtain ⟨c3, -⟩ := e.2 (a + 3) (by omega)
    obtain ⟨c4, -⟩ := e.2 (a + 4) (by omega)
    rw [c1, c2, c3, c4]
    exact r q hq
/-- what counts of a record of weight n is the same -/
def rQ (n : Nat) (R R' : Nat → Int32) : Prop := n ≤ 6 → R 1 = R' 1 ∧ ∀ p, p < n → R (2 + p) = R' (2 + p) ∧ R (18 + p) = R' (18 + p) ∧ R (34 + p) = R' (34 + p) ∧ ∀ q, q < n → R (50 + 16 * p + q) = R' (50 + 16 * p + q)
theorem rQ.rf (n : Nat) (R : Nat → Int32) : rQ n R R := fun _ => ⟨rfl, fun _ _ => ⟨rfl, rfl, rfl, fun _ _ => rfl⟩⟩
theorem rQ.sy {n : Nat} {R R' : Nat → Int32} (q : rQ n R R') : rQ n R' R := fun hn => ⟨(q hn).1.symm, fun p hp => ⟨((q hn).2 p hp).1.symm, ((q hn).2 p hp).2.1.symm, ((q hn).2 p hp).2.2.1.symm, fun r hr => (((q hn).2 p hp).2.2.2 r hr).symm⟩⟩
theorem rQ.tr {n : Nat} {R R' R2 : Nat → Int32} (a : rQ n R R') (b : rQ n R' R2) : rQ n R R2 := fun hn => ⟨(a hn).1.trans (b hn).1, fun p hp => ⟨((a hn).2 p hp).1.trans ((b hn).2 p hp).1, ((a hn).2 p hp).2.1.trans ((b hn).2 p hp).2.1, ((a hn).2 p hp).2.2.1.trans ((b hn).2 p hp).2.2.1, fun r hr => (((a hn).2 p hp).2.2.2 r hr).trans (((b hn).2 p hp).2.2.2 r hr)⟩⟩
theorem rQ.ag {n : Nat} {R R' : Nat → Int32} (a : Ag R R') : rQ n R R' := fun hn => ⟨a 1 (by omega), fun p hp => ⟨a _ (by omega), a _ (by omega), a _ (by omega), fun q hq => a _ (by omega)⟩⟩
theorem pcW.cg {h : HS} {a n : Nat} {R R' : Nat → Int32} (p : pcW h a n R) (q : rQ n R R') : pcW h a n R' := by
  obtain ⟨⟨w0, w1⟩, lt, t, r⟩ := p
  refine ⟨⟨w0, fun hn => (w1 hn).trans (q hn).1⟩, lt, t, fun i hi => ?_⟩
  by_cases hn : n ≤ 6
  · rw [szP_s hn] at r hi ⊢
    obtain ⟨r1, r2, r3, r4⟩ := r i hi
    obtain ⟨q1, q2, q3, q4⟩ := (q hn).2 i hi
    exact ⟨r1.trans q1, r2.trans q2, r3.trans q3, fun j hj => (r4 j hj).trans (q4 j hj)⟩
  · rw [szP_h (by omega)] at hi
    omega
/-- the four rows behind a -/
def hP (h : HS) (a : Nat) (ρ : Nat → Nat → Int32) : HS := (fun b j => if a < b ∧ b ≤ a + 4 then ρ (b - a) j else h.1 b j, h.2)
theorem hP_at {h : HS} {a i : Nat} {ρ : Nat → Nat → Int32} (h1 : 1 ≤ i) (h2 : i ≤ 4) : hI (hP h a ρ) (a + i) = ρ i := by
  funext j
  show (if a < a + i ∧ a + i ≤ a + 4 then ρ (a + i - a) j else h.1 (a + i) j) = _
  rw [if_pos (by omega), Nat.add_sub_cancel_left]
theorem hP_ne {h : HS} {a b : Nat} {ρ : Nat → Nat → Int32} (hb : ¬ (a < b ∧ b ≤ a + 4)) : hI (hP h a ρ) b = hI h b := by
  funext j
  exact if_neg hb
theorem hP_i {h : HS} {a i k : Nat} {ρ : Nat → Nat → Int32} {v : Int32} (h1 : 1 ≤ i) (h2 : i ≤ 4) : sI (hP h a ρ) (a + i) k v = hP h a (rset ρ i (upd (ρ i) k v)) := by
  unfold sI hP
  congr 1
  funext b j
  by_cases e : b = a + i
  · subst e
    show (if a + i = a + i ∧ j = k then v else if a < a + i ∧ a + i ≤ a + 4 then ρ (a + i - a) j else h.1 (a + i) j) = (if a < a + i ∧ a + i ≤ a + 4 then rset ρ i (upd (ρ i) k v) (a + i - a) j else h.1 (a + i) j)
    rw [if_pos (by omega : a < a + i ∧ a + i ≤ a + 4), if_pos (by omega : a < a + i ∧ a + i ≤ a + 4), Nat.add_sub_cancel_left, rset_eq, upd]
    by_cases e2 : j = k
    · rw [if_pos ⟨rfl, e2⟩, if_pos e2]
    · rw [if_neg (fun x => e2 x.2), if_neg e2]
  · show (if b = a + i ∧ j = k then v else if a < b ∧ b ≤ a + 4 then ρ (b - a) j else h.1 b j) = (if a < b ∧ b ≤ a + 4 then rset ρ i (upd (ρ i) k v) (b - a) j else h.1 b j)
    rw [if_neg (fun x => e x.1)]
    by_cases e2 : a < b ∧ b ≤ a + 4
    · rw [if_pos e2, if_pos e2, rset_ne (by omega)]
    · rw [if_neg e2, if_neg e2]
theorem hP_self {h : HS} {a : Nat} : hP h a (fun i => hI h (a + i)) = h := by
  unfold hP
  refine Prod.ext (funext fun b => funext fun j => ?_) rfl
  show (if a < b ∧ b ≤ a + 4 then hI h (a + (b - a)) j else h.1 b j) = h.1 b j
  by_cases e : a < b ∧ b ≤ a + 4
  · rw [if_pos e, show a + (b - a) = b by omega]; rfl
  · rw [if_neg e]
theorem pcP.hP {h : HS} {a x s : Nat} {R : Nat → Int32} {ρ : Nat → Nat → Int32} (p : pcP h x s R) (dx : x < a ∧ (0 < s → x + 4 < a)) : pcP (hP h a ρ) x s R := by
  obtain ⟨⟨⟨t1, t2⟩, t3⟩, r⟩ := p
  refine ⟨⟨⟨t1, by rw [hP_ne (by omega)]; exact t2⟩, t3⟩, fun p hp => ?_⟩
  rw [hP_ne (by omega), hP_ne (by omega), hP_ne (by omega), hP_ne (by omega)]
  exact r p hp
/-- rows 1 to 4 tell, of N places, what Z tells -/
def agR (ρ : Nat → Nat → Int32) (N : Nat) (Z : Nat → Int32) : Prop := ∀ p, p < N → ρ 1 p = Z (2 + p) ∧ ρ 2 p = Z (18 + p) ∧ ρ 3 p = Z (34 + p) ∧ ∀ q, q < N → ρ 4 (p * N + q) = Z (50 + 16 * p + q)
theorem ix_inj {p q P Q N : Nat} (hq : q < N) (hQ : Q < N) (e : p * N + q = P * N + Q) : p = P ∧ q = Q := by
  have h1 : (p * N + q) / N = p := by rw [Nat.mul_comm, Nat.mul_add_div (by omega), Nat.div_eq_of_lt hq, Nat.add_zero]
  have h2 : (P * N + Q) / N = P := by rw [Nat.mul_comm, Nat.mul_add_div (by omega), Nat.div_eq_of_lt hQ, Nat.add_zero]
  have h3 : p = P := by rw [← h1, e, h2]
  subst h3
  exact ⟨rfl, by omega⟩
theorem ix_lt {P Q N : Nat} (hP : P < N) (hQ : Q < N) : P * N + Q < N * N := by
  have : (P + 1) * N ≤ N * N := Nat.mul_le_mul_right N hP
  rw [Nat.succ_mul] at this
  omega
theorem agR.u {ρ : Nat → Nat → Int32} {N : Nat} {Z : Nat → Int32} (ag : agR ρ N Z) (hN : N ≤ 6) {P i o : Nat} (hi : (i = 1 ∧ o = 2) ∨ (i = 2 ∧ o = 18) ∨ (i = 3 ∧ o = 34)) (v : Int32) (hP : P < N) : agR (rset ρ i (upd (ρ i) P v)) N (upd Z (o + P) v) := by
  intro p hp
  obtain ⟨a1, a2, a3, a4⟩ := ag p hp
  have e4 : ∀ q, q < N → rset ρ i (upd (ρ i) P v) 4 (p * N + q) = upd Z (o + P) v (50 + 16 * p + q) := fun q hq => by
    rw [rset_ne (by omega), upd, if_neg (by omega)]
    exact a4 q hq
  refine ⟨?_, ?_, ?_, e4⟩
  · rcases hi with ⟨rfl, rfl⟩ | ⟨rfl, rfl⟩ | ⟨rfl, rfl⟩
    · rw [rset_eq, upd, upd]
      by_cases e : p = P
      · rw [if_pos e, if_pos (by omega)]
      · rw [if_neg e, if_neg (by omega)]; exact a1
    · rw [rset_ne (by omega), upd, if_neg (by omega)]; exact a1
    · rw [rset_ne (by omega), upd, if_neg (by omega)]; exact a1
  · rcases hi with ⟨rfl, rfl⟩ | ⟨rfl, rfl⟩ | ⟨rfl, rfl⟩
    · rw [rset_ne (by omega), upd, if_neg (by omega)]; exact a2
    · rw [rset_eq, upd, upd]
      by_cases e : p = P
      · rw [if_pos e, if_pos (by omega)]
      · rw [if_neg e, if_neg (by omega)]; exact a2
    · rw [rset_ne (by omega), upd, if_neg (by omega)]; exact a2
  · rcases hi with ⟨rfl, rfl⟩ | ⟨rfl, rfl⟩ | ⟨rfl, rfl⟩
    · rw [rset_ne (by omega), upd, if_neg (by omega)]; exact a3
    · rw [rset_ne (by omega), upd, if_neg (by omega)]; exact a3
    · rw [rset_eq, upd, upd]
      by_cases e : p = P
      · rw [if_pos e, if_pos (by omega)]
      · rw [if_neg e, if_neg (by omega)]; exact a3
theorem agR.u4 {ρ : Nat → Nat → Int32} {N : Nat} {Z : Nat → Int32} (ag : agR ρ N Z) (hN : N ≤ 6) {P Q : Nat} (v : Int32) (hP : P < N) (hQ : Q < N) : agR (rset ρ 4 (upd (ρ 4) (P * N + Q) v)) N (upd Z (50 + 16 * P + Q) v) := by
  intro p hp
  obtain ⟨a1, a2, a3, a4⟩ := ag p hp
  refine ⟨?_, ?_, ?_, fun q hq => ?_⟩
  · rw [rset_ne (by omega), upd, if_neg (by omega)]; exact a1
  · rw [rset_ne (by omega), upd, if_neg (by omega)]; exact a2
  · rw [rset_ne (by omega), upd, if_neg (by omega)]; exact a3
  · rw [rset_eq, upd, upd]
    by_cases e : p * N + q = P * N + Q
    · obtain ⟨e1, e2⟩ := ix_inj hq hQ e
      rw [if_pos e, if_pos (by omega)]
    · rw [if_neg e, if_neg (fun x => e (by rw [show p = P by omega, show q = Q by omega]))]
      exact a4 q hq
theorem agR.cg {ρ : Nat → Nat → Int32} {N : Nat} {Z Z' : Nat → Int32} (ag : agR ρ N Z) (e : Z = Z') : agR ρ N Z' := e ▸ ag
/-- places of X come to Z from place o on: rows before P1 (those of letters), P and of row P those before Q (of ways) -/
def cpZ (Z X : Nat → Int32) (o s P1 P Q : Nat) : Nat → Int32 := fun k => if k < 50 then (if 2 ≤ k ∧ o ≤ (k - 2) % 16 ∧ (k - 2) % 16 < o + P1 then X (k - o) else Z k) else if k < 306 ∧ o ≤ (k - 50) / 16 ∧ o ≤ (k - 50) % 16 ∧ (k - 50) % 16 < o + s ∧ ((k - 50) / 16 < o + P ∨ (k - 50) / 16 = o + P ∧ (k - 50) % 16 < o + Q) then X (k - 17 * o) else Z k
theorem cpZ_0 (Z X : Nat → Int32) (o s : Nat) : cpZ Z X o s 0 0 0 = Z := by
  funext k
  unfold cpZ
  by_cases e : k < 50
  · rw [if_pos e, if_neg (by omega)]
  · rw [if_neg e, if_neg (by omega)]
theorem cpZ_e (Z X : Nat → Int32) (o s P1 P : Nat) : cpZ Z X o s P1 P s = cpZ Z X o s P1 (P + 1) 0 := by
  funext k
  unfold cpZ
  by_cases e : k < 50
  · rw [if_pos e, if_pos e]
  · rw [if_neg e, if_neg e]
    by_cases e2 : k < 306 ∧ o ≤ (k - 50) / 16 ∧ o ≤ (k - 50) % 16 ∧ (k - 50) % 16 < o + s ∧ ((k - 50) / 16 < o + P ∨ (k - 50) / 16 = o + P ∧ (k - 50) % 16 < o + s)
    · rw [if_pos e2, if_pos (by omega)]
    · rw [if_neg e2, if_neg (by omega)]
theorem cpZ_s (Z X : Nat → Int32) {o s P1 P Q : Nat} (h1 : o + P < 16) (h2 : o + s ≤ 16) (hQ : Q < s) : upd (cpZ Z X o s P1 P Q) (50 + 16 * (o + P) + (o + Q)) (X (50 + 16 * P + Q)) = cpZ Z X o s P1 P (Q + 1) := by
  funext k
  unfold upd cpZ
  by_cases e : k = 50 + 16 * (o + P) + (o + Q)
  · subst e
    rw [if_pos rfl, if_neg (by omega), if_pos (by omega)]
    congr 1
    omega
  · rw [if_neg e]
    by_cases e1 : k < 50
    · rw [if_pos e1, if_pos e1]
    · rw [if_neg e1, if_neg e1]
      by_cases e2 : k < 306 ∧ o ≤ (k - 50) / 16 ∧ o ≤ (k - 50) % 16 ∧ (k - 50) % 16 < o + s ∧ ((k - 50) / 16 < o + P ∨ (k - 50) / 16 = o + P ∧ (k - 50) % 16 < o + Q)
      · rw [if_pos e2, if_pos (by omega)]
      · rw [if_neg e2, if_neg (by omega)]
theorem cpZ_row (Z X : Nat → Int32) {o s P : Nat} (h1 : o + P < 16) : upd (upd (upd (cpZ Z X o s P P 0) (2 + (o + P)) (X (2 + P))) (18 + (o + P)) (X (18 + P))) (34 + (o + P)) (X (34 + P)) = cpZ Z X o s (P + 1) P 0 := by
  funext k
  unfold upd cpZ
  by_cases e3 : k = 34 + (o + P)
  · subst e3
    rw [if_pos rfl, if_pos (by omega), if_pos (by omega)]
    congr 1
    omega
  rw [if_neg e3]
  by_cases e2 : k = 18 + (o + P)
  · subst e2
    rw [if_pos rfl, if_pos (by omega), if_pos (by omega)]
    congr 1
    omega
  rw [if_neg e2]
  by_cases e1 : k = 2 + (o + P)
  · subst e1
    rw [if_pos rfl, if_pos (by omega), if_pos (by omega)]
    congr 1
    omega
  rw [if_neg e1]
  by_cases e : k < 50
  · rw [if_pos e, if_pos e]
    by_cases e4 : 2 ≤ k ∧ o ≤ (k - 2) % 16 ∧ (k - 2) % 16 < o + P
    · rw [if_pos e4, if_pos (by omega)]
    · rw [if_neg e4, if_neg (by omega)]
  · rw [if_neg e, if_neg e]
section C29
variable {w : gD} {h : HS} {a x : Nat}
theorem e_pc_copy {N s o : Nat} {X Z : Nat → Int32} {ρ : Nat → Nat → Int32} (ta : pcT h a N) (hN : N ≤ 6) (px : pcP h x s X) (hs : s ≤ 6) (dx : x < a ∧ (0 < s → x + 4 < a)) (ho : o ≤ 6) (ag : o + s ≤ N → agR ρ N Z) :
    Ev w 0 0 0 yX2_copyPlaces cX2_copyPlaces 5 none [.ref a, .ref x, .int (nI o)] (hP h a ρ) (fun r' h' => r' = none ∧ ∃ ρ', h' = hP h a ρ' ∧ (o + s ≤ N → agR ρ' N (cpZ Z X o s s s 0))) := by
  refine g_start (by decide) (Nat.le_of_ble_eq_true rfl) [(0, _), (1, _), (2, _)] rfl (fun z hfl C => ?_)
  have xe : ∀ σ : Nat → Nat → Int32, hI (hP h a σ) x 2 = nI s := fun σ => by rw [hP_ne (by omega)]; exact px.1.1.2
  have outer : o + s ≤ N → ∀ y p (σ : Nat → Nat → Int32), p + y = s → agR σ N (cpZ Z X o s p p 0) → GW z w 5 (gQ z w 0 0 (fun r' h'' => r' = none ∧ ∃ ρ', h'' = hP h a ρ' ∧ (o + s ≤ N → agR ρ' N (cpZ Z X o s s s 0)))) 0 0 16 [(0, .ref a), (1, .ref x), (2, .int (nI o)), (3, .int (nI p))] [] (hP h a σ) := by
    intro hos y
    induction y with
    | zero =>
      intro p σ hp g
      have ep : p = s := by omega
      subst ep
      refine g_iload_n C (gd DX2_copyPlaces_0 10 rfl) 3 rfl rfl ?_
      refine g_aload_n C (gd DX2_copyPlaces_0 11 rfl) 1 rfl rfl ?_
      refine g_geti (ci := 2) (k := 2) C rfl (by decide) rfl lf_TestJudge_Piece_16 px.1.1.1 (gd DX2_copyPlaces_0 12 rfl) ?_
      rw [xe]
      refine g_icmp_ge C 122 (gd DX2_copyPlaces_0 13 rfl) (by decide) (fun c21 => ?_) (fun c21 => ?_)
      · exact g_vret C (by omega) (by omega) ⟨rfl, σ, rfl, fun _ => g⟩ (gd DX2_copyPlaces_1 16 rfl)
      · exact absurd (nI_le (a := p) (b := p) (Nat.le_refl _) (by omega)) c21
    | succ y ih =>
      intro p σ hp g
      have aw := (ta.2 (by omega)).1
      have xw := (px.1.2 (by omega)).1
      have hxa := dx.2 (by omega)
      obtain ⟨x1, x2, x3, x4⟩ := px.2 p (by omega)
      have inner : ∀ y2 q (σ : Nat → Nat → Int32), q + y2 = s → agR σ N (cpZ Z X o s (p + 1) p q) → GW z w 5 (gQ z w 0 0 (fun r' h'' => r' = none ∧ ∃ ρ', h'' = hP h a ρ' ∧ (o + s ≤ N → agR ρ' N (cpZ Z X o s s s 0)))) 0 0 69 [(0, .ref a), (1, .ref x), (2, .int (nI o)), (3, .int (nI p)), (4, .int (nI q))] [] (hP h a σ) := by
        intro y2
        induction y2 with
        | zero =>
          intro q σ hq g
          have eq : q = s := by omega
          subst eq
          refine g_iload C (gd DX2_copyPlaces_0 46 rfl) 4 rfl ?_
          refine g_aload_n C (gd DX2_copyPlaces_0 47 rfl) 1 rfl rfl ?_
          refine g_geti (ci := 2) (k := 2) C rfl (by decide) rfl lf_TestJudge_Piece_16 px.1.1.1 (gd DX2_copyPlaces_0 48 rfl) ?_
          rw [xe]
          refine g_icmp_ge C 116 (gd DX2_copyPlaces_0 49 rfl) (by decide) (fun c75 => ?_) (fun c75 => ?_)
          · refine GW.sub [0, 1, 2, 3, 4] rfl (Nat.le_refl _) (Nat.le_refl _) (lv' := [(0, _), (1, _), (2, _), (3, _), (4, _)]) ?_
            refine g_iinc (lv' := [(0, _), (1, _), (2, _), (3, _), (4, _)]) C (gd DX2_copyPlaces_1 14 rfl) 3 [1, 2, 3, 0, 4] rfl rfl (by decide) rfl ?_
            refine g_goto (tgt := 16) C (gd DX2_copyPlaces_1 15 rfl) (by decide) ?_
            refine GW.sub [0, 1, 2, 3] rfl (Nat.le_refl _) (Nat.le_refl _) (lv' := [(0, _), (1, _), (2, _), (3, _)]) ?_
            refine GW.cast (by rw [inc1]) rfl rfl (ih (p + 1) σ (by omega) ?_)
            rw [cpZ_e] at g
            exact g
          · exact absurd (nI_le (a := q) (b := q) (Nat.le_refl _) (by omega)) c75
        | succ y2 ih2 =>
          intro q σ hq g
          refine g_iload C (gd DX2_copyPlaces_0 46 rfl) 4 rfl ?_
          refine g_aload_n C (gd DX2_copyPlaces_0 47 rfl) 1 rfl rfl ?_
          refine g_geti (ci := 2) (k := 2) C rfl (by decide) rfl lf_TestJudge_Piece_16 px.1.1.1 (gd DX2_copyPlaces_0 48 rfl) ?_
          rw [xe]
          refine g_icmp_ge C 116 (gd DX2_copyPlaces_0 49 rfl) (by decide) (fun c75 => ?_) (fun c75 => ?_)
          · exact absurd c75 (nI_ge (by omega) (by omega))
          · refine g_aload_n C (gd DX2_copyPlaces_0 50 rfl) 0 rfl rfl ?_
            refine g_getr (ci := 2) (k := 6) C rfl (by decide) rfl lf_TestJudge_Piece_34 ta.1.1 aw.1.2.2.2 (gd DX2_copyPlaces_0 51 rfl) ?_
            refine g_iload_n C (gd DX2_copyPlaces_0 52 rfl) 2 rfl rfl ?_
            refine g_iload_n C (gd DX2_copyPlaces_0 53 rfl) 3 rfl rfl ?_
            refine g_iadd C (gd DX2_copyPlaces_0 54 rfl) ?_
            refine g_aload_n C (gd DX2_copyPlaces_0 55 rfl) 0 rfl rfl ?_
            refine g_geti (ci := 2) (k := 2) C rfl (by decide) rfl lf_TestJudge_Piece_16 ta.1.1 (gd DX2_copyPlaces_0 56 rfl) ?_
            rw [show hI (hP h a σ) a 2 = nI N by rw [hP_ne (by omega)]; exact ta.1.2]
            refine g_imul C (gd DX2_copyPlaces_0 57 rfl) ?_
            refine g_iload_n C (gd DX2_copyPlaces_0 58 rfl) 2 rfl rfl ?_
            refine g_iadd C (gd DX2_copyPlaces_0 59 rfl) ?_
            refine g_iload C (gd DX2_copyPlaces_1 0 rfl) 4 rfl ?_
            refine g_iadd C (gd DX2_copyPlaces_1 1 rfl) ?_
            refine g_aload_n C (gd DX2_copyPlaces_1 2 rfl) 1 rfl rfl ?_
            refine g_getr (ci := 2) (k := 6) C rfl (by decide) rfl lf_TestJudge_Piece_34 px.1.1.1 xw.1.2.2.2 (gd DX2_copyPlaces_1 3 rfl) ?_
            refine g_iload_n C (gd DX2_copyPlaces_1 4 rfl) 3 rfl rfl ?_
            refine g_aload_n C (gd DX2_copyPlaces_1 5 rfl) 1 rfl rfl ?_
            refine g_geti (ci := 2) (k := 2) C rfl (by decide) rfl lf_TestJudge_Piece_16 px.1.1.1 (gd DX2_copyPlaces_1 6 rfl) ?_
            rw [xe]
            refine g_imul C (gd DX2_copyPlaces_1 7 rfl) ?_
            refine g_iload C (gd DX2_copyPlaces_1 8 rfl) 4 rfl ?_
            refine g_iadd C (gd DX2_copyPlaces_1 9 rfl) ?_
            refine g_iaj (j := p * s + q) C xw.2.1.2.2.2 xw.2.2.2.2.2 (Nat.lt_of_le_of_lt (Nat.mul_le_mul hs hs) (by decide)) (nx_add (nx_mul rfl rfl) rfl) (ix_lt (by omega) (by omega)) (gd DX2_copyPlaces_1 10 rfl) ?_
            rw [hP_ne (by omega), x4 q (by omega)]
            refine g_isj (j := (o + p) * N + (o + q)) C aw.2.1.2.2.2 aw.2.2.2.2.2 (Nat.lt_of_le_of_lt (Nat.mul_le_mul hN hN) (by decide)) (by rw [show (o + p) * N + (o + q) = (o + p) * N + o + q by omega]; exact nx_add (nx_add (nx_mul (nx_add rfl rfl) rfl) rfl) rfl) (ix_lt (by omega) (by omega)) (gd DX2_copyPlaces_1 11 rfl) ?_
            rw [hP_i (by omega) (by omega)]
            refine g_iinc (lv' := [(0, _), (1, _), (2, _), (3, _), (4, _)]) C (gd DX2_copyPlaces_1 12 rfl) 4 [1, 2, 3, 4, 0] rfl rfl (by decide) rfl ?_
            refine g_goto (tgt := 69) C (gd DX2_copyPlaces_1 13 rfl) (by decide) ?_
            refine GW.cast (by rw [inc1]) rfl rfl (ih2 (q + 1) _ (by omega) ?_)
            exact (g.u4 hN _ (by omega) (by omega)).cg (cpZ_s Z X (by omega) (by omega) (by omega))
      refine g_iload_n C (gd DX2_copyPlaces_0 10 rfl) 3 rfl rfl ?_
      refine g_aload_n C (gd DX2_copyPlaces_0 11 rfl) 1 rfl rfl ?_
      refine g_geti (ci := 2) (k := 2) C rfl (by decide) rfl lf_TestJudge_Piece_16 px.1.1.1 (gd DX2_copyPlaces_0 12 rfl) ?_
      rw [xe]
      refine g_icmp_ge C 122 (gd DX2_copyPlaces_0 13 rfl) (by decide) (fun c21 => ?_) (fun c21 => ?_)
      · exact absurd c21 (nI_ge (by omega) (by omega))
      · refine g_aload_n C (gd DX2_copyPlaces_0 14 rfl) 0 rfl rfl ?_
        refine g_getr (ci := 2) (k := 3) C rfl (by decide) rfl lf_TestJudge_Piece_25 ta.1.1 aw.1.1 (gd DX2_copyPlaces_0 15 rfl) ?_
        refine g_iload_n C (gd DX2_copyPlaces_0 16 rfl) 2 rfl rfl ?_
        refine g_iload_n C (gd DX2_copyPlaces_0 17 rfl) 3 rfl rfl ?_
        refine g_iadd C (gd DX2_copyPlaces_0 18 rfl) ?_
        refine g_aload_n C (gd DX2_copyPlaces_0 19 rfl) 1 rfl rfl ?_
        refine g_getr (ci := 2) (k := 3) C rfl (by decide) rfl lf_TestJudge_Piece_25 px.1.1.1 xw.1.1 (gd DX2_copyPlaces_0 20 rfl) ?_
        refine g_iload_n C (gd DX2_copyPlaces_0 21 rfl) 3 rfl rfl ?_
        refine g_iaj (j := p) C xw.2.1.1 xw.2.2.1 (by first | decide | omega) rfl (by omega) (gd DX2_copyPlaces_0 22 rfl) ?_
        rw [hP_ne (by omega), x1]
        refine g_isj (j := o + p) C aw.2.1.1 aw.2.2.1 (by first | decide | omega) (nx_add rfl rfl) (by omega) (gd DX2_copyPlaces_0 23 rfl) ?_
        rw [hP_i (by omega) (by omega)]
        refine g_aload_n C (gd DX2_copyPlaces_0 24 rfl) 0 rfl rfl ?_
        refine g_getr (ci := 2) (k := 4) C rfl (by decide) rfl lf_TestJudge_Piece_28 ta.1.1 aw.1.2.1 (gd DX2_copyPlaces_0 25 rfl) ?_
        refine g_iload_n C (gd DX2_copyPlaces_0 26 rfl) 2 rfl rfl ?_
        refine g_iload_n C (gd DX2_copyPlaces_0 27 rfl) 3 rfl rfl ?_
        refine g_iadd C (gd DX2_copyPlaces_0 28 rfl) ?_
        refine g_aload_n C (gd DX2_copyPlaces_0 29 rfl) 1 rfl rfl ?_
        refine g_getr (ci := 2) (k := 4) C rfl (by decide) rfl lf_TestJudge_Piece_28 px.1.1.1 xw.1.2.1 (gd DX2_copyPlaces_0 30 rfl) ?_
        refine g_iload_n C (gd DX2_copyPlaces_0 31 rfl) 3 rfl rfl ?_
        refine g_iaj (j := p) C xw.2.1.2.1 xw.2.2.2.1 (by first | decide | omega) rfl (by omega) (gd DX2_copyPlaces_0 32 rfl) ?_
        rw [hP_ne (by omega), x2]
        refine g_isj (j := o + p) C aw.2.1.2.1 aw.2.2.2.1 (by first | decide | omega) (nx_add rfl rfl) (by omega) (gd DX2_copyPlaces_0 33 rfl) ?_
        rw [hP_i (by omega) (by omega)]
        refine g_aload_n C (gd DX2_copyPlaces_0 34 rfl) 0 rfl rfl ?_
        refine g_getr (ci := 2) (k := 5) C rfl (by decide) rfl lf_TestJudge_Piece_31 ta.1.1 aw.1.2.2.1 (gd DX2_copyPlaces_0 35 rfl) ?_
        refine g_iload_n C (gd DX2_copyPlaces_0 36 rfl) 2 rfl rfl ?_
        refine g_iload_n C (gd DX2_copyPlaces_0 37 rfl) 3 rfl rfl ?_
        refine g_iadd C (gd DX2_copyPlaces_0 38 rfl) ?_
        refine g_aload_n C (gd DX2_copyPlaces_0 39 rfl) 1 rfl rfl ?_
        refine g_getr (ci := 2) (k := 5) C rfl (by decide) rfl lf_TestJudge_Piece_31 px.1.1.1 xw.1.2.2.1 (gd DX2_copyPlaces_0 40 rfl) ?_
        refine g_iload_n C (gd DX2_copyPlaces_0 41 rfl) 3 rfl rfl ?_
        refine g_iaj (j := p) C xw.2.1.2.2.1 xw.2.2.2.2.1 (by first | decide | omega) rfl (by omega) (gd DX2_copyPlaces_0 42 rfl) ?_
        rw [hP_ne (by omega), x3]
        refine g_isj (j := o + p) C aw.2.1.2.2.1 aw.2.2.2.2.1 (by first | decide | omega) (nx_add rfl rfl) (by omega) (gd DX2_copyPlaces_0 43 rfl) ?_
        rw [hP_i (by omega) (by omega)]
        refine g_iconst (v := 0) C (gd DX2_copyPlaces_0 44 rfl) (by decide) ?_
        refine g_istore (lv' := [(0, _), (1, _), (2, _), (3, _), (4, _)]) C (gd DX2_copyPlaces_0 45 rfl) [1, 2, 3, 4, 0] (by decide) rfl ?_
        refine inner s 0 _ (by omega) ?_
        have g1 := g.u hN (Or.inl ⟨rfl, rfl⟩) (X (2 + p)) (P := o + p) (by omega)
        have g2 := g1.u hN (Or.inr (Or.inl ⟨rfl, rfl⟩)) (X (18 + p)) (P := o + p) (by omega)
        have g3 := g2.u hN (Or.inr (Or.inr ⟨rfl, rfl⟩)) (X (34 + p)) (P := o + p) (by omega)
        exact g3.cg (cpZ_row Z X (by omega))
  refine g_iload_n C (gd DX2_copyPlaces_0 0 rfl) 2 rfl rfl ?_
  refine g_aload_n C (gd DX2_copyPlaces_0 1 rfl) 1 rfl rfl ?_
  refine g_geti (ci := 2) (k := 2) C rfl (by decide) rfl lf_TestJudge_Piece_16 px.1.1.1 (gd DX2_copyPlaces_0 2 rfl) ?_
  rw [xe]
  refine g_iadd C (gd DX2_copyPlaces_0 3 rfl) ?_
  refine g_aload_n C (gd DX2_copyPlaces_0 4 rfl) 0 rfl rfl ?_
  refine g_geti (ci := 2) (k := 2) C rfl (by decide) rfl lf_TestJudge_Piece_16 ta.1.1 (gd DX2_copyPlaces_0 5 rfl) ?_
  rw [show hI (hP h a ρ) a 2 = nI N by rw [hP_ne (by omega)]; exact ta.1.2, show nI o + nI s = nI (o + s) from nx_add rfl rfl]
  refine g_icmp_le C 14 (gd DX2_copyPlaces_0 6 rfl) (by decide) (fun c10 => ?_) (fun c10 => ?_)
  · have hos := (nI_leI (a := o + s) (b := N) (by omega) (by omega)).mp c10
    refine g_iconst (v := 0) C (gd DX2_copyPlaces_0 8 rfl) (by decide) ?_
    refine g_istore_n (lv' := [(0, _), (1, _), (2, _), (3, _)]) C (gd DX2_copyPlaces_0 9 rfl) [1, 2, 3, 0] rfl (by decide) rfl ?_
    refine outer hos s 0 ρ (by omega) ?_
    rw [cpZ_0]
    exact ag hos
  · exact g_vret C (by omega) (by omega) ⟨rfl, ρ, rfl, fun q => absurd (nI_le (a := o + s) (b := N) q (by omega)) c10⟩ (gd DX2_copyPlaces_0 7 rfl)
end C29
