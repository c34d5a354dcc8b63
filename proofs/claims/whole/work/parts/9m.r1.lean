/-! the class's Reader: what it may change; fail, expect, advance, beginsBase, opens -/
/-- the reader U, its world W, its tokens T, its names N -/
def cQ (U W T N : Nat) (h : HS) : Prop := (hK h U = 4 ∧ hR h U 0 = some W ∧ hR h U 3 = some T ∧ hR h U 4 = some N) ∧ (hK h N = 12 ∧ hN h N = 14) ∧ kSh T h ∧ wSh W h ∧ U < hT h ∧ T + 3 < hT h ∧ W + 5 < hT h ∧ N < hT h
/-- only the token in hand changes -/
def tF (T : Nat) (h h' : HS) : Prop := h'.2 = h.2 ∧ ∀ b k, ¬ (b = T ∧ 1 ≤ k ∧ k ≤ 4) → hI h' b k = hI h b k
/-- with no fault the place stays -1 -/
def plU (U T : Nat) (h h' : HS) : Prop := U ≠ T → (hI h U 1 = 0 → hI h U 2 = -1) → hI h' U 1 = 0 → hI h' U 2 = -1
theorem plU.tr {U T : Nat} {h h1 h2 : HS} (a : plU U T h h1) (b : plU U T h1 h2) : plU U T h h2 := fun n p => b n (a n p)
/-- the token in hand, fault and place change, and there is more behind -/
def qF (U T : Nat) (h h' : HS) : Prop := hT h ≤ hT h' ∧ ∀ b, b < hT h → (hL h' b = hL h b ∧ hR h' b = hR h b ∧ hK h' b = hK h b ∧ hN h' b = hN h b ∧ (b = U → plU U T h h')) ∧ ∀ k, ¬ (b = U ∧ (k = 1 ∨ k = 2)) → ¬ (b = T ∧ 1 ≤ k ∧ k ≤ 4) → hI h' b k = hI h b k
/-- the tokens of a text, c of them, j in hand -/
def cT (T : Nat) (h : HS) (tx : Nat → Nat) (n c j : Nat) : Prop := tkS tx n c (hI h T) (hI h (T + 1)) (hI h (T + 2)) (hI h (T + 3)) ∧ tkC tx n j (hI h T)
theorem qF.rf (U T : Nat) (h : HS) : qF U T h h := ⟨Nat.le_refl _, fun _ _ => ⟨⟨rfl, rfl, rfl, rfl, fun _ _ p => p⟩, fun _ _ _ => rfl⟩⟩
theorem qF.tr {U T : Nat} {h h1 h2 : HS} (a : qF U T h h1) (b : qF U T h1 h2) : qF U T h h2 := by
  refine ⟨Nat.le_trans a.1 b.1, fun c hc => ?_⟩
  obtain ⟨⟨a1, a2, a3, a4, a6⟩, a5⟩ := a.2 c hc
  obtain ⟨⟨b1, b2, b3, b4, b6⟩, b5⟩ := b.2 c (Nat.lt_of_lt_of_le hc a.1)
  exact ⟨⟨b1.trans a1, b2.trans a2, b3.trans a3, b4.trans a4, fun e => (a6 e).tr (b6 e)⟩, fun k p q => (b5 k p q).trans (a5 k p q)⟩
theorem hExt.q {U T : Nat} {h h1 : HS} (e : hExt h h1) : qF U T h h1 := ⟨e.1, fun b hb => ⟨⟨(e.2 b hb).2.1, (e.2 b hb).2.2.1, (e.2 b hb).2.2.2.1, (e.2 b hb).2.2.2.2, fun x _ p => by subst x; rw [(e.2 b hb).1]; exact p⟩, fun k _ _ => by rw [(e.2 b hb).1]⟩⟩
theorem tF.q {U T : Nat} {h h1 : HS} (a : tF T h h1) : qF U T h h1 := by
  obtain ⟨a1, a2⟩ := a
  refine ⟨by show h.2.2.2.2.2 ≤ h1.2.2.2.2.2; rw [a1]; exact Nat.le_refl _, fun b _ => ⟨⟨?_, ?_, ?_, ?_, fun _ n p => by rw [a2 U 1 (fun x => n x.1), a2 U 2 (fun x => n x.1)]; exact p⟩, fun k _ q => a2 b k q⟩⟩
  · show h1.2.1 b = h.2.1 b; rw [a1]
  · show h1.2.2.1 b = h.2.2.1 b; rw [a1]
  · show h1.2.2.2.1 b = h.2.2.2.1 b; rw [a1]
  · show h1.2.2.2.2.1 b = h.2.2.2.2.1 b; rw [a1]
theorem tF.rf (T : Nat) (h : HS) : tF T h h := ⟨rfl, fun _ _ _ => rfl⟩
theorem tF.tr {T : Nat} {h h1 h2 : HS} (a : tF T h h1) (b : tF T h1 h2) : tF T h h2 := ⟨b.1.trans a.1, fun c k q => (b.2 c k q).trans (a.2 c k q)⟩
theorem qF.i {U T : Nat} {h : HS} {v u : Int32} (hv : v ≠ 0) : qF U T h (sI (sI h U 1 v) U 2 u) := ⟨Nat.le_refl _, fun b _ => ⟨⟨rfl, rfl, rfl, rfl, fun _ _ _ p => absurd (by rw [hI_sI, if_neg (by omega), hI_sI, if_pos ⟨rfl, rfl⟩] at p; exact p) hv⟩, fun j q _ => by rw [hI_sI, if_neg (fun x => q ⟨x.1, by omega⟩), hI_sI, if_neg (fun x => q ⟨x.1, by omega⟩)]⟩⟩
theorem kSh.q {U T : Nat} {h h1 : HS} (hk : kSh T h) (lt : T + 3 < hT h) (a : qF U T h h1) : kSh T h1 := by
  obtain ⟨⟨-, b2, b3, b4, -⟩, -⟩ := a.2 T (by omega)
  obtain ⟨⟨-, -, c3, c4, -⟩, -⟩ := a.2 (T + 1) (by omega)
  obtain ⟨⟨-, -, d3, d4, -⟩, -⟩ := a.2 (T + 2) (by omega)
  obtain ⟨⟨-, -, e3, e4, -⟩, -⟩ := a.2 (T + 3) (by omega)
  unfold kSh
  rw [b2, b3, c3, c4, d3, d4, e3, e4]
  exact hk
theorem wSh.q {U T W : Nat} {h h1 : HS} (hk : wSh W h) (lt : W + 5 < hT h) (a : qF U T h h1) : wSh W h1 := by
  obtain ⟨⟨-, b2, b3, -⟩, -⟩ := a.2 W (by omega)
  obtain ⟨⟨-, -, c3, c4, -⟩, -⟩ := a.2 (W + 1) (by omega)
  obtain ⟨⟨-, -, d3, d4, -⟩, -⟩ := a.2 (W + 2) (by omega)
  obtain ⟨⟨-, -, e3, e4, -⟩, -⟩ := a.2 (W + 3) (by omega)
  obtain ⟨⟨-, -, f3, f4, -⟩, -⟩ := a.2 (W + 4) (by omega)
  obtain ⟨⟨-, -, g3, g4, -⟩, -⟩ := a.2 (W + 5) (by omega)
  unfold wSh
  rw [b2, b3, c3, c4, d3, d4, e3, e4, f3, f4, g3]
  exact hk
theorem cQ.q {U W T N : Nat} {h h1 : HS} (hq : cQ U W T N h) (a : qF U T h h1) : cQ U W T N h1 := by
  obtain ⟨⟨q1, q2, q3, q4⟩, ⟨q5, q6⟩, q7, q8, l1, l2, l3, l4⟩ := hq
  obtain ⟨⟨-, b2, b3, -⟩, -⟩ := a.2 U l1
  obtain ⟨⟨-, -, c3, c4, -⟩, -⟩ := a.2 N l4
  have := a.1
  refine ⟨⟨b3.trans q1, by rw [b2]; exact q2, by rw [b2]; exact q3, by rw [b2]; exact q4⟩, ⟨c3.trans q5, c4.trans q6⟩, q7.q l2 a, q8.q l3 a, by omega, by omega, by omega, by omega⟩
theorem pcW.q {U T a n : Nat} {R : Nat → Int32} {h h1 : HS} (p : pcW h a n R) (kU : hK h U = 4) (kT : hK h T = 8) (e : qF U T h h1) : pcW h1 a n R := by
  obtain ⟨⟨w0, w1⟩, lt, ⟨⟨t1, t2⟩, t3⟩, r⟩ := p
  have aU : a ≠ U := fun x => by rw [x, kU] at t1; exact absurd t1 (by decide)
  have aT : a ≠ T := fun x => by rw [x, kT] at t1; exact absurd t1 (by decide)
  obtain ⟨⟨-, a3, a4, a5, -⟩, a1⟩ := e.2 a lt
  have a1' : ∀ k, hI h1 a k = hI h a k := fun k => a1 k (fun x => aU x.1) (fun x => aT x.1)
  have ot : ∀ i, hK h (a + i) = 12 → a + i < hT h → hI h1 (a + i) = hI h (a + i) := fun i h1 h2 => funext fun k => (e.2 (a + i) h2).2 k (fun x => by rw [x.1, kU] at h1; exact absurd h1 (by decide)) (fun x => by rw [x.1, kT] at h1; exact absurd h1 (by decide))
  refine ⟨⟨by rw [a1']; exact w0, fun hn => by rw [a1']; exact w1 hn⟩, Nat.lt_of_lt_of_le lt e.1, ⟨⟨by rw [a4]; exact t1, by rw [a1']; exact t2⟩, fun q => ?_⟩, fun q hq => ?_⟩
  · obtain ⟨⟨r1, r2, r3⟩, b⟩ := t3 q
    obtain ⟨⟨-, -, c1, d1, -⟩, -⟩ := e.2 (a + 1) (by omega)
    obtain ⟨⟨-, -, c2, d2, -⟩, -⟩ := e.2 (a + 2) (by omega)
    obtain ⟨⟨-, -, c3, d3, -⟩, -⟩ := e.2 (a + 3) (by omega)
    obtain ⟨⟨-, -, c4, d4, -⟩, -⟩ := e.2 (a + 4) (by omega)
    refine ⟨⟨?_, ?_, ?_⟩, Nat.lt_of_lt_of_le b e.1⟩
    · rw [a3]; exact r1
    · rw [c1, c2, c3, c4]; exact r2
    · rw [d1, d2, d3, d4]; exact r3
  · obtain ⟨⟨-, ⟨k1, k2, k3, k4⟩, -⟩, b⟩ := t3 (by omega)
    rw [ot 1 k1 (by omega), ot 2 k2 (by omega), ot 3 k3 (by omega), ot 4 k4 (by omega)]
    exact r q hq
/-- the token in hand stays -/
theorem cT.sm {U W T N : Nat} {h h1 : HS} {tx : Nat → Nat} {n c j : Nat} (ct : cT T h tx n c j) (hq : cQ U W T N h) (a : qF U T h h1) (e : ∀ k, 1 ≤ k → k ≤ 4 → hI h1 T k = hI h T k) : cT T h1 tx n c j := by
  obtain ⟨⟨q1, -⟩, -, ⟨k0, ⟨-, k1, -⟩, ⟨-, k2, -⟩, -, k3, -⟩, -, l1, l2, -⟩ := hq
  have ot : ∀ i, 1 ≤ i → i ≤ 3 → hK h (T + i) = 12 → hI h1 (T + i) = hI h (T + i) := fun i i1 i2 h1 => funext fun k => (a.2 (T + i) (by omega)).2 k (fun x => by rw [x.1, q1] at h1; exact absurd h1 (by decide)) (fun x => by omega)
  have e0 : hI h1 T 0 = hI h T 0 := (a.2 T (by omega)).2 0 (fun x => by omega) (fun x => by omega)
  obtain ⟨⟨c1, c2⟩, d1, d2, d3, d4⟩ := ct
  refine ⟨⟨e0.trans c1, ?_⟩, (e 4 (by omega) (by omega)).trans d1, (e 1 (by omega) (by omega)).trans d2, (e 3 (by omega) (by omega)).trans d3, fun x => (e 2 (by omega) (by omega)).trans (d4 x)⟩
  rw [ot 1 (by omega) (by omega) k1, ot 2 (by omega) (by omega) k2, ot 3 (by omega) (by omega) k3]
  exact c2
theorem cT.ext {U W T N : Nat} {h h1 : HS} {tx : Nat → Nat} {n c j : Nat} (ct : cT T h tx n c j) (hq : cQ U W T N h) (a : hExt h h1) : cT T h1 tx n c j := ct.sm hq (hExt.q (U := U) a) (fun k _ _ => by rw [(a.2 T (by have := hq.2.2.2.2.2.1; omega)).1])
section R1
variable {w : gD} {U W T N : Nat} {h : HS} {tx : Nat → Nat} {n c j : Nat}
theorem e_k_adv (hk : kSh T h) (ct : cT T h tx n c j) (hj : j + 1 < c) : Ev w 0 0 0 yX7_advance cX7_advance 1 none [.ref T] h (fun r' h' => r' = none ∧ tF T h h' ∧ cT T h' tx n c (j + 1)) := by
  obtain ⟨⟨c1, ⟨c2, c3⟩, c4, c5⟩, d1, d2, d3, d4⟩ := ct
  have e := e_k_advance (w := w) (h := h) hk (F := hI h T) (A := hI h (T + 1)) (B := hI h (T + 2)) (E := hI h (T + 3)) (c := c) (j := j + 1) c3 hj c1 d1
  rw [hTk_self] at e
  refine Ev.to e (fun r h' hp => ?_)
  obtain ⟨rfl, rfl⟩ := hp
  refine ⟨rfl, ⟨rfl, fun b k q => ?_⟩, ⟨?_, ?_⟩⟩
  · by_cases hb : T ≤ b ∧ b ≤ T + 3
    · rcases (show b = T ∨ b = T + 1 ∨ b = T + 2 ∨ b = T + 3 by omega) with e | e | e | e
      · subst e
        rw [hTk_0]
        unfold upd
        rw [if_neg (fun x => q ⟨rfl, by omega⟩), if_neg (fun x => q ⟨rfl, by omega⟩), if_neg (fun x => q ⟨rfl, by omega⟩), if_neg (fun x => q ⟨rfl, by omega⟩)]
      · rw [e, hTk_1]
      · rw [e, hTk_2]
      · rw [e, hTk_3]
    · rw [hTk_ne hb]
  · rw [hTk_0, hTk_1, hTk_2, hTk_3]
    exact ⟨c1, ⟨c2, c3⟩, c4, c5⟩
  · rw [hTk_0]
    obtain ⟨k1, k2, k3⟩ := c4 (j + 1) hj
    exact ⟨rfl, k1, k2, k3⟩
theorem e_r_opens (hc : c < 2 ^ 30) : EvF w 0 0 0 yX3_opens cX3_opens 1 (some .boolean) [.int (nI c)] h (some (.int (b1 (pOpn c)))) h := by
  refine g_start (by decide) (Nat.le_of_ble_eq_true rfl) [(0, _)] rfl (fun z hfl C => ?_)
  have yes : pOpn c → GW z w 1 (gQ z w 0 0 (fun r' h'' => r' = some (.int (b1 (pOpn c))) ∧ h'' = h)) 0 0 25 [(0, .int (nI c))] [] h := by
    intro q
    refine g_iconst (v := 1) C (gd DX3_opens_0 12 rfl) (by decide) ?_
    refine g_goto (tgt := 30) C (gd DX3_opens_0 13 rfl) (by decide) ?_
    exact g_zret C (by decide) (by omega) (by omega) ⟨by rw [b1_t q], rfl⟩ (gd DX3_opens_0 15 rfl)
  refine g_iload_n C (gd DX3_opens_0 0 rfl) 0 rfl rfl ?_
  refine g_bipush (v := 33) C (gd DX3_opens_0 1 rfl) (by decide) ?_
  refine g_icmp_eq C 25 (gd DX3_opens_0 2 rfl) (by decide) (fun c3 => ?_) (fun c3 => ?_)
  · have e := (nI_eq (a := c) (b := 33) (by omega) (by omega)).mp c3
    exact yes (Or.inl e)
  have n1 : ¬ c = 33 := fun q => c3 (by rw [q]; rfl)
  refine g_iload_n C (gd DX3_opens_0 3 rfl) 0 rfl rfl ?_
  refine g_bipush (v := 40) C (gd DX3_opens_0 4 rfl) (by decide) ?_
  refine g_icmp_eq C 25 (gd DX3_opens_0 5 rfl) (by decide) (fun c9 => ?_) (fun c9 => ?_)
  · have e := (nI_eq (a := c) (b := 40) (by omega) (by omega)).mp c9
    exact yes (Or.inr (Or.inl e))
  have n2 : ¬ c = 40 := fun q => c9 (by rw [q]; rfl)
  refine g_iload_n C (gd DX3_opens_0 6 rfl) 0 rfl rfl ?_
  refine g_sipush (v := 294) C (gd DX3_opens_0 7 rfl) (by decide) ?_
  refine g_icmp_eq C 25 (gd DX3_opens_0 8 rfl) (by decide) (fun c16 => ?_) (fun c16 => ?_)
  · have e := (nI_eq (a := c) (b := 294) (by omega) (by omega)).mp c16
    exact yes (Or.inr (Or.inr (Or.inl e)))
  have n3 : ¬ c = 294 := fun q => c16 (by rw [q]; rfl)
  refine g_iload_n C (gd DX3_opens_0 9 rfl) 0 rfl rfl ?_
  refine g_ldc (v := 24388997) C (gd DX3_opens_0 10 rfl) lk_TestJudge_Reader_143 ?_
  refine g_icmp_ne C 29 (gd DX3_opens_0 11 rfl) (by decide) (fun c22 => ?_) (fun c22 => ?_)
  · refine g_iconst (v := 0) C (gd DX3_opens_0 14 rfl) (by decide) ?_
    exact g_zret C (by decide) (by omega) (by omega) ⟨by rw [b1_f (fun q => by rcases q with q | q | q | q <;> first | exact n1 q | exact n2 q | exact n3 q | exact c22 (by rw [q]; rfl))], rfl⟩ (gd DX3_opens_0 15 rfl)
  · have e := (nI_eq (a := c) (b := 24388997) (by omega) (by omega)).mp (by first | exact c22 | exact Decidable.of_not_not c22)
    exact yes (Or.inr (Or.inr (Or.inr e)))
theorem e_r_beginsBase (hc : c < 2 ^ 30) : EvF w 1 0 0 yX3_beginsBase cX3_beginsBase 1 (some .boolean) [.int (nI c)] h (some (.int (b1 (pBeg c)))) h := by
  refine g_start (by decide) (Nat.le_of_ble_eq_true rfl) [(0, _)] rfl (fun z hfl C => ?_)
  have yes : pBeg c → GW z w 1 (gQ z w 0 0 (fun r' h'' => r' = some (.int (b1 (pBeg c))) ∧ h'' = h)) 0 0 24 [(0, .int (nI c))] [] h := by
    intro q
    refine g_iconst (v := 1) C (gd DX3_beginsBase_0 12 rfl) (by decide) ?_
    refine g_goto (tgt := 29) C (gd DX3_beginsBase_0 13 rfl) (by decide) ?_
    exact g_zret C (by decide) (by omega) (by omega) ⟨by rw [b1_t q], rfl⟩ (gd DX3_beginsBase_0 15 rfl)
  refine g_iload_n C (gd DX3_beginsBase_0 0 rfl) 0 rfl rfl ?_
  refine g_bipush (v := 48) C (gd DX3_beginsBase_0 1 rfl) (by decide) ?_
  refine g_icmp_eq C 24 (gd DX3_beginsBase_0 2 rfl) (by decide) (fun c3 => ?_) (fun c3 => ?_)
  · have e := (nI_eq (a := c) (b := 48) (by omega) (by omega)).mp c3
    exact yes (Or.inl e)
  have n1 : ¬ c = 48 := fun q => c3 (by rw [q]; rfl)
  refine g_iload_n C (gd DX3_beginsBase_0 3 rfl) 0 rfl rfl ?_
  refine g_bipush (v := 49) C (gd DX3_beginsBase_0 4 rfl) (by decide) ?_
  refine g_icmp_eq C 24 (gd DX3_beginsBase_0 5 rfl) (by decide) (fun c9 => ?_) (fun c9 => ?_)
  · have e := (nI_eq (a := c) (b := 49) (by omega) (by omega)).mp c9
    exact yes (Or.inr (Or.inl e))
  have n2 : ¬ c = 49 := fun q => c9 (by rw [q]; rfl)
  refine g_iload_n C (gd DX3_beginsBase_0 6 rfl) 0 rfl rfl ?_
  refine g_iconst (v := 2) C (gd DX3_beginsBase_0 7 rfl) (by decide) ?_
  refine g_icmp_eq C 24 (gd DX3_beginsBase_0 8 rfl) (by decide) (fun c14 => ?_) (fun c14 => ?_)
  · have e := (nI_eq (a := c) (b := 2) (by omega) (by omega)).mp c14
    exact yes (Or.inr (Or.inr (Or.inl e)))
  have n3 : ¬ c = 2 := fun q => c14 (by rw [q]; rfl)
  refine g_iload_n C (gd DX3_beginsBase_0 9 rfl) 0 rfl rfl ?_
  refine g_cS1 C [_] mX3_opens lm_TestJudge_Reader_140 (e_r_opens hc) hfl (by first | decide | omega) (by decide) (by omega) (by omega) rfl rfl (Nat.le_of_ble_eq_true rfl) (gd DX3_beginsBase_0 10 rfl) ?_
  by_cases e : pOpn c
  · rw [b1_t e]
    refine g_if_eq C 28 (gd DX3_beginsBase_0 11 rfl) (by decide) (fun c21 => ?_) (fun c21 => ?_)
    · exact absurd c21 (by decide)
    · exact yes (Or.inr (Or.inr (Or.inr e)))
  · rw [b1_f e]
    refine g_if_eq C 28 (gd DX3_beginsBase_0 11 rfl) (by decide) (fun c21 => ?_) (fun c21 => ?_)
    · refine g_iconst (v := 0) C (gd DX3_beginsBase_0 14 rfl) (by decide) ?_
      exact g_zret C (by decide) (by omega) (by omega) ⟨by rw [b1_f (fun q => by rcases q with q | q | q | q <;> first | exact n1 q | exact n2 q | exact n3 q | exact e q)], rfl⟩ (gd DX3_beginsBase_0 15 rfl)
    · exact absurd rfl c21
end R1
