/-! right, strongest, weakest, keeps: the class's rests and the reference's states agree -/
theorem sub_iff {x y : Int32} : x &&& (y ^^^ -1) = 0 ↔ ∀ b, b < 32 → hasB x (nI b) → hasB y (nI b) := by
  constructor
  · intro e b hb q
    apply Classical.byContradiction
    intro n
    have : hasB (x &&& (y ^^^ -1)) (nI b) := (hasB_and hb).mpr ⟨q, (hasB_nt hb).mpr n⟩
    rw [e] at this
    exact hasB_0 hb this
  · intro a
    refine hasB_ext fun b hb => ⟨fun q => ?_, fun q => absurd q (hasB_0 hb)⟩
    obtain ⟨q1, q2⟩ := (hasB_and hb).mp q
    exact absurd (a b hb q1) ((hasB_nt hb).mp q2)
section PA
variable {P : kP} {m N : Nat} {h : HS} {ρ : Nat → Nat → Int32}
theorem brc_eA (l : LDr P m h N) {s : Int32} {b : Nat} : eA m h s b ↔ (hasB (hI h (m + 8) 0) (nI b) ∧ hasB s (nI b)) ∨ ∃ t, t < N ∧ (∃ d, bRc (hI h (m + 7)) s d t) ∧ hasB (hI h (m + 8) t) (nI b) := by
  have l1 := l.1
  have l0 := l.2.1
  constructor
  · intro q
    rcases q with q | ⟨k, j, k1, k2, k3, k4, d, k5⟩
    · exact Or.inl q
    · right
      have go : ∀ d j, j < N → (∃ e, bRc (hI h (m + 7)) s e j) → sre (hI h (m + 7)) (hI h (m + 8)) b d j → ∃ t, t < N ∧ (∃ d, bRc (hI h (m + 7)) s d t) ∧ hasB (hI h (m + 8) t) (nI b) := by
        intro d
        induction d with
        | zero => intro j hj e q; exact ⟨j, hj, e, q⟩
        | succ d ih =>
          intro j hj e q
          rcases q with q | ⟨k', j', q1, q2, q3, q4⟩
          · exact ih j hj e q
          · obtain ⟨e, he⟩ := e
            exact ih j' (l.jlt hj q1 q3 q2) ⟨e + 1, Or.inr ⟨j, k', q1, by omega, he, q2⟩⟩ q4
      have jl : j < N := l.jlt l0 k1 k4 (by rw [show 24 * 0 + k = k by omega]; exact k3)
      exact go d j jl ⟨0, k, k1, k2, k3⟩ k5
  · intro q
    rcases q with q | ⟨t, tl, ⟨d, q1⟩, q2⟩
    · exact Or.inl q
    · right
      have go : ∀ d t, t < 16400 → bRc (hI h (m + 7)) s d t → (∃ e, sre (hI h (m + 7)) (hI h (m + 8)) b e t) → ∃ k j, k < 24 ∧ hasB s (nI (k / 3)) ∧ hI h (m + 7) k = nI j ∧ j < 16400 ∧ ∃ d, sre (hI h (m + 7)) (hI h (m + 8)) b d j := by
        intro d
        induction d with
        | zero => intro t tl q e; obtain ⟨k, k1, k2, k3⟩ := q; exact ⟨k, t, k1, k2, k3, tl, e⟩
        | succ d ih =>
          intro t tl q e
          rcases q with q | ⟨u, k, k1, u1, q, k2⟩
          · exact ih t tl q e
          · obtain ⟨e, he⟩ := e
            exact ih u u1 q ⟨e + 1, Or.inr ⟨k, t, k1, k2, tl, he⟩⟩
      exact go d t (by omega) q1 ⟨0, q2⟩
theorem rgP_iff (l : LDr P m h N) {s to : Int32} : rgP m h N s to ↔ ∀ b, b < 32 → eA m h s b → hasB to (nI b) := by
  unfold rgP
  constructor
  · rintro ⟨r1, r2⟩ b hb q
    rcases (brc_eA l).mp q with ⟨q1, q2⟩ | ⟨t, t1, t2, t3⟩
    · exact sub_iff.mp r1 b hb ((hasB_and hb).mpr ⟨q1, q2⟩)
    · exact sub_iff.mp (r2 t t1 t2) b hb t3
  · intro a
    refine ⟨sub_iff.mpr (fun b hb q => ?_), fun t t1 t2 => sub_iff.mpr (fun b hb q => ?_)⟩
    · exact a b hb ((brc_eA l).mpr (Or.inl ((hasB_and hb).mp q)))
    · exact a b hb ((brc_eA l).mpr (Or.inr ⟨t, t1, t2, q⟩))
theorem efA_rg {V : aV} {s0 : Nat} {R0 : Nat → Int32} (o : tbO (vP1 V s0 R0) ρ) (l : LDr (vP1 V s0 R0) m h N) {s to : Int32} : efA ρ s &&& (to ^^^ -1) = 0 ↔ rgP m h N s to := by
  rw [sub_iff, rgP_iff l]
  exact ⟨fun a b hb q => a b hb ((efA_has o l s hb).mpr q), fun a b hb q => a b hb ((efA_has o l s hb).mp q)⟩
/-- what the reference's states answer -/
def smQ (V : aV) (G : Nat → HS → Nat → Int32 → Int32 → Prop) (r : Nat) (v st : Int32) : Prop := ∃ m h N, LDr (vP1 V (vS V) (vPR V r)) m h N ∧ G m h N v st
theorem ag2.sm {V : aV} {F : (Nat → Nat → Int32) → Int32 → Int32 → Prop} {G : Nat → HS → Nat → Int32 → Int32 → Prop} {r : Nat} (f : ∀ ρ m h N, tbO (vP1 V (vS V) (vPR V r)) ρ → LDr (vP1 V (vS V) (vPR V r)) m h N → ag2 (F ρ) (G m h N)) : ag2 (tbQ V F r) (smQ V G r) := by
  intro v st v2 st2 h1 h2
  obtain ⟨ρ, o, q⟩ := h1
  obtain ⟨m, h, N, l, q2⟩ := h2
  exact f ρ m h N o l _ _ _ _ q q2
def sRig (s to : Int32) (m : Nat) (h : HS) (N : Nat) (v st : Int32) : Prop := ((rgP m h N s to ∧ v = 1) ∨ (¬ rgP m h N s to ∧ v = 0)) ∧ st = 0
def sStr (a : Int32) (m : Nat) (h : HS) (N : Nat) (v st : Int32) : Prop := (∃ L : List Nat, (∀ t, t ∈ L ↔ t < N ∧ ∃ d, bRc (hI h (m + 7)) a d t) ∧ v = L.foldl (fun a t => a ||| hI h (m + 8) t) (hI h (m + 8) 0 &&& a)) ∧ st = 0
def sWea (al to : Int32) (n : Nat) (m : Nat) (h : HS) (N : Nat) (v st : Int32) : Prop := v = bitF (wkP m h N al to) n ∧ st = 0
def sKee (a : Int32) (n : Nat) (m : Nat) (h : HS) (N : Nat) (v st : Int32) : Prop := (∃ i, kpS m h N n a (i + 1) = kpS m h N n a i ∧ v = kpS m h N n a i) ∧ st = 0
theorem ag_rig {V : aV} {r : Nat} {s to : Int32} : ag2 (tbQ V (fRig s to) r) (smQ V (sRig s to) r) := ag2.sm (fun ρ m h N o l v st v2 st2 a b => by
  obtain ⟨a, rfl⟩ := a
  obtain ⟨b, rfl⟩ := b
  rw [efA_rg o l] at a
  rcases a with ⟨rfl, a⟩ | ⟨rfl, a⟩ <;> rcases b with ⟨b, rfl⟩ | ⟨b, rfl⟩
  · exact ⟨rfl, rfl⟩
  · exact absurd a b
  · exact absurd b a
  · exact ⟨rfl, rfl⟩)
theorem fold_has {E : Nat → Int32} {b : Nat} (hb : b < 32) : ∀ (L : List Nat) (x : Int32), hasB (L.foldl (fun a t => a ||| E t) x) (nI b) ↔ hasB x (nI b) ∨ ∃ t, t ∈ L ∧ hasB (E t) (nI b)
  | [], x => ⟨Or.inl, fun q => by rcases q with q | ⟨t, q, -⟩; exact q; cases q⟩
  | t :: L, x => by
    rw [List.foldl_cons, fold_has hb L, hasB_or hb]
    constructor
    · intro q
      rcases q with (q | q) | ⟨u, u1, u2⟩
      · exact Or.inl q
      · exact Or.inr ⟨t, List.mem_cons.mpr (Or.inl rfl), q⟩
      · exact Or.inr ⟨u, List.mem_cons.mpr (Or.inr u1), u2⟩
    · intro q
      rcases q with q | ⟨u, u1, u2⟩
      · exact Or.inl (Or.inl q)
      · rcases List.mem_cons.mp u1 with e | e
        · subst e; exact Or.inl (Or.inr u2)
        · exact Or.inr ⟨u, e, u2⟩
theorem ag_str {V : aV} {r : Nat} {s : Int32} : ag2 (tbQ V (fStr s) r) (smQ V (sStr s) r) := ag2.sm (fun ρ m h N o l v st v2 st2 a b => by
  obtain ⟨rfl, rfl⟩ := a
  obtain ⟨⟨L, hL, rfl⟩, rfl⟩ := b
  refine ⟨hasB_ext fun b hb => ?_, rfl⟩
  rw [efA_has o l s hb, brc_eA l, fold_has hb, hasB_and hb]
  constructor
  · intro q
    rcases q with q | ⟨t, t1, t2, t3⟩
    · exact Or.inl q
    · exact Or.inr ⟨t, (hL t).mpr ⟨t1, t2⟩, t3⟩
  · intro q
    rcases q with q | ⟨t, t1, t3⟩
    · exact Or.inl q
    · obtain ⟨t1, t2⟩ := (hL t).mp t1
      exact Or.inr ⟨t, t1, t2, t3⟩)
theorem and_one_t {al : Int32} {a : Nat} (ha : a < 32) (q : hasB al (nI a)) : al &&& 1 <<< (nI a &&& 31) = 1 <<< (nI a &&& 31) := hasB_ext fun b hb => by
  rw [hasB_and hb, hasB_one ha hb]
  exact ⟨fun x => x.2, fun x => ⟨by rw [x]; exact q, x⟩⟩
theorem and_one_f {al : Int32} {a : Nat} (ha : a < 32) (q : ¬ hasB al (nI a)) : al &&& 1 <<< (nI a &&& 31) = 0 := hasB_ext fun b hb => by
  rw [hasB_and hb, hasB_one ha hb]
  exact ⟨fun x => absurd (x.2 ▸ x.1) q, fun x => absurd x (hasB_0 hb)⟩
theorem sfF_has {V : aV} {s0 : Nat} {R0 : Nat → Int32} (o : tbO (vP1 V s0 R0) ρ) (l : LDr (vP1 V s0 R0) m h N) {al to : Int32} {b : Nat} (hb : b < 32) : ∀ c, c ≤ 8 → (hasB (sfF ρ al to c) (nI b) ↔ b < c ∧ hasB al (nI b) ∧ rgP m h N (1 <<< (nI b &&& 31)) to) := by
  intro c
  induction c with
  | zero => intro _; exact ⟨fun q => absurd q (hasB_0 hb), fun q => absurd q.1 (Nat.not_lt_zero _)⟩
  | succ c ih =>
    intro hc
    have i := ih (by omega)
    rw [sfF, hasB_or hb, i]
    by_cases q : hasB al (nI c)
    · rw [and_one_t (by omega) q]
      by_cases g : rgP m h N (1 <<< (nI c &&& 31)) to
      · rw [if_pos ((efA_rg o l).mpr g), hasB_one (by omega) hb]
        constructor
        · intro x
          rcases x with ⟨x1, x2⟩ | x
          · exact ⟨by omega, x2⟩
          · subst x; exact ⟨by omega, q, g⟩
        · rintro ⟨x1, x2, x3⟩
          by_cases e : b = c
          · exact Or.inr e
          · exact Or.inl ⟨by omega, x2, x3⟩
      · rw [if_neg (fun e => g ((efA_rg o l).mp e))]
        constructor
        · intro x
          rcases x with ⟨x1, x2⟩ | x
          · exact ⟨by omega, x2⟩
          · exact absurd x (hasB_0 hb)
        · rintro ⟨x1, x2, x3⟩
          by_cases e : b = c
          · subst e; exact absurd x3 g
          · exact Or.inl ⟨by omega, x2, x3⟩
    · rw [and_one_f (by omega) q, show (if efA ρ 0 &&& (to ^^^ -1) = 0 then (0 : Int32) else 0) = 0 by split <;> rfl]
      constructor
      · intro x
        rcases x with ⟨x1, x2⟩ | x
        · exact ⟨by omega, x2⟩
        · exact absurd x (hasB_0 hb)
      · rintro ⟨x1, x2, x3⟩
        by_cases e : b = c
        · subst e; exact absurd x2 q
        · exact Or.inl ⟨by omega, x2, x3⟩
theorem wkP_iff {s to : Int32} {a : Nat} : wkP m h N s to a ↔ hasB s (nI a) ∧ rgP m h N (1 <<< (nI a &&& 31)) to := Iff.rfl
theorem sfF_wk {V : aV} (hV : vOK V) {s0 : Nat} {R0 : Nat → Int32} (o : tbO (vP1 V s0 R0) ρ) (l : LDr (vP1 V s0 R0) m h N) {al to : Int32} (ha : ∀ b, b < 32 → hasB al (nI b) → b < 2 ^ vNt V) : sfF ρ al to 8 = bitF (wkP m h N al to) (2 ^ vNt V) := hasB_ext fun b hb => by
  have hnt := hV.1.1
  have hp2 : 2 ^ vNt V ≤ 8 := by rcases (show vNt V = 0 ∨ vNt V = 1 ∨ vNt V = 2 ∨ vNt V = 3 by omega) with e | e | e | e <;> rw [e] <;> decide
  rw [sfF_has o l hb 8 (by omega), hasB_bitF (by omega) hb, wkP_iff]
  exact ⟨fun x => ⟨ha b hb x.2.1, x.2⟩, fun x => ⟨by omega, x.2⟩⟩
theorem ag_wea {V : aV} (hV : vOK V) {r : Nat} {to : Int32} : ag2 (tbQ V (fWea (allF (nI (vNt V))) to) r) (smQ V (sWea (allF (nI (vNt V))) to (2 ^ vNt V)) r) := ag2.sm (fun ρ m h N o l v st v2 st2 a b => by
  obtain ⟨rfl, rfl⟩ := a
  obtain ⟨rfl, rfl⟩ := b
  exact ⟨sfF_wk hV o l (fun b hb q => allF_lt _ hV.1.1 b hb q), rfl⟩)
/-- the reference's chain goes down, and stays where it stays once -/
theorem kpS_dn {n : Nat} (hn : n ≤ 32) {a : Int32} (i b : Nat) (hb : b < 32) (q : hasB (kpS m h N n a (i + 1)) (nI b)) : b < n ∧ hasB (kpS m h N n a i) (nI b) := by
  have q' : hasB (bitF (wkP m h N (kpS m h N n a i) (kpS m h N n a i)) n) (nI b) := q
  obtain ⟨q1, q2⟩ := (hasB_bitF hn hb).mp q'
  exact ⟨q1, q2.1⟩
theorem kpS_st {n : Nat} {a : Int32} {i : Nat} (e : kpS m h N n a (i + 1) = kpS m h N n a i) : ∀ x, kpS m h N n a (i + x) = kpS m h N n a i
  | 0 => rfl
  | x + 1 => by
    show bitF (wkP m h N (kpS m h N n a (i + x)) (kpS m h N n a (i + x))) n = _
    rw [kpS_st e x]
    exact e
theorem kpS_9 {n : Nat} (hn : n ≤ 8) {a : Int32} (ha : ∀ b, b < 32 → hasB a (nI b) → b < n) : kpS m h N n a 10 = kpS m h N n a 9 := by
  have lo : ∀ i b, b < 32 → hasB (kpS m h N n a i) (nI b) → b < 8 := fun i => by
    cases i with
    | zero => intro b hb q; have := ha b hb q; omega
    | succ i => intro b hb q; have := (kpS_dn (by omega) i b hb q).1; omega
  have dn : ∀ i, ∀ b, b < 8 → hasB (kpS m h N n a (i + 1)) (nI b) → hasB (kpS m h N n a i) (nI b) := fun i b hb q => (kpS_dn (by omega) i b (by omega) q).2
  have dec : ∀ i, kpS m h N n a (i + 1) = kpS m h N n a i ∨ cntB (kpS m h N n a (i + 1)) 8 < cntB (kpS m h N n a i) 8 := by
    intro i
    by_cases c : cntB (kpS m h N n a i) 8 ≤ cntB (kpS m h N n a (i + 1)) 8
    · left
      have up := cntB_eq (dn i) 8 (Nat.le_refl _) c
      refine hasB_ext fun b hb => ⟨fun q => (kpS_dn (by omega) i b hb q).2, fun q => up b (lo i b hb q) q⟩
    · exact Or.inr (by omega)
  have c8 : ∀ (s : Int32) (k : Nat), cntB s k ≤ k := by
    intro s k
    induction k with
    | zero => exact Nat.le_refl _
    | succ k ih => unfold cntB; split <;> omega
  have ex : ∀ k, k ≤ 9 → (∃ i, i < k ∧ kpS m h N n a (i + 1) = kpS m h N n a i) ∨ cntB (kpS m h N n a k) 8 + k ≤ 8 := by
    intro k
    induction k with
    | zero => intro _; exact Or.inr (c8 _ 8)
    | succ k ih =>
      intro hk
      rcases ih (by omega) with ⟨i, hi, e⟩ | c
      · exact Or.inl ⟨i, by omega, e⟩
      · rcases dec k with e | e
        · exact Or.inl ⟨k, by omega, e⟩
        · exact Or.inr (by omega)
  rcases ex 9 (Nat.le_refl _) with ⟨i, hi, e⟩ | c
  · have e1 := kpS_st e (10 - i)
    have e2 := kpS_st e (9 - i)
    rw [show i + (10 - i) = 10 by omega] at e1
    rw [show i + (9 - i) = 9 by omega] at e2
    rw [e1, e2]
  · omega
theorem ag_kee {V : aV} (hV : vOK V) {r : Nat} {a : Int32} (ha : atP V a) : ag2 (tbQ V (fKee a) r) (smQ V (sKee a (2 ^ vNt V)) r) := ag2.sm (fun ρ m h N o l v st v2 st2 x y => by
  obtain ⟨rfl, rfl⟩ := x
  obtain ⟨⟨i, e, rfl⟩, rfl⟩ := y
  have hnt := hV.1.1
  have hp2 : 2 ^ vNt V ≤ 8 := by rcases (show vNt V = 0 ∨ vNt V = 1 ∨ vNt V = 2 ∨ vNt V = 3 by omega) with e | e | e | e <;> rw [e] <;> decide
  have a0 : ∀ b, b < 32 → hasB a (nI b) → b < 2 ^ vNt V := fun b hb q => allF_b hnt ha hb q
  have k9 : ∀ i, kp9 ρ a i = kpS m h N (2 ^ vNt V) a i ∧ ∀ b, b < 32 → hasB (kpS m h N (2 ^ vNt V) a i) (nI b) → b < 2 ^ vNt V := by
    intro i
    induction i with
    | zero => exact ⟨rfl, a0⟩
    | succ i ih =>
      obtain ⟨i1, i2⟩ := ih
      refine ⟨?_, fun b hb q => (kpS_dn (by omega) i b hb q).1⟩
      show sfF ρ (kp9 ρ a i) (kp9 ρ a i) 8 = bitF (wkP m h N (kpS m h N (2 ^ vNt V) a i) (kpS m h N (2 ^ vNt V) a i)) (2 ^ vNt V)
      rw [i1]
      exact sfF_wk hV o l i2
  rw [(k9 9).1]
  refine ⟨?_, rfl⟩
  have f9 := kpS_9 (m := m) (h := h) (N := N) hp2 a0
  rcases Nat.le_total i 9 with c | c
  · have := kpS_st e (9 - i)
    rw [show i + (9 - i) = 9 by omega] at this
    exact this
  · have := kpS_st f9 (i - 9)
    rw [show 9 + (i - 9) = i by omega] at this
    exact this.symm)
end PA
