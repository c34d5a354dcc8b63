/-! What the class gathers over rests is what the reference gathers over states -/
section EF
variable {P : kP} {m N : Nat} {h : HS} {ρ : Nat → Nat → Int32} {R : List (Nat × Nat)} {T : Nat → Nat → Int32}
theorem tre_sre (l : LDr P m h N) (t : tbl m h R T) (bd : ∀ (i : Nat) (q : Nat × Nat), R[i]? = some q → q.1 < N) (hl : R.length ≤ 125) {b : Nat} (hb : b < 32) {Tg EN : Nat → Int32} (hT : ∀ i k, i < R.length → k < 24 → Tg (24 * i + k) = T i k) (hE : ∀ (i : Nat) (q : Nat × Nat), R[i]? = some q → EN i = hI h (m + 8) q.1) :
    ∀ d (i : Nat) (q : Nat × Nat), R[i]? = some q → (tre Tg EN b d i ↔ sre (hI h (m + 7)) (hI h (m + 8)) b d q.1) := by
  have l1 := l.1
  intro d
  induction d with
  | zero =>
    intro i q hq
    show hasB (EN i) (nI b) ↔ hasB (hI h (m + 8) q.1) (nI b)
    rw [hE i q hq]
  | succ d ih =>
    intro i q hq
    have li := (List.getElem?_eq_some_iff.mp hq).1
    have ql := bd i q hq
    constructor
    · intro x
      rcases x with x | ⟨k, j, k1, k2, k3, k4⟩
      · exact Or.inl ((ih i q hq).mp x)
      · rw [hT i k li k1] at k3
        rcases t i q k hq k1 with ⟨-, e⟩ | ⟨a, j', p, a1, a2, a3, a4⟩
        · rw [e] at k3; exact absurd k3.symm (nI_neg1 (by omega))
        · have lj := (List.getElem?_eq_some_iff.mp a2).1
          have ej : j = j' := (nI_eq (by omega) (by omega)).mp (k3.symm.trans a4)
          subst ej
          obtain ⟨al, ag, au⟩ := l.rgx ql k1 a1
          exact Or.inr ⟨k, a, k1, ag, by omega, l.srx hb d p.1 a (bd j p a2) al a3 ((ih j p a2).mp k4)⟩
    · intro x
      rcases x with x | ⟨k, a, k1, k2, k3, k4⟩
      · exact Or.inl ((ih i q hq).mpr x)
      · have al := l.jlt ql k1 k3 k2
        have au := l.us hb al k4
        have ru := rgo_of k3 (uNx_of k3 k2 au)
        rcases t i q k hq k1 with ⟨e, -⟩ | ⟨a', j', p, a1, a2, a3, a4⟩
        · rw [ru] at e; cases e
        · have ea : a = a' := Option.some.inj (ru.symm.trans a1)
          subst ea
          have lj := (List.getElem?_eq_some_iff.mp a2).1
          exact Or.inr ⟨k, j', k1, by omega, by rw [hT i k li k1]; exact a4, (ih j' p a2).mpr (l.srx hb d a p.1 al (bd j' p a2) (fun x => eqv.sy x _ _ (a3 x)) k4)⟩
/-- a string from state 0 whose first letter's atom lies within s ends with atom b -/
def eA (m : Nat) (h : HS) (s : Int32) (b : Nat) : Prop := (hasB (hI h (m + 8) 0) (nI b) ∧ hasB s (nI b)) ∨ ∃ k j, k < 24 ∧ hasB s (nI (k / 3)) ∧ hI h (m + 7) k = nI j ∧ j < 16400 ∧ ∃ d, sre (hI h (m + 7)) (hI h (m + 8)) b d j
theorem efF_has {Tg RE : Nat → Int32} {e0 s : Int32} {n : Nat} (hn : n ≤ 125) (hT : ∀ l, l < 24 → Tg l = -1 ∨ ∃ j, j < n ∧ Tg l = nI j) {b : Nat} (hb : b < 32) : ∀ c, c ≤ 24 → (hasB (efF Tg RE e0 s c) (nI b) ↔ (hasB e0 (nI b) ∧ hasB s (nI b)) ∨ ∃ l j, l < c ∧ j < n ∧ hasB s (nI (l / 3)) ∧ Tg l = nI j ∧ hasB (RE j) (nI b)) := by
  intro c
  induction c with
  | zero =>
    intro _
    rw [efF, hasB_and hb]
    exact ⟨Or.inl, fun q => by rcases q with q | ⟨l, j, q, -⟩; exact q; omega⟩
  | succ c ih =>
    intro hc
    have i := ih (by omega)
    have zr : ∀ x : Int32, x ||| 0 = x := fun x => Int32.or_zero
    have dec : ∀ x y : Int32, ¬ x >>> (y &&& 31) &&& 1 = 0 → x >>> (y &&& 31) &&& 1 = 1 := fun x y q => by
      obtain ⟨k, hk, ek⟩ := and_small (a := x >>> (y &&& 31)) (b := 1) (k := 1) rfl (by omega)
      rcases (show k = 0 ∨ k = 1 by omega) with e | e
      · rw [ek, e] at q; exact absurd rfl q
      · rw [ek, e]; rfl
    rw [efF]
    by_cases c1 : Tg c = -1
    · rw [if_pos c1, zr, i]
      constructor
      · intro q
        rcases q with q | ⟨l, j, q1, q2⟩
        · exact Or.inl q
        · exact Or.inr ⟨l, j, by omega, q2⟩
      · intro q
        rcases q with q | ⟨l, j, q1, q2, q3, q4, q5⟩
        · exact Or.inl q
        · by_cases e : l = c
          · subst e; rw [q4] at c1; exact absurd c1 (nI_neg1 (by omega))
          · exact Or.inr ⟨l, j, by omega, q2, q3, q4, q5⟩
    · rw [if_neg c1]
      by_cases c2 : s >>> (nI (c / 3) &&& 31) &&& 1 = 0
      · rw [if_pos c2, zr, i]
        constructor
        · intro q
          rcases q with q | ⟨l, j, q1, q2⟩
          · exact Or.inl q
          · exact Or.inr ⟨l, j, by omega, q2⟩
        · intro q
          rcases q with q | ⟨l, j, q1, q2, q3, q4, q5⟩
          · exact Or.inl q
          · by_cases e : l = c
            · subst e
              have q3' : s >>> (nI (l / 3) &&& 31) &&& 1 = 1 := q3
              rw [c2] at q3'
              exact absurd q3' (by decide)
            · exact Or.inr ⟨l, j, by omega, q2, q3, q4, q5⟩
      · rw [if_neg c2, hasB_or hb, i]
        rcases hT c (by omega) with e | ⟨j0, hj0, e0⟩
        · exact absurd e c1
        rw [e0, nI_clamp (by omega)]
        constructor
        · intro q
          rcases q with (q | ⟨l, j, q1, q2⟩) | q
          · exact Or.inl q
          · exact Or.inr ⟨l, j, by omega, q2⟩
          · exact Or.inr ⟨c, j0, by omega, hj0, dec _ _ c2, e0, q⟩
        · intro q
          rcases q with q | ⟨l, j, q1, q2, q3, q4, q5⟩
          · exact Or.inl (Or.inl q)
          · by_cases e : l = c
            · subst e
              have ej : j = j0 := (nI_eq (by omega) (by omega)).mp (q4.symm.trans e0)
              subst ej
              exact Or.inr q5
            · exact Or.inl (Or.inr ⟨l, j, by omega, q2, q3, q4, q5⟩)
/-- what the class's table ends with is what the states end with -/
theorem efA_has {V : aV} {s0 : Nat} {R0 : Nat → Int32} (o : tbO (vP1 V s0 R0) ρ) {h : HS} (l : LDr (vP1 V s0 R0) m h N) (s : Int32) {b : Nat} (hb : b < 32) : hasB (efA ρ s) (nI b) ↔ eA m h s b := by
  have l1 := l.1
  have l0 := l.2.1
  obtain ⟨n, tn⟩ := o.n
  obtain ⟨v0, N0, R, o1, o2, o3, o4, o5, o6, o7, o8⟩ := o
  obtain ⟨eN, ra⟩ := l.ra o1
  subst eN
  have en : n = R.length := (nI_eq (by have := tn.1; omega) (by omega)).mp (tn.2.1.symm.trans o4)
  subst en
  have us0 : eA m h s b → ¬ hI h (m + 13) 0 = 0 := by
    intro q
    rcases q with ⟨q, -⟩ | ⟨k, j, k1, -, k3, k4, d, k5⟩
    · exact l.us hb l0 (d := 0) q
    · exact l.us hb l0 (d := d + 1) (Or.inr ⟨k, j, k1, by rw [show 24 * 0 + k = k by omega]; exact k3, k4, k5⟩)
  unfold efA
  by_cases z : R.length = 0
  · rw [if_pos (by rw [o4, z]; rfl)]
    refine ⟨fun q => absurd q (hasB_0 hb), fun q => ?_⟩
    exfalso
    have u := us0 q
    have u' : ¬ hI v0 (0 + 13) 0 = 0 := by rw [← (ra.2.1 0 l0).2.2]; exact u
    have eR := o2.2 u'
    have nil : R = [] := List.length_eq_zero_iff.mp z
    have : (rbfs (rgo 0 v0) (Bis 0 v0) 0).length = 1 := rfl
    rw [nil] at eR
    have e2 := congrArg List.length eR
    rw [show 24 * ([] : List (Nat × Nat)).length = 0 from rfl, this] at e2
    exact absurd e2 (by decide)
  · have z0 : ¬ ρ 0 0 = 0 := fun e => z ((nI_eq (b := 0) (by omega) (by omega)).mp (o4.symm.trans e))
    rw [if_neg z0]
    obtain ⟨q0, hq0⟩ : ∃ q, R[0]? = some q := ⟨_, List.getElem?_eq_getElem (by omega)⟩
    have e00 : q0.1 = 0 := by
      have u' : ¬ hI v0 (0 + 13) 0 = 0 := fun e => by rw [o2.1 e] at hq0; cases hq0
      have eR := o2.2 u'
      have st : ∀ e, (rbfs (rgo 0 v0) (Bis 0 v0) e)[0]? = some (0, 0) := by
        intro e
        induction e with
        | zero => rfl
        | succ e ih =>
          show (rstep (rgo 0 v0) (Bis 0 v0) (rbfs (rgo 0 v0) (Bis 0 v0) e) e)[0]? = some (0, 0)
          generalize rbfs (rgo 0 v0) (Bis 0 v0) e = L at ih ⊢
          rcases h1 : L[e / 24]? with _ | p
          · have er : rstep (rgo 0 v0) (Bis 0 v0) L e = L := by simp only [rstep, h1]
            rw [er]; exact ih
          · rcases h2 : rgo 0 v0 p.1 (e % 24) with _ | t
            · rw [rstep_none h1 h2]; exact ih
            · rcases Classical.em (∃ p, p ∈ L ∧ Bis 0 v0 p.1 t) with h3 | h3
              · rw [rstep_old h1 h2 h3]; exact ih
              · rw [rstep_new h1 h2 h3, List.getElem?_append_left (List.getElem?_eq_some_iff.mp ih).1]; exact ih
      have s0 := st (24 * R.length)
      rw [← eR] at s0
      have := Option.some.inj (hq0.symm.trans s0)
      rw [this]
    -- rows of the class in terms of states of m, h
    have bd : ∀ (i : Nat) (q : Nat × Nat), R[i]? = some q → q.1 < N := fun i q hq => (o5 i q hq).1
    have hE : ∀ (i : Nat) (q : Nat × Nat), R[i]? = some q → ρ 1 i = hI h (m + 8) q.1 := fun i q hq => by rw [(o5 i q hq).2.1]; exact (ra.2.1 _ (bd i q hq)).1.symm
    have tb : tbl m h R (fun i k => ρ 3 (24 * i + k)) := fun i q k hq hk => by
      have rg := ra.rg (bd i q hq) hk
      rcases (o5 i q hq).2.2.2 k hk with ⟨a1, a2⟩ | ⟨a, j, p, a1, a2, a3, a4⟩
      · exact Or.inl ⟨rg.trans a1, a2⟩
      · have al := ra.rlt (bd i q hq) hk (rg.trans a1)
        exact Or.inr ⟨a, j, p, rg.trans a1, a2, (ra.bis (bd j p a2) al).mpr a3, a4⟩
    have ts := tre_sre l tb bd o3 hb (Tg := ρ 3) (EN := ρ 1) (fun i k _ _ => rfl) hE
    rw [efF_has (n := R.length) o3 (fun k hk => tn.2.2.2 k (by omega)) hb 24 (by omega), hE 0 q0 hq0, e00]
    constructor
    · intro q
      rcases q with q | ⟨k, j, k1, k2, k3, k4, k5⟩
      · exact Or.inl q
      · obtain ⟨d, kd⟩ := (o6 j k2 b hb).mp k5
        rcases tb 0 q0 k hq0 k1 with ⟨-, e⟩ | ⟨a, j', p, a1, a2, a3, a4⟩
        · have e' : ρ 3 (24 * 0 + k) = -1 := e
          rw [show 24 * 0 + k = k by omega, k4] at e'
          exact absurd e' (nI_neg1 (by omega))
        · have a4' : ρ 3 (24 * 0 + k) = nI j' := a4
          have lj := (List.getElem?_eq_some_iff.mp a2).1
          rw [show 24 * 0 + k = k by omega, k4] at a4'
          have ej : j = j' := (nI_eq (by omega) (by omega)).mp a4'
          subst ej
          rw [e00] at a1
          obtain ⟨al, ag, au⟩ := l.rgx l0 k1 a1
          rw [show 24 * 0 + k = k by omega] at ag
          exact Or.inr ⟨k, a, k1, k3, ag, by omega, d, l.srx hb d p.1 a (bd j p a2) al a3 ((ts d j p a2).mp kd)⟩
    · intro q
      rcases q with q | ⟨k, a, k1, k2, k3, k4, d, k5⟩
      · exact Or.inl q
      · have k3' : hI h (m + 7) (24 * 0 + k) = nI a := by rw [show 24 * 0 + k = k by omega]; exact k3
        have al := l.jlt l0 k1 k4 k3'
        have au := l.us hb al k5
        have ru := rgo_of k4 (uNx_of k4 k3' au)
        rcases tb 0 q0 k hq0 k1 with ⟨e, -⟩ | ⟨a', j', p, a1, a2, a3, a4⟩
        · rw [e00, ru] at e; cases e
        · rw [e00] at a1
          have ea : a = a' := Option.some.inj (ru.symm.trans a1)
          subst ea
          have a4' : ρ 3 (24 * 0 + k) = nI j' := a4
          rw [show 24 * 0 + k = k by omega] at a4'
          have lj := (List.getElem?_eq_some_iff.mp a2).1
          exact Or.inr ⟨k, j', k1, lj, k2, a4', (o6 j' lj b hb).mpr ⟨d, (ts d j' p a2).mpr (l.srx hb d a p.1 al (bd j' p a2) (fun x => eqv.sy x _ _ (a3 x)) k5)⟩⟩
end EF
