/-! The core of the questions over paths: strings from rests and from states end alike -/
/-- a string from state s on, of d letters at most, ends with atom b -/
def sre (go en : Nat → Int32) (b : Nat) : Nat → Nat → Prop
  | 0, s => hasB (en s) (nI b)
  | d + 1, s => sre go en b d s ∨ ∃ k j, k < 24 ∧ go (24 * s + k) = nI j ∧ j < 16400 ∧ sre go en b d j
theorem sre.up {go en : Nat → Int32} {b : Nat} : ∀ x d s, sre go en b d s → sre go en b (d + x) s
  | 0, _, _, h => h
  | x + 1, d, s, h => Or.inl (sre.up x d s h)
theorem sre.rch {go en en2 : Nat → Int32} {b : Nat} (hb : b < 32) (he : ∀ s, hasB (en s) (nI b) → ¬ en2 s = 0) : ∀ d s, sre go en b d s → rch go en2 d s
  | 0, s, h => he s h
  | d + 1, s, h => by
    rcases h with h | ⟨k, j, k1, k2, k3, k4⟩
    · exact Or.inl (sre.rch hb he d s h)
    · exact Or.inr ⟨k, j, k1, k2, k3, sre.rch hb he d j k4⟩
section CO
variable {P : kP} {m N : Nat} {h : HS}
theorem hasB_ne {x : Int32} {b : Nat} (hb : b < 32) (q : hasB x (nI b)) : ¬ x = 0 := fun e => hasB_0 hb (e ▸ q)
/-- whence a string goes on to an end is useful -/
theorem LDr.us (l : LDr P m h N) {b d s : Nat} (hb : b < 32) (hs : s < N) (q : sre (hI h (m + 7)) (hI h (m + 8)) b d s) : ¬ hI h (m + 13) s = 0 := by
  obtain ⟨l1, l2, l3, l4, l5, l6⟩ := l
  have r := sre.rch (en2 := fun s => hI h (m + 8) s ||| hI h (m + 9) s) hb (fun s q => hasB_ne hb ((hasB_or hb).mpr (Or.inl q))) d s q
  rcases l6 s hs with ⟨e, -⟩ | ⟨e, n⟩
  · rw [e]; decide
  · exact absurd ⟨d, r⟩ n
theorem LDr.jlt (l : LDr P m h N) {s k j : Nat} (hs : s < N) (hk : k < 24) (hj : j < 16400) (e : hI h (m + 7) (24 * s + k) = nI j) : j < N := by
  have l1 := l.1
  rcases l.go (24 * s + k) (by omega) with x | ⟨i, hi, x⟩
  · exact absurd (x.symm.trans e).symm (nI_neg1 (by omega))
  · have := (nI_eq (by omega) (by omega)).mp (x.symm.trans e)
    omega
theorem uNx_of {s k j : Nat} (hj : j < 16400) (e : hI h (m + 7) (24 * s + k) = nI j) (u : ¬ hI h (m + 13) j = 0) : uNx m h (24 * s + k) = nI j := by
  unfold uNx
  rw [e, if_neg (nI_neg1 (by omega)), nI_clamp (by omega), if_neg u]
theorem uNx_go {e j : Nat} (hj : j < 16400) (q : uNx m h e = nI j) : hI h (m + 7) e = nI j ∧ ¬ hI h (m + 13) j = 0 := by
  unfold uNx at q
  by_cases c : hI h (m + 7) e = -1
  · rw [if_pos c] at q; exact absurd q.symm (nI_neg1 (by omega))
  · rw [if_neg c] at q
    by_cases c2 : hI h (m + 13) (hI h (m + 7) e).toNatClampNeg = 0
    · rw [if_pos c2] at q; exact absurd q.symm (nI_neg1 (by omega))
    · rw [if_neg c2] at q
      rw [q, nI_clamp (by omega)] at c2
      exact ⟨q, c2⟩
theorem rgo_of {s k j : Nat} (hj : j < 16400) (q : uNx m h (24 * s + k) = nI j) : rgo m h s k = some j := by
  unfold rgo
  rw [q, if_neg (nI_neg1 (by omega)), nI_clamp (by omega)]
theorem LDr.rgx (l : LDr P m h N) {s k t : Nat} (hs : s < N) (hk : k < 24) (q : rgo m h s k = some t) : t < N ∧ hI h (m + 7) (24 * s + k) = nI t ∧ ¬ hI h (m + 13) t = 0 := by
  have l1 := l.1
  obtain ⟨-, ra⟩ := l.ra l
  have tl := ra.rlt hs hk q
  unfold rgo at q
  by_cases c : uNx m h (24 * s + k) = -1
  · rw [if_pos c] at q; cases q
  · rw [if_neg c] at q
    have e := Option.some.inj q
    have un : ∃ j, j < N ∧ uNx m h (24 * s + k) = nI j := by
      rcases l.go (24 * s + k) (by omega) with x | ⟨i, hi, x⟩
      · exact absurd (by unfold uNx; rw [if_pos x]) c
      · unfold uNx at c ⊢
        rw [x, if_neg (nI_neg1 (by omega)), nI_clamp (by omega)] at c ⊢
        by_cases c2 : hI h (m + 13) i = 0
        · rw [if_pos c2] at c; exact absurd rfl c
        · rw [if_neg c2]; exact ⟨i, hi, rfl⟩
    obtain ⟨j, hj, e2⟩ := un
    rw [e2, nI_clamp (by omega)] at e
    subst e
    obtain ⟨g1, g2⟩ := uNx_go (by omega) e2
    exact ⟨hj, g1, g2⟩
/-- like states have like strings -/
theorem LDr.srx (l : LDr P m h N) {b : Nat} (hb : b < 32) : ∀ d s t, s < N → t < N → Bis m h s t → sre (hI h (m + 7)) (hI h (m + 8)) b d s → sre (hI h (m + 7)) (hI h (m + 8)) b d t := by
  intro d
  induction d with
  | zero =>
    intro s t hs ht e q
    have e0 : hI h (m + 8) s = hI h (m + 8) t := e 0
    show hasB (hI h (m + 8) t) (nI b)
    rw [← e0]
    exact q
  | succ d ih =>
    intro s t hs ht e q
    rcases q with q | ⟨k, j, k1, k2, k3, k4⟩
    · exact Or.inl (ih s t hs ht e q)
    · have jl := l.jlt hs k1 k3 k2
      have ju := l.us hb jl k4
      have un := uNx_of k3 k2 ju
      have l1 := l.1
      obtain ⟨e1, e2⟩ : (∃ c, c < 16400 ∧ uNx m h (24 * t + k) = nI c) ∧ True := by
        rcases (e 1).2 k k1 with ⟨z, -⟩ | ⟨a, c, z1, z2, z3, z4, -⟩
        · rw [un] at z; exact absurd z (nI_neg1 (by omega))
        · exact ⟨⟨c, z4, z2⟩, trivial⟩
      obtain ⟨c, c1, c2⟩ := e1
      have bs : Bis m h j c := fun x => by
        rcases (e (x + 1)).2 k k1 with ⟨z, -⟩ | ⟨a, c', z1, z2, z3, z4, z5⟩
        · rw [un] at z; exact absurd z (nI_neg1 (by omega))
        · have ea : a = j := (nI_eq (by omega) (by omega)).mp (z1.symm.trans un)
          have ec : c' = c := (nI_eq (by omega) (by omega)).mp (z2.symm.trans c2)
          rw [← ea, ← ec]
          exact z5
      obtain ⟨g1, g2⟩ := uNx_go c1 c2
      exact Or.inr ⟨k, c, k1, g1, c1, ih j c jl (l.jlt ht k1 c1 g1) bs k4⟩
end CO
