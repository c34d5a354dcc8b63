/-! both tell the same: what a call answers and leaves is one thing alone -/
theorem nI_iu {a b n : Nat} (ha : a < n) (hb : b < n) (hn : n < 100000) (h : nI a = nI b) : a = b := (nI_eq (by omega) (by omega)).mp h
theorem eq_d {a b c : Int32} (h1 : b = a) (h2 : c = a) : b = c := h1.trans h2.symm
theorem fdP_u {P : kP} {b : Int32} {i j : Nat} {key key' : Int64} (f : fdP P b i key) (g : fdP P b j key') : i = j ∧ key = key' := by
  have lt : ∀ {i j : Nat} {key key' : Int64}, fdP P b i key → fdP P b j key' → ¬ i < j := by
    intro i j key key' f g h
    obtain ⟨⟨v, f1⟩, f2, f3⟩ := f
    have st := bfs_stay f1 (24 * (j - i))
    rw [show 24 * i + 24 * (j - i) = 24 * j by omega] at st
    have z : apF P b key = 0 := g.2.2 i (key, v) st h
    exact f2 z
  have e : i = j := by
    have a := lt f g
    have c := lt g f
    omega
  subst e
  obtain ⟨⟨v, f1⟩, -⟩ := f
  obtain ⟨⟨v', g1⟩, -⟩ := g
  have e := Option.some.inj (f1.symm.trans g1)
  exact ⟨rfl, congrArg (·.1) e⟩
theorem wayL_u {L : List (Int64 × Nat)} {s n n' : Nat} {f f' : Nat → Nat} (w : wayL L s n f) (w' : wayL L s n' f') : n = n' ∧ ∀ d, d ≤ n → f d = f' d := by
  obtain ⟨a1, a2, -, -, a5⟩ := w
  obtain ⟨b1, b2, -, -, b5⟩ := w'
  have st : ∀ d, d ≤ n → d ≤ n' → f d = f' d := by
    intro d
    induction d with
    | zero => intro _ _; rw [a1, b1]
    | succ d ih =>
      intro h1 h2
      have e := ih (by omega) (by omega)
      obtain ⟨-, -, q, q1, q2⟩ := a5 d (by omega)
      obtain ⟨-, -, p, p1, p2⟩ := b5 d (by omega)
      rw [e] at q1
      have eq := Option.some.inj (q1.symm.trans p1)
      rw [← q2, ← p2, eq]
  have e : n = n' := by
    rcases Nat.lt_trichotomy n n' with h | h | h
    · have e := st n (Nat.le_refl _) (by omega)
      have := (b5 n h).1
      omega
    · exact h
    · have e := st n' (by omega) (Nat.le_refl _)
      have := (a5 n' h).1
      omega
  exact ⟨e, fun d hd => st d hd (by omega)⟩
theorem plA_cg {L : List (Int64 × Nat)} {n : Nat} {f f' : Nat → Nat} (h : ∀ d, d ≤ n → f d = f' d) (a : Int32) (j : Nat) : plA L n f a j = plA L n f' a j := by
  unfold plA
  rw [h (n - 1 - j / 2) (by omega)]
theorem fn_sp {P : kP} {k : Int32} : fQ2 (fun v st => spP P k (v, st)) := by
  intro v st v2 st2 a b
  have key : ∀ x y : Int32 × Int32, spP P k x → spP P k y → x = y := by
    intro x y a b
    rcases a with ⟨n1, e1⟩ | ⟨i, key, n, f, f1, f2, e1⟩ <;> rcases b with ⟨n2, e2⟩ | ⟨i', key', n', f', g1, g2, e2⟩
    · rw [e1, e2]
    · exact absurd n1 (fd_no g1)
    · exact absurd n2 (fd_no f1)
    · obtain ⟨rfl, rfl⟩ := fdP_u f1 g1
      obtain ⟨rfl, h⟩ := wayL_u f2 g2
      rw [e1, e2]
      unfold spV
      rw [plA_cg h]
  have e := key _ _ a b
  exact ⟨congrArg (·.1) e, congrArg (·.2) e⟩
section FN
variable {V : aV} {M : aM}
theorem fn_say {i : Int32} : fQ (qSay V M i) := by
  rintro v v2 V1 V2 M1 M2 ⟨rfl, rfl, rfl⟩ ⟨rfl, rfl, rfl⟩
  exact ⟨rfl, rfl, rfl⟩
theorem fn_c {x y : Int32} : fQ2 (fun v st => v = x ∧ st = y) := fun v st v2 st2 a b => ⟨a.1.trans b.1.symm, a.2.trans b.2.symm⟩
theorem fn_mny {k : Int32} : fQ2 (qMny V k) := fQ2.gat (fun _ => fn_c)
theorem fn_prg (hV : vOK V) {k p : Int32} : fQ2 (qPrg V k p) := fQ2.gat (fun _ => fQ2.one (by have := hV.np; omega) (fun r _ => fn_c))
theorem fn_fct (hV : vOK V) {k p : Int32} : fQ2 (qFct V k p) := fQ2.gat (fun _ => fQ2.one (by have := hV.nf; omega) (fun r _ => fn_c))
theorem fn_yes {p : Prop} {x : Int32} : fQ2 (fun v st => ((v = 1 ∧ p) ∨ (v = 0 ∧ ¬ p)) ∧ st = x) := by
  rintro v st v2 st2 ⟨a, a2⟩ ⟨b, b2⟩
  refine ⟨?_, a2.trans b2.symm⟩
  rcases a with ⟨a, p1⟩ | ⟨a, p1⟩ <;> rcases b with ⟨b, p2⟩ | ⟨b, p2⟩
  · exact a.trans b.symm
  · exact absurd p1 p2
  · exact absurd p2 p1
  · exact a.trans b.symm
theorem fn_equ {r q : Nat} : fQ2 (qEqu V r q) := fn_yes
theorem fn_wit {r q : Nat} : fQ2 (qWit V r q) := fn_yes
theorem fn_swa {r q : Nat} : fQ2 (qSwa V r q) := fQ2.gat (fun _ => fn_yes)
theorem fn_ato {r : Nat} : fQ2 (qAto V r) := fn_c
theorem fn_kin : fQ2 (qKin V) := fn_c
theorem fn_sam {r : Nat} : fQ2 (qSam V r) := by
  rintro v st v2 st2 ⟨⟨o, a1, a2, a3, rfl⟩, rfl⟩ ⟨⟨o', b1, b2, b3, rfl⟩, rfl⟩
  refine ⟨?_, rfl⟩
  have key : ∀ o o', o ≤ r → o' ≤ r → (o = r ∨ kEq (vP2 V (vS V) o r)) → (∀ t, t < o' → ¬ kEq (vP2 V (vS V) t r)) → ¬ o < o' := by
    intro o o' h1 h2 h3 h4 h
    rcases h3 with e | e
    · omega
    · exact h4 o h e
  have e : o = o' := by
    have := key o o' a1 b1 a2 b3
    have := key o' o b1 a1 b2 a3
    omega
  rw [e]
theorem fn_nee {r q : Nat} : fQ2 (qNee V r q) := by
  intro v st v2 st2 a b
  rcases a with ⟨a1, a2, a3⟩ | ⟨a1, a2, a3⟩ <;> rcases b with ⟨b1, b2, b3⟩ | ⟨b1, b2, b3⟩
  · exact ⟨a2.trans b2.symm, a3.trans b3.symm⟩
  · exact absurd b1 a1
  · exact absurd a1 b1
  · exact ⟨a2.trans b2.symm, a3.trans b3.symm⟩
theorem fn_few {r q : Nat} : fQ2 (qFew V r q) := by
  intro v st v2 st2 a b
  rcases a with ⟨k, a1, a2, a3, a4, a5⟩ | ⟨a1, a2, a3⟩ <;> rcases b with ⟨k', b1, b2, b3, b4, b5⟩ | ⟨b1, b2, b3⟩
  · have e : k = k' := by
      rcases Nat.lt_trichotomy k k' with h | h | h
      · exact absurd a2 (b3 k h)
      · exact h
      · exact absurd b2 (a3 k' h)
    subst e
    exact ⟨a4.trans b4.symm, a5.trans b5.symm⟩
  · exact absurd a2 (b1 k a1)
  · exact absurd b2 (a1 k' b1)
  · exact ⟨a2.trans b2.symm, a3.trans b3.symm⟩
theorem fn_who {r q : Nat} : fQ2 (qWho V r q) := by
  intro v st v2 st2 a b
  rcases a with ⟨a1, a2, a3⟩ | ⟨i, key, a1, a2, a3⟩ <;> rcases b with ⟨b1, b2, b3⟩ | ⟨i', key', b1, b2, b3⟩
  · exact ⟨a2.trans b2.symm, a3.trans b3.symm⟩
  · exact absurd (noP_eq.mpr a1) (fd_no b1)
  · exact absurd (noP_eq.mpr b1) (fd_no a1)
  · obtain ⟨rfl, rfl⟩ := fdP_u a1 b1
    exact ⟨a2.trans b2.symm, a3.trans b3.symm⟩
theorem fn_dro (hV : vOK V) {p : Int32} : fQ (qDro V M p) := by
  have hn := hV.np
  intro v v2 V1 V2 M1 M2 a b
  rcases a with ⟨a1, rfl, rfl, rfl⟩ | ⟨r, a1, a2, rfl, rfl, rfl⟩ <;> rcases b with ⟨b1, rfl, rfl, rfl⟩ | ⟨r', b1, b2, rfl, rfl, rfl⟩
  · exact ⟨rfl, rfl, rfl⟩
  · exact absurd (b2 ▸ inP_of (by omega) b1) a1
  · exact absurd (a2 ▸ inP_of (by omega) a1) b1
  · have e := nI_iu a1 b1 (by omega) (a2.symm.trans b2)
    subst e
    exact ⟨rfl, rfl, rfl⟩
theorem fn_ass (hV : vOK V) {p y : Int32} : fQ (qAss V M p y) := by
  have hn := hV.nf
  intro v v2 V1 V2 M1 M2 a b
  rcases a with ⟨a1, rfl, rfl, rfl⟩ | ⟨r, a1, a2, a3⟩ <;> rcases b with ⟨b1, rfl, rfl, rfl⟩ | ⟨r', b1, b2, b3⟩
  · exact ⟨rfl, rfl, rfl⟩
  · exact absurd (b2 ▸ inP_of (by omega) b1) a1
  · exact absurd (a2 ▸ inP_of (by omega) a1) b1
  · have e := nI_iu a1 b1 (by omega) (a2.symm.trans b2)
    subst e
    rcases a3 with ⟨c1, rfl, rfl, rfl⟩ | ⟨c1, rfl, rfl, rfl⟩ <;> rcases b3 with ⟨d1, rfl, rfl, rfl⟩ | ⟨d1, rfl, rfl, rfl⟩
    · exact ⟨rfl, rfl, rfl⟩
    · exact absurd c1 d1
    · exact absurd d1 c1
    · exact ⟨rfl, rfl, rfl⟩
theorem fn_mak (hV : vOK V) {kd p o test : Int32} : fQ (qMak V M kd p o test) := by
  have hn := hV.np
  have i5 : ∀ c, c ≤ 4 → 0 ≤ nI c ∧ nI c ≤ 4 := fun c hc => ⟨Int32.not_lt.mp (nI_nn (a := c) (by omega)), nI_le (b := 4) hc (by omega)⟩
  intro v v2 V1 V2 M1 M2 a b
  rcases a with ⟨a1, rfl, rfl, rfl⟩ | ⟨c, a1, a2, a3⟩ <;> rcases b with ⟨b1, rfl, rfl, rfl⟩ | ⟨c', b1, b2, b3⟩
  · exact ⟨rfl, rfl, rfl⟩
  · exact absurd (b2 ▸ i5 c' b1) a1
  · exact absurd (a2 ▸ i5 c a1) b1
  · have e : c = c' := (nI_eq (by omega) (by omega)).mp (a2.symm.trans b2)
    subst e
    rcases a3 with ⟨c1, rfl, rfl, rfl⟩ | ⟨r, q, r1, q1, r2, q2, t1, c1⟩ <;> rcases b3 with ⟨d1, rfl, rfl, rfl⟩ | ⟨r', q', s1, p1, s2, p2, t2, d1⟩
    · exact ⟨rfl, rfl, rfl⟩
    · exact absurd ⟨⟨s2 ▸ inP_of (by omega) s1, p2 ▸ inP_of (by omega) p1⟩, t2⟩ c1
    · exact absurd ⟨⟨r2 ▸ inP_of (by omega) r1, q2 ▸ inP_of (by omega) q1⟩, t1⟩ d1
    · have e := nI_iu r1 s1 (by omega) (r2.symm.trans s2)
      have e2 := nI_iu q1 p1 (by omega) (q2.symm.trans p2)
      subst e e2
      rcases c1 with ⟨c1, rfl, rfl, rfl⟩ | ⟨c1, rfl, rfl, rfl⟩ <;> rcases d1 with ⟨d1, rfl, rfl, rfl⟩ | ⟨d1, rfl, rfl, rfl⟩
      · exact ⟨rfl, rfl, rfl⟩
      · exact absurd c1 d1
      · exact absurd d1 c1
      · exact ⟨rfl, rfl, rfl⟩
theorem fn_und : fQ (qUnd V M) := by
  intro v v2 V1 V2 M1 M2 a b
  rcases a with ⟨a1, rfl, rfl, rfl⟩ | ⟨r, a1, rfl, rfl, rfl⟩ <;> rcases b with ⟨b1, rfl, rfl, rfl⟩ | ⟨r', b1, rfl, rfl, rfl⟩
  · exact ⟨rfl, rfl, rfl⟩
  · omega
  · omega
  · have e : r = r' := by omega
    subst e
    exact ⟨rfl, rfl, rfl⟩
theorem fn_fed {a b c d e : Int32} : fQ (qFed V M a b c d e) := by
  rintro v v2 V1 V2 M1 M2 ⟨rfl, x⟩ ⟨rfl, y⟩
  rcases x with ⟨a1, rfl, rfl⟩ | ⟨a1, rfl, rfl⟩ <;> rcases y with ⟨b1, rfl, rfl⟩ | ⟨b1, rfl, rfl⟩
  · exact ⟨rfl, rfl, rfl⟩
  · exact absurd a1 b1
  · exact absurd b1 a1
  · exact ⟨rfl, rfl, rfl⟩
theorem fn_qld {n : Nat} {r : pLz} : fQ (qLd V M n r) := by
  intro v v2 V1 V2 M1 M2 a b
  cases r with
  | inl x =>
    obtain ⟨rfl, rfl, rfl⟩ := a
    obtain ⟨rfl, rfl, rfl⟩ := b
    exact ⟨rfl, rfl, rfl⟩
  | inr x =>
    obtain ⟨rfl, rfl, rfl⟩ := a
    obtain ⟨rfl, rfl, rfl⟩ := b
    exact ⟨rfl, rfl, rfl⟩
theorem fn_lod (hm : M.1.1 ≤ 500) {k : Int32} : fQ (qLod V M k) := by
  intro v v2 V1 V2 M1 M2 a b
  have i5 : ∀ n, n ≤ M.1.1 → 0 ≤ nI n ∧ nI n ≤ nI M.1.1 := fun n hn => ⟨Int32.not_lt.mp (nI_nn (a := n) (by omega)), nI_le hn (by omega)⟩
  rcases a with ⟨a1, rfl, rfl, rfl⟩ | ⟨n, a1, a2, r, a3, a4⟩ <;> rcases b with ⟨b1, rfl, rfl, rfl⟩ | ⟨n', b1, b2, r', b3, b4⟩
  · exact ⟨rfl, rfl, rfl⟩
  · exact absurd (b2 ▸ i5 n' b1) a1
  · exact absurd (a2 ▸ i5 n a1) b1
  · have e : n = n' := (nI_eq (by omega) (by omega)).mp (a2.symm.trans b2)
    subst e
    have e2 := Option.some.inj (a3.symm.trans b3)
    subst e2
    exact fn_qld _ _ _ _ _ _ a4 b4
theorem fn_bth {k p o : Int32} (hV : vOK V) : fQ (qL V M (gatL (0 ≤ k ∧ k ≤ 12) 1 (twoL (vNp V) p o (qBth V k)))) := by
  have hn := hV.np
  rintro v v2 V1 V2 M1 M2 ⟨i, st, rfl, a, rfl, rfl⟩ ⟨i2, st2, rfl, b, rfl, rfl⟩
  have key : i = i2 ∧ st = st2 := by
    rcases a with ⟨a1, rfl, rfl⟩ | ⟨a1, a2⟩ <;> rcases b with ⟨b1, rfl, rfl⟩ | ⟨b1, b2⟩
    · exact ⟨rfl, rfl⟩
    · exact absurd b1 a1
    · exact absurd a1 b1
    · rcases a2 with ⟨c1, rfl, rfl⟩ | ⟨r, q, r1, q1, r2, q2, rfl, rfl⟩ <;> rcases b2 with ⟨d1, rfl, rfl⟩ | ⟨r', q', s1, p1, s2, p2, rfl, rfl⟩
      · exact ⟨rfl, rfl⟩
      · exact absurd ⟨s2 ▸ inP_of (by omega) s1, p2 ▸ inP_of (by omega) p1⟩ c1
      · exact absurd ⟨r2 ▸ inP_of (by omega) r1, q2 ▸ inP_of (by omega) q1⟩ d1
      · have e := nI_iu r1 s1 (by omega) (r2.symm.trans s2)
        have e2 := nI_iu q1 p1 (by omega) (q2.symm.trans p2)
        subst e e2
        exact ⟨rfl, rfl⟩
  obtain ⟨rfl, rfl⟩ := key
  exact ⟨rfl, rfl, rfl⟩
end FN
