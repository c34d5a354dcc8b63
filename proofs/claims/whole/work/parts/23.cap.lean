/-! there are never too many states: keys are of few bits -/
theorem or_nI : ∀ q, q < 6 → ∀ n, n < 64 → nI n ||| (1 : Int32) <<< (nI q &&& 31) = nI (n ||| 2 ^ q) := by decide +kernel
theorem goF_n (R : Nat → Int32) (a : Nat) (set atom act : Int32) (beg : Prop) : ∀ q, q ≤ 6 → ∃ n, n < 2 ^ q ∧ goF R a set atom act beg q = nI n := by
  intro q
  induction q with
  | zero => intro _; exact ⟨0, by omega, rfl⟩
  | succ q ih =>
    intro hq
    obtain ⟨n, hn, e⟩ := ih (by omega)
    have h64 : n < 64 := Nat.lt_of_lt_of_le hn (Nat.pow_le_pow_right (by omega) (show q ≤ 6 by omega))
    have hp : 2 ^ q < 2 ^ (q + 1) := Nat.pow_lt_pow_right (by omega) (by omega)
    rcases Classical.em (goC R a set atom act beg q) with c | c
    · refine ⟨n ||| 2 ^ q, Nat.or_lt_two_pow (Nat.lt_trans hn hp) hp, ?_⟩
      rw [goF_t c, e]
      exact or_nI q (by omega) n h64
    · refine ⟨n, Nat.lt_trans hn hp, ?_⟩
      rw [goF_f c, e]
      simp
theorem key_lN : ∀ a, a < 64 → ∀ b, b < 64 → ∀ f, f < 4 → (nI a).toInt64 ||| (nI b).toInt64 <<< ((16 : Int32).toInt64 &&& 63) ||| (nI f).toInt64 <<< ((32 : Int32).toInt64 &&& 63) = lN (a + 65536 * b + 4294967296 * f) := by decide +kernel
/-- a key that isn't the beginning: the places of each -/
def kK (key : Int64) : Prop := ∃ a b f, a < 64 ∧ b < 64 ∧ f < 4 ∧ key = lN (a + 65536 * b + 4294967296 * f)
theorem kSc_K {P : kP} (h1 : P.2.2.2.2.2.1 ≤ 6) (h2 : P.2.2.2.2.2.2.1 ≤ 6) (h3 : P.2.2.2.2.2.2.2 ≤ 2) {key k' : Int64} {j : Nat} (h : kSc P key j = some k') : kK k' := by
  unfold kSc at h
  split at h
  · cases h
  split at h
  · cases h
  split at h
  · cases h
  split at h
  · cases h
  obtain ⟨a, ha, ea⟩ := goF_n P.2.2.1 P.2.2.2.2.2.1 (kMi key) (nI (j / 3)) (nI (j % 3)) (¬ kbg key = 0) P.2.2.2.2.2.1 h1
  obtain ⟨b, hb, eb⟩ := goF_n P.2.2.2.1 P.2.2.2.2.2.2.1 (kIt key) (nI (j / 3)) (nI (j % 3)) (¬ kbg key = 0) P.2.2.2.2.2.2.1 h2
  obtain ⟨f, hf, ef⟩ := goF_n P.2.2.2.2.1 P.2.2.2.2.2.2.2 (kBa key) (nI (j / 3)) (nI (j % 3)) (¬ (1 : Int32) = 0) P.2.2.2.2.2.2.2 (by omega)
  have a64 : a < 64 := Nat.lt_of_lt_of_le ha (Nat.pow_le_pow_right (by omega) h1)
  have b64 : b < 64 := Nat.lt_of_lt_of_le hb (Nat.pow_le_pow_right (by omega) h2)
  have f4 : f < 4 := Nat.lt_of_lt_of_le hf (Nat.pow_le_pow_right (by omega) h3)
  refine ⟨a, b, f, a64, b64, f4, ?_⟩
  rw [← Option.some.inj h, ← key_lN a a64 b b64 f f4]
  show (kA P key j).toInt64 ||| (kB P key j).toInt64 <<< ((16 : Int32).toInt64 &&& 63) ||| (kF P key j).toInt64 <<< ((32 : Int32).toInt64 &&& 63) = _
  rw [show kA P key j = nI a from ea, show kB P key j = nI b from eb, show kF P key j = nI f from ef]
theorem bfs_key (sc : Int64 → Nat → Option Int64) (hsc : ∀ key j k', sc key j = some k' → kK k') : ∀ e q, q ∈ bfs sc e → q.1 = BEG ∨ kK q.1 := by
  intro e
  induction e with
  | zero => intro q hq; left; simp [bfs] at hq; rw [hq]
  | succ e ih =>
    intro q hq
    change q ∈ bstep sc (bfs sc e) e at hq
    cases h1 : (bfs sc e)[e / 24]? with
    | none => simp only [bstep, h1] at hq; exact ih q hq
    | some p =>
      cases h2 : sc p.1 (e % 24) with
      | none => rw [bstep_none h1 h2] at hq; exact ih q hq
      | some k =>
        rcases Classical.em (k ∈ (bfs sc e).map (·.1)) with h3 | h3
        · rw [bstep_old h1 h2 h3] at hq; exact ih q hq
        · rw [bstep_new h1 h2 h3] at hq
          rcases List.mem_append.mp hq with z | z
          · exact ih q z
          · rw [List.mem_singleton.mp z]; exact Or.inr (hsc _ _ _ h2)
theorem bfs_inj (sc : Int64 → Nat → Option Int64) : ∀ (e i j : Nat) (p q : Int64 × Nat), (bfs sc e)[i]? = some p → (bfs sc e)[j]? = some q → p.1 = q.1 → i = j := by
  intro e
  induction e with
  | zero =>
    intro i j p q hi hj _
    have h1 := (List.getElem?_eq_some_iff.mp hi).1
    have h2 := (List.getElem?_eq_some_iff.mp hj).1
    simp [bfs] at h1 h2
    omega
  | succ e ih =>
    intro i j p q hi hj hpq
    change (bstep sc (bfs sc e) e)[i]? = some p at hi
    change (bstep sc (bfs sc e) e)[j]? = some q at hj
    cases h1 : (bfs sc e)[e / 24]? with
    | none => simp only [bstep, h1] at hi hj; exact ih i j p q hi hj hpq
    | some x =>
      cases h2 : sc x.1 (e % 24) with
      | none => rw [bstep_none h1 h2] at hi hj; exact ih i j p q hi hj hpq
      | some k =>
        rcases Classical.em (k ∈ (bfs sc e).map (·.1)) with h3 | h3
        · rw [bstep_old h1 h2 h3] at hi hj; exact ih i j p q hi hj hpq
        · rw [bstep_new h1 h2 h3] at hi hj
          have old : ∀ t y, (bfs sc e ++ [(k, e)])[t]? = some y → (t < (bfs sc e).length ∧ (bfs sc e)[t]? = some y) ∨ (t = (bfs sc e).length ∧ y = (k, e)) := by
            intro t y ht
            rcases Nat.lt_or_ge t (bfs sc e).length with z | z
            · rw [List.getElem?_append_left z] at ht; exact Or.inl ⟨z, ht⟩
            · rw [List.getElem?_append_right z] at ht
              have z2 := (List.getElem?_eq_some_iff.mp ht).1
              simp at z2
              rw [show t - (bfs sc e).length = 0 by omega] at ht
              simp at ht
              exact Or.inr ⟨by omega, ht.symm⟩
          rcases old i p hi with ⟨a1, a2⟩ | ⟨a1, a2⟩ <;> rcases old j q hj with ⟨b1, b2⟩ | ⟨b1, b2⟩
          · exact ih i j p q a2 b2 hpq
          · exact absurd (List.mem_map.mpr ⟨p, List.mem_of_getElem? a2, by rw [hpq, b2]⟩) h3
          · exact absurd (List.mem_map.mpr ⟨q, List.mem_of_getElem? b2, by rw [← hpq, a2]⟩) h3
          · omega
noncomputable def kCode (key : Int64) : Nat := if key = BEG then 16384 else (key.toInt.toNat % 64 + 64 * (key.toInt.toNat / 65536 % 64) + 4096 * (key.toInt.toNat / 4294967296 % 4))
theorem lN_nat {n : Nat} (h : n < 2 ^ 63) : (lN n).toInt.toNat = n := by rw [pk_lT h]; exact Int.toNat_natCast n
theorem kCode_K {a b f : Nat} (ha : a < 64) (hb : b < 64) (hf : f < 4) : kCode (lN (a + 65536 * b + 4294967296 * f)) = a + 64 * b + 4096 * f := by
  have hne : lN (a + 65536 * b + 4294967296 * f) ≠ BEG := fun z => by
    have this : (lN (a + 65536 * b + 4294967296 * f)).toInt.toNat = BEG.toInt.toNat := congrArg (fun x : Int64 => x.toInt.toNat) z
    rw [lN_nat (by omega), show BEG.toInt.toNat = 1099511627776 by decide] at this
    omega
  rw [kCode, if_neg hne, lN_nat (by omega)]
  omega
theorem bfs_cap (sc : Int64 → Nat → Option Int64) (hsc : ∀ key j k', sc key j = some k' → kK k') (e : Nat) : (bfs sc e).length < 16400 := by
  have key := pigeon (fun i => kCode (((bfs sc e)[i]?.map (·.1)).getD 0)) (bfs sc e).length 16385 (fun i hi => by
      have hg := List.getElem?_eq_getElem hi
      show kCode (((bfs sc e)[i]?.map (·.1)).getD 0) < 16385
      rw [hg]
      rcases bfs_key sc hsc e _ (List.getElem_mem hi) with q | ⟨a, b, f, ha, hb, hf, q⟩
      · show kCode ((bfs sc e)[i]).1 < 16385
        rw [q, kCode, if_pos rfl]; omega
      · show kCode ((bfs sc e)[i]).1 < 16385
        rw [q, kCode_K ha hb hf]; omega) (fun i j hi hj he => by
      have hgi := List.getElem?_eq_getElem hi
      have hgj := List.getElem?_eq_getElem hj
      refine bfs_inj sc e i j _ _ hgi hgj ?_
      rw [hgi, hgj] at he
      change kCode ((bfs sc e)[i]).1 = kCode ((bfs sc e)[j]).1 at he
      rcases bfs_key sc hsc e _ (List.getElem_mem hi) with q | ⟨a, b, f, ha, hb, hf, q⟩ <;> rcases bfs_key sc hsc e _ (List.getElem_mem hj) with q' | ⟨a', b', f', ha', hb', hf', q'⟩
      · rw [q, q']
      · rw [q, q', kCode_K ha' hb' hf', kCode, if_pos rfl] at he; omega
      · rw [q, q', kCode_K ha hb hf, kCode, if_pos rfl] at he; omega
      · rw [q, q', kCode_K ha hb hf, kCode_K ha' hb' hf'] at he
        rw [q, q', show a = a' by omega, show b = b' by omega, show f = f' by omega])
  omega
theorem kSc_cap {P : kP} (h1 : P.2.2.2.2.2.1 ≤ 6) (h2 : P.2.2.2.2.2.2.1 ≤ 6) (h3 : P.2.2.2.2.2.2.2 ≤ 2) (e : Nat) : (bfs (kSc P) e).length < 16400 := bfs_cap _ (fun _ _ _ h => kSc_K h1 h2 h3 h) e
