/-! Table: its rows; copy -/
def tSh (t : Nat) (h : HS) : Prop := hK h t = 7 ∧ (hR h t 1 = some (t + 1) ∧ hK h (t + 1) = 12 ∧ hN h (t + 1) = 125) ∧ (hR h t 2 = some (t + 2) ∧ hK h (t + 2) = 12 ∧ hN h (t + 2) = 125) ∧ (hR h t 3 = some (t + 3) ∧ hK h (t + 3) = 12 ∧ hN h (t + 3) = 3000) ∧ (hR h t 4 = some (t + 4) ∧ hK h (t + 4) = 12 ∧ hN h (t + 4) = 125) ∧ (hR h t 8 = some (t + 5) ∧ hK h (t + 5) = 12 ∧ hN h (t + 5) = 125) ∧ (hR h t 9 = some (t + 6) ∧ hK h (t + 6) = 12 ∧ hN h (t + 6) = 3000) ∧ (hR h t 10 = some (t + 7) ∧ hK h (t + 7) = 12 ∧ hN h (t + 7) = 125) ∧ (hR h t 11 = some (t + 8) ∧ hK h (t + 8) = 12 ∧ hN h (t + 8) = 125) ∧ (hR h t 12 = some (t + 9) ∧ hK h (t + 9) = 12 ∧ hN h (t + 9) = 125) ∧ (hR h t 13 = some (t + 10) ∧ hK h (t + 10) = 12 ∧ hN h (t + 10) = 125)
/-- the heap with other rows of the table: row i lies i behind it, its own fields are row 0 -/
def tR (t : Nat) (h : HS) (ρ : Nat → Nat → Int32) : HS := (fun b j => if t ≤ b ∧ b ≤ t + 10 then ρ (b - t) j else h.1 b j, h.2)
def rset (ρ : Nat → Nat → Int32) (i : Nat) (f : Nat → Int32) : Nat → Nat → Int32 := fun a => if a = i then f else ρ a
theorem rset_eq (ρ : Nat → Nat → Int32) (i : Nat) (f : Nat → Int32) : rset ρ i f i = f := if_pos rfl
theorem rset_ne {ρ : Nat → Nat → Int32} {i a : Nat} {f : Nat → Int32} (h : a ≠ i) : rset ρ i f a = ρ a := if_neg h
theorem rset_rset (ρ : Nat → Nat → Int32) (i : Nat) (f g : Nat → Int32) : rset (rset ρ i f) i g = rset ρ i g := by
  funext a
  unfold rset
  split <;> rfl
theorem rset_self (ρ : Nat → Nat → Int32) (i : Nat) : rset ρ i (ρ i) = ρ := by
  funext a
  unfold rset
  split
  · rename_i e; rw [e]
  · rfl
section C15a
variable {t : Nat} {h : HS} {ρ : Nat → Nat → Int32}
theorem tR_at {i : Nat} (hi : i ≤ 10) : hI (tR t h ρ) (t + i) = ρ i := by
  funext j
  show (if t ≤ t + i ∧ t + i ≤ t + 10 then ρ (t + i - t) j else _) = _
  rw [if_pos (by omega), show t + i - t = i by omega]
theorem tR_0 : hI (tR t h ρ) t = ρ 0 := tR_at (i := 0) (by omega)
theorem tR_ne {b : Nat} (hb : ¬ (t ≤ b ∧ b ≤ t + 10)) : hI (tR t h ρ) b = hI h b := by
  funext j
  show (if t ≤ b ∧ b ≤ t + 10 then _ else _) = _
  rw [if_neg hb]
  rfl
theorem tR_f {i : Nat} (hi : i ≤ 10) {f : Nat → Int32} : sF (tR t h ρ) (t + i) f = tR t h (rset ρ i f) := by
  unfold sF tR rset
  congr 1
  funext b j
  by_cases e : b = t + i
  · subst e
    show (if t + i = t + i then f j else _) = (if t ≤ t + i ∧ t + i ≤ t + 10 then (if t + i - t = i then f else ρ (t + i - t)) j else _)
    rw [if_pos rfl, if_pos (by omega), if_pos (by omega)]
  · show (if b = t + i then f j else (if t ≤ b ∧ b ≤ t + 10 then ρ (b - t) j else h.1 b j)) = (if t ≤ b ∧ b ≤ t + 10 then (if b - t = i then f else ρ (b - t)) j else h.1 b j)
    rw [if_neg e]
    by_cases e2 : t ≤ b ∧ b ≤ t + 10
    · rw [if_pos e2, if_pos e2, if_neg (by omega)]
    · rw [if_neg e2, if_neg e2]
theorem tR_i {i : Nat} (hi : i ≤ 10) {k : Nat} {v : Int32} : sI (tR t h ρ) (t + i) k v = tR t h (rset ρ i (upd (ρ i) k v)) := by rw [sI_sF, tR_at hi, tR_f hi]
theorem tR_i0 {k : Nat} {v : Int32} : sI (tR t h ρ) t k v = tR t h (rset ρ 0 (upd (ρ 0) k v)) := tR_i (i := 0) (by omega)
theorem tR_self : tR t h (fun i => hI h (t + i)) = h := by
  unfold tR
  show (_, h.2) = h
  have : (fun b j => if t ≤ b ∧ b ≤ t + 10 then hI h (t + (b - t)) j else h.1 b j) = h.1 := by
    funext b j
    by_cases e : t ≤ b ∧ b ≤ t + 10
    · rw [if_pos e, show t + (b - t) = b by omega]; rfl
    · rw [if_neg e]
  rw [this]
theorem tR_tR {ρ' : Nat → Nat → Int32} : tR t (tR t h ρ) ρ' = tR t h ρ' := by
  unfold tR
  congr 1
  funext b j
  by_cases e : t ≤ b ∧ b ≤ t + 10
  · rw [if_pos e, if_pos e]
  · rw [if_neg e, if_neg e]
    show (if t ≤ b ∧ b ≤ t + 10 then _ else _) = _
    rw [if_neg e]
theorem hS_tR {s i : Nat} (hd : t + 10 < s ∨ s + 18 < t) (hi : i ≤ 10) {F BH NU SI CA : Nat → Int32} {k : Nat} {v : Int32} : sI (hS s (tR t h ρ) F BH NU SI CA) (t + i) k v = hS s (tR t h (rset ρ i (upd (ρ i) k v))) F BH NU SI CA := by
  rw [sI_sF, hS_ne (by omega), tR_at hi, sF_hS (by omega), tR_f hi]
theorem hS_tR0 {s : Nat} (hd : t + 10 < s ∨ s + 18 < t) {F BH NU SI CA : Nat → Int32} {k : Nat} {v : Int32} : sI (hS s (tR t h ρ) F BH NU SI CA) t k v = hS s (tR t h (rset ρ 0 (upd (ρ 0) k v))) F BH NU SI CA := hS_tR (i := 0) hd (by omega)
theorem hS_tRa {s i : Nat} (hd : t + 10 < s ∨ s + 18 < t) (hi : i ≤ 10) {F BH NU SI CA : Nat → Int32} : hI (hS s (tR t h ρ) F BH NU SI CA) (t + i) = ρ i := by rw [hS_ne (by omega), tR_at hi]
end C15a
theorem sRd.tR {P : kP} {s t : Nat} {h : HS} (rd : sRd P s h) (hd : t + 10 < s ∨ s + 18 < t) (ρ : Nat → Nat → Int32) : sRd P s (tR t h ρ) := by
  unfold sRd
  rw [tR_ne (by omega), tR_ne (by omega), tR_ne (by omega), tR_ne (by omega), tR_ne (by omega), tR_ne (by omega), tR_ne (by omega), tR_ne (by omega), tR_ne (by omega)]
  exact rd
/-- one program alone has no more than 125 states -/
theorem one_len {P : kP} (hs : kSm P) (h5 : P.2.2.2.2.2.1 ≤ 5) (h0 : P.2.2.2.2.2.2.1 = 0) (e : Nat) : (bfs (kSc P) e).length ≤ 125 := by
  have hk : ∀ (j : Nat) (q : Int64 × Nat), (bfs (kSc P) e)[j]? = some q → q.1 = BEG ∨ ∃ a f, 0 < a ∧ a < 32 ∧ f < 4 ∧ q.1 = kKey a 0 f := by
    intro j q hq
    have hm := List.mem_of_getElem? hq
    clear hq
    revert q
    induction e with
    | zero => intro q hm; left; simp [bfs] at hm; rw [hm]
    | succ e ih =>
      intro q hm
      have hb : bfs (kSc P) (e + 1) = bstep (kSc P) (bfs (kSc P) e) e := rfl
      rw [hb] at hm
      cases h1 : (bfs (kSc P) e)[e / 24]? with
      | none => simp only [bstep, h1] at hm; exact ih q hm
      | some r =>
        cases h2 : kSc P r.1 (e % 24) with
        | none => rw [bstep_none h1 h2] at hm; exact ih q hm
        | some k' =>
          rcases Classical.em (k' ∈ (bfs (kSc P) e).map (·.1)) with h3 | h3
          · rw [bstep_old h1 h2 h3] at hm; exact ih q hm
          · rw [bstep_new h1 h2 h3] at hm
            rcases List.mem_append.mp hm with x | x
            · exact ih q x
            · rw [List.mem_singleton.mp x]
              obtain ⟨a, b, f, ha, hb, hf, eA, eB, -, rfl⟩ := kSc_W hs h2
              rw [h0] at hb
              have b0 : b = 0 := by simpa using hb
              subst b0
              have a5 : a < 32 := Nat.lt_of_lt_of_le ha (Nat.pow_le_pow_right (by omega) h5)
              have f4 : f < 4 := Nat.lt_of_lt_of_le hf (Nat.pow_le_pow_right (by omega) hs.2.2)
              refine Or.inr ⟨a, f, Nat.pos_of_ne_zero fun z => ?_, a5, f4, rfl⟩
              unfold kSc at h2
              split at h2
              · cases h2
              split at h2
              · cases h2
              split at h2
              · cases h2
              split at h2
              · cases h2
              · rename_i hn
                exact hn (by rw [eA, eB, z]; rfl)
  have key := pigeon (fun i => kCode (kyL (bfs (kSc P) e) i) % 32 + 32 * (kCode (kyL (bfs (kSc P) e) i) / 4096) - (if kyL (bfs (kSc P) e) i = BEG then 4 else 0)) (bfs (kSc P) e).length 125
  have cod : ∀ i, i < (bfs (kSc P) e).length → ∃ x, x < 125 ∧ (kyL (bfs (kSc P) e) i = BEG ∧ x = 124 ∨ ∃ a f, 0 < a ∧ a < 32 ∧ f < 4 ∧ kyL (bfs (kSc P) e) i = kKey a 0 f ∧ x = (a - 1) + 31 * f) := by
    intro i hi
    have hg := List.getElem?_eq_getElem hi
    rw [kyL_at (k := ((bfs (kSc P) e)[i]).1) (v := ((bfs (kSc P) e)[i]).2) hg]
    rcases hk i _ hg with x | ⟨a, f, a0, a5, f4, x⟩
    · exact ⟨124, by omega, Or.inl ⟨x, rfl⟩⟩
    · exact ⟨(a - 1) + 31 * f, by omega, Or.inr ⟨a, f, a0, a5, f4, x, rfl⟩⟩
  have hx : ∀ i, ∃ x, i < (bfs (kSc P) e).length → (x < 125 ∧ (kyL (bfs (kSc P) e) i = BEG ∧ x = 124 ∨ ∃ a f, 0 < a ∧ a < 32 ∧ f < 4 ∧ kyL (bfs (kSc P) e) i = kKey a 0 f ∧ x = (a - 1) + 31 * f)) := by
    intro i
    by_cases c : i < (bfs (kSc P) e).length
    · obtain ⟨x, h1⟩ := cod i c
      exact ⟨x, fun _ => h1⟩
    · exact ⟨0, fun z => absurd z c⟩
  refine pigeon (fun i => Classical.choose (hx i)) _ 125 (fun i hi => (Classical.choose_spec (hx i) hi).1) (fun i j hi hj he => ?_)
  have hi1 := (Classical.choose_spec (hx i) hi).2
  have hj1 := (Classical.choose_spec (hx j) hj).2
  have he1 : Classical.choose (hx i) = Classical.choose (hx j) := he
  rw [he1] at hi1
  generalize Classical.choose (hx j) = x at hi1 hj1
  have ek : kyL (bfs (kSc P) e) i = kyL (bfs (kSc P) e) j := by
    rcases hi1 with ⟨p1, p2⟩ | ⟨a, f, a0, a5, f4, p1, p2⟩ <;> rcases hj1 with ⟨q1, q2⟩ | ⟨a', f', a0', a5', f4', q1, q2⟩
    · rw [p1, q1]
    · omega
    · omega
    · rw [p1, q1, show a = a' by omega, show f = f' by omega]
  have hgi := List.getElem?_eq_getElem hi
  have hgj := List.getElem?_eq_getElem hj
  refine (bfs_ok hs e).2 i j _ _ hgi hgj ?_
  rw [kyL_at (k := ((bfs (kSc P) e)[i]).1) (v := ((bfs (kSc P) e)[i]).2) hgi, kyL_at (k := ((bfs (kSc P) e)[j]).1) (v := ((bfs (kSc P) e)[j]).2) hgj] at ek
  exact ek
/-- what copy has laid of the first n states -/
def rawI (P : kP) (n : Nat) (ρ : Nat → Nat → Int32) : Prop := ∀ (i : Nat) (q : Int64 × Nat), (bfs (kSc P) (24 * n))[i]? = some q → i < n → ρ 5 i = kE1 P q.1 ∧ ∀ k, k < 24 → (kSc P q.1 k = none ∧ ρ 6 (24 * i + k) = -1) ∨ ∃ (k' : Int64) (j v : Nat), kSc P q.1 k = some k' ∧ (bfs (kSc P) (24 * n))[j]? = some (k', v) ∧ ρ 6 (24 * i + k) = nI j
def rhoO (ρ ρ' : Nat → Nat → Int32) (S : Nat → Prop) : Prop := ∀ a, ¬ S a → ρ' a = ρ a
section C15
variable {w : gD} {s t : Nat} {h : HS}
theorem e_t_copy (hs : sSh s h) (ht : tSh t h) (hd : t + 10 < s ∨ s + 18 < t) {P : kP} (rd : sRd P s h) (h5 : P.2.2.2.2.2.1 ≤ 5) (hz : P.2.2.2.2.2.2.1 = 0) {nt na : Nat} {F BH NU SI CA : Nat → Int32} (fl : sFl P nt na F) (q : sQ [(BEG, 0)] F NU SI CA) (ρ : Nat → Nat → Int32) :
    Ev w 4 0 0 yX6_copy cX6_copy 5 none [.ref t, .ref s] (hS s (tR t h ρ) F BH NU SI CA) (fun r' h' => r' = none ∧ ∃ N F' BH' NU' SI' CA' ρ', h' = hS s (tR t h ρ') F' BH' NU' SI' CA' ∧ (bfs (kSc P) (24 * N)).length = N ∧ 0 < N ∧ N ≤ 125 ∧ sQ (bfs (kSc P) (24 * N)) F' NU' SI' CA' ∧ rawI P N ρ' ∧ ρ' 0 7 = nI N ∧ (∀ k, k ≠ 7 → ρ' 0 k = ρ 0 k) ∧ ∀ a, a ≠ 0 → a ≠ 5 → a ≠ 6 → ρ' a = ρ a) := by
  refine g_start (by decide) (Nat.le_of_ble_eq_true rfl) [(0, _), (1, _)] rfl (fun z hfl C => ?_)
  have out : ∀ i F' BH' NU' SI' CA' ρ', (bfs (kSc P) (24 * i)).length ≤ i → i ≤ (bfs (kSc P) (24 * i)).length → sQ (bfs (kSc P) (24 * i)) F' NU' SI' CA' → rawI P i ρ' → ρ' 0 7 = nI i → (∀ k, k ≠ 7 → ρ' 0 k = ρ 0 k) → (∀ a, a ≠ 0 → a ≠ 5 → a ≠ 6 → ρ' a = ρ a) → GW z w 5 (gQ z w 0 0 (fun r' h'' => r' = none ∧ ∃ N F' BH' NU' SI' CA' ρ', h'' = hS s (tR t h ρ') F' BH' NU' SI' CA' ∧ (bfs (kSc P) (24 * N)).length = N ∧ 0 < N ∧ N ≤ 125 ∧ sQ (bfs (kSc P) (24 * N)) F' NU' SI' CA' ∧ rawI P N ρ' ∧ ρ' 0 7 = nI N ∧ (∀ k, k ≠ 7 → ρ' 0 k = ρ 0 k) ∧ ∀ a, a ≠ 0 → a ≠ 5 → a ≠ 6 → ρ' a = ρ a)) 0 0 101 [(0, .ref t), (1, .ref s), (2, .int (nI i))] [] (hS s (tR t h ρ') F' BH' NU' SI' CA') := by
    intro i F' BH' NU' SI' CA' ρ' g1 g2 g3 g4 g5 g6 g7
    have hN := one_len rd.1 h5 hz (24 * i)
    have h0 := bfs_len (kSc P) 0 (24 * i)
    rw [Nat.zero_add, show (bfs (kSc P) 0).length = 1 from rfl] at h0
    exact g_vret C (by omega) (by omega) ⟨rfl, i, F', BH', NU', SI', CA', ρ', rfl, by omega, by omega, by omega, g3, g4, g5, g6, g7⟩ (gd DX6_copy_0 58 rfl)
  have loop : ∀ y i F' BH' NU' SI' CA' ρ', i + y = 125 → i ≤ (bfs (kSc P) (24 * i)).length → sFl P nt na F' → sQ (bfs (kSc P) (24 * i)) F' NU' SI' CA' → rawI P i ρ' → ρ' 0 7 = nI i → (∀ k, k ≠ 7 → ρ' 0 k = ρ 0 k) → (∀ a, a ≠ 0 → a ≠ 5 → a ≠ 6 → ρ' a = ρ a) → GW z w 5 (gQ z w 0 0 (fun r' h'' => r' = none ∧ ∃ N F' BH' NU' SI' CA' ρ', h'' = hS s (tR t h ρ') F' BH' NU' SI' CA' ∧ (bfs (kSc P) (24 * N)).length = N ∧ 0 < N ∧ N ≤ 125 ∧ sQ (bfs (kSc P) (24 * N)) F' NU' SI' CA' ∧ rawI P N ρ' ∧ ρ' 0 7 = nI N ∧ (∀ k, k ≠ 7 → ρ' 0 k = ρ 0 k) ∧ ∀ a, a ≠ 0 → a ≠ 5 → a ≠ 6 → ρ' a = ρ a)) 0 0 7 [(0, .ref t), (1, .ref s), (2, .int (nI i))] [] (hS s (tR t h ρ') F' BH' NU' SI' CA') := by
    intro y
    induction y with
    | zero =>
      intro i F' BH' NU' SI' CA' ρ' hi hle fl' q' raw g5 g6 g7
      have hN := one_len rd.1 h5 hz (24 * i)
      refine g_iload_n C (gd DX6_copy_0 5 rfl) 2 rfl rfl ?_
      refine g_bipush (v := 125) C (gd DX6_copy_0 6 rfl) (by decide) ?_
      refine g_icmp_ge C 101 (gd DX6_copy_0 7 rfl) (by decide) (fun c10 => ?_) (fun c10 => ?_)
      · exact out i F' BH' NU' SI' CA' ρ' (by omega) hle q' raw g5 g6 g7
      · exact absurd (nI_le (a := 125) (b := i) (by omega) (by omega)) c10
    | succ y ih =>
      intro i F' BH' NU' SI' CA' ρ' hi hle fl' q' raw g5 g6 g7
      have hN := one_len rd.1 h5 hz (24 * i)
      have hN2 := one_len rd.1 h5 hz (24 * i + 24)
      refine g_iload_n C (gd DX6_copy_0 5 rfl) 2 rfl rfl ?_
      refine g_bipush (v := 125) C (gd DX6_copy_0 6 rfl) (by decide) ?_
      refine g_icmp_ge C 101 (gd DX6_copy_0 7 rfl) (by decide) (fun c10 => ?_) (fun c10 => ?_)
      · exact absurd c10 (nI_ge (a := i) (b := 125) (by omega) (by omega))
      · refine g_iload_n C (gd DX6_copy_0 8 rfl) 2 rfl rfl ?_
        refine g_aload_n C (gd DX6_copy_0 9 rfl) 1 rfl rfl ?_
        refine g_geti (ci := 5) (k := 0) C rfl (by decide) rfl lf_TestJudge_Table_76 hs.1 (gd DX6_copy_0 10 rfl) ?_
        rw [hS_0, q'.1]
        refine g_icmp_ge C 101 (gd DX6_copy_0 11 rfl) (by decide) (fun c18 => ?_) (fun c18 => ?_)
        · exact out i F' BH' NU' SI' CA' ρ' (ge_t c18 (by omega) (by omega)) hle q' raw g5 g6 g7
        · have hlt := ge_f c18 (by omega) (by omega)
          obtain ⟨⟨key, v⟩, hkv⟩ : ∃ p, (bfs (kSc P) (24 * i))[i]? = some p := ⟨_, List.getElem?_eq_getElem hlt⟩
          have ok := bfs_ok rd.1 (24 * i)
          have hkw : kW P key := ok.1 i _ hkv
          have q2 : sQ (bfs (kSc P) (24 * i)) (lkS P key F') NU' SI' CA' := ⟨q'.1, q'.2⟩
          have fl2 : sFl P nt na (lkS P key F') := ⟨fl'.1, fl'.2.1, fl'.2.2.1, fl'.2.2.2.1, fl'.2.2.2.2.1, fl'.2.2.2.2.2⟩
          refine g_aload_n C (gd DX6_copy_0 12 rfl) 1 rfl rfl ?_
          refine g_iload_n C (gd DX6_copy_0 13 rfl) 2 rfl rfl ?_
          refine g_cV0 (v := .null) (ci := 5) C [_] mX5_look lm_TestJudge_Table_81 (by exact hs.1) rfl rfl (e_s_look (h := tR t h ρ') (by exact hs) (rd.tR hd ρ') ok fl' q' hkv (by omega)) hfl (by decide) (by decide) (by omega) (by omega) rfl rfl (Nat.le_of_ble_eq_true rfl) (gd DX6_copy_0 14 rfl) ?_
          refine g_aload_n C (gd DX6_copy_0 15 rfl) 1 rfl rfl ?_
          refine g_iload_n C (gd DX6_copy_0 16 rfl) 2 rfl rfl ?_
          refine g_iconst (v := 0) C (gd DX6_copy_0 17 rfl) (by decide) ?_
          refine g_callV (ci := 5) C [_, _] mX5_goOn lm_TestJudge_Table_85 (by exact hs.1) rfl rfl (e_s_goOn (h := tR t h ρ') (F := lkS P key F') (key := key) (b := 0) (i := i) (by exact hs) (rd.tR hd ρ') ok fl2 hkw rfl rfl rfl rfl (Or.inl rfl) q2) hfl (by decide) (by decide) (by omega) (by omega) rfl rfl (Nat.le_of_ble_eq_true rfl) (gd DX6_copy_0 18 rfl) (fun r h2 hp => ?_)
          obtain ⟨rfl, F2, BH2, NU2, SI2, CA2, rfl, e1, e2, e3⟩ := hp
          rw [kSg_0, gst_bfs hkv 24 (by omega)] at e1 e2
          show GW z w 5 _ 0 0 _ _ [] _
          refine g_aload_n C (gd DX6_copy_0 19 rfl) 0 rfl rfl ?_
          refine g_getr (ci := 6) (k := 8) C rfl (by decide) rfl lf_TestJudge_Table_38 ht.1 ht.2.2.2.2.2.1.1 (gd DX6_copy_0 20 rfl) ?_
          refine g_iload_n C (gd DX6_copy_0 21 rfl) 2 rfl rfl ?_
          refine g_aload_n C (gd DX6_copy_0 22 rfl) 1 rfl rfl ?_
          refine g_geti (ci := 5) (k := 1) C rfl (by decide) rfl lf_TestJudge_Table_89 hs.1 (gd DX6_copy_0 23 rfl) ?_
          rw [hS_0, show F2 1 = kE1 P key from e3 1 (by omega)]
          refine g_isj (j := i) C ht.2.2.2.2.2.1.2.1 ht.2.2.2.2.2.1.2.2 (by first | decide | omega) rfl (by omega) (gd DX6_copy_0 24 rfl) ?_
          rw [hS_tR hd (by omega)]
          refine g_iconst (v := 0) C (gd DX6_copy_0 25 rfl) (by decide) ?_
          refine g_istore_n (lv' := [(0, _), (1, _), (2, _), (3, _)]) C (gd DX6_copy_0 26 rfl) [1, 2, 3, 0] rfl (by decide) rfl ?_
          have inner : ∀ x k σ, k + x = 24 → (∀ j, j < k → ((kSc P key j = none ∧ σ 6 (24 * i + j) = -1) ∨ ∃ (k' : Int64) (j' v : Nat), kSc P key j = some k' ∧ (bfs (kSc P) (24 * i + 24))[j']? = some (k', v) ∧ σ 6 (24 * i + j) = nI j')) → (∀ j, j < 24 * i → σ 6 j = ρ' 6 j) → (∀ a, a ≠ 6 → σ a = rset ρ' 5 (upd (ρ' 5) i (kE1 P key)) a) → GW z w 5 (gQ z w 0 0 (fun r' h'' => r' = none ∧ ∃ N F' BH' NU' SI' CA' ρ', h'' = hS s (tR t h ρ') F' BH' NU' SI' CA' ∧ (bfs (kSc P) (24 * N)).length = N ∧ 0 < N ∧ N ≤ 125 ∧ sQ (bfs (kSc P) (24 * N)) F' NU' SI' CA' ∧ rawI P N ρ' ∧ ρ' 0 7 = nI N ∧ (∀ k, k ≠ 7 → ρ' 0 k = ρ 0 k) ∧ ∀ a, a ≠ 0 → a ≠ 5 → a ≠ 6 → ρ' a = ρ a)) 0 0 44 [(0, .ref t), (1, .ref s), (2, .int (nI i)), (3, .int (nI k))] [] (hS s (tR t h σ) F2 BH2 NU2 SI2 CA2) := by
            intro x
            induction x with
            | zero =>
              intro k σ hk s1 s2 s3
              have ek : k = 24 := by omega
              subst ek
              refine g_iload_n C (gd DX6_copy_0 27 rfl) 3 rfl rfl ?_
              refine g_bipush (v := 24) C (gd DX6_copy_0 28 rfl) (by decide) ?_
              refine g_icmp_ge C 88 (gd DX6_copy_0 29 rfl) (by decide) (fun c47 => ?_) (fun c47 => ?_)
              · refine GW.sub [0, 1, 2, 3] rfl (Nat.le_refl _) (Nat.le_refl _) (lv' := [(0, _), (1, _), (2, _), (3, _)]) ?_
                refine g_aload_n C (gd DX6_copy_0 51 rfl) 0 rfl rfl ?_
                refine g_iload_n C (gd DX6_copy_0 52 rfl) 2 rfl rfl ?_
                refine g_iconst (v := 1) C (gd DX6_copy_0 53 rfl) (by decide) ?_
                refine g_iadd C (gd DX6_copy_0 54 rfl) ?_
                refine g_puti (ci := 6) (k := 7) C rfl (by decide) rfl lf_TestJudge_Table_35 ht.1 (Or.inl rfl) rfl (gd DX6_copy_0 55 rfl) ?_
                rw [show nI i + 1 = nI (i + 1) from nx_add (b := 1) rfl rfl, hS_tR0 hd]
                refine g_iinc (lv' := [(0, _), (1, _), (2, _), (3, _)]) C (gd DX6_copy_0 56 rfl) 2 [1, 2, 0, 3] rfl rfl (by decide) rfl ?_
                refine g_goto (tgt := 7) C (gd DX6_copy_0 57 rfl) (by decide) ?_
                refine GW.sub [0, 1, 2] rfl (Nat.le_refl _) (Nat.le_refl _) (lv' := [(0, _), (1, _), (2, _)]) ?_
                refine GW.cast (by rw [inc1]) rfl rfl (ih (i + 1) F2 BH2 NU2 SI2 CA2 _ (by omega) ?_ ⟨fl'.1, fl'.2.1, fl'.2.2.1, fl'.2.2.2.1, (e3 7 (by omega)).trans fl2.2.2.2.2.1, (e3 8 (by omega)).trans fl2.2.2.2.2.2⟩ e1 ?_ (by rw [rset_eq, upd, if_pos rfl]) ?_ ?_)
                · have := bfs_len (kSc P) (24 * i) 24
                  rw [show 24 * (i + 1) = 24 * i + 24 by omega]
                  omega
                · intro j p hp hj
                  rw [show 24 * (i + 1) = 24 * i + 24 by omega] at hp ⊢
                  rw [rset_ne (by omega), rset_ne (by omega), s3 5 (by omega), rset_eq]
                  by_cases ej : j = i
                  · subst ej
                    have hst := bfs_stay hkv 24
                    rw [hst] at hp
                    rw [← Option.some.inj hp]
                    exact ⟨by rw [upd, if_pos rfl], s1⟩
                  · have hj0 : j < (bfs (kSc P) (24 * i)).length := by omega
                    have hst := bfs_stay (List.getElem?_eq_getElem hj0) 24
                    rw [hst] at hp
                    rw [← Option.some.inj hp]
                    obtain ⟨r1, r2⟩ := raw j _ (List.getElem?_eq_getElem hj0) (by omega)
                    refine ⟨by rw [upd, if_neg ej]; exact r1, fun kk hkk => ?_⟩
                    rw [s2 _ (by omega)]
                    rcases r2 kk hkk with u | ⟨k', j', v', u1, u2, u3⟩
                    · exact Or.inl u
                    · exact Or.inr ⟨k', j', v', u1, bfs_stay u2 24, u3⟩
                · intro kk hkk
                  rw [rset_eq, upd, if_neg hkk, s3 0 (by omega), rset_ne (by omega)]
                  exact g6 kk hkk
                · intro a a0 a5 a6
                  rw [rset_ne a0, s3 a a6, rset_ne a5]
                  exact g7 a a0 a5 a6
              · exact absurd (nI_le (a := 24) (b := 24) (by omega) (by omega)) c47
            | succ x ih2 =>
              intro k σ hk s1 s2 s3
              have fin : ∀ v4 v, (kSc P key k = none ∧ v = -1 ∨ ∃ (k' : Int64) (j' v' : Nat), kSc P key k = some k' ∧ (bfs (kSc P) (24 * i + 24))[j']? = some (k', v') ∧ v = nI j') → GW z w 5 (gQ z w 0 0 (fun r' h'' => r' = none ∧ ∃ N F' BH' NU' SI' CA' ρ', h'' = hS s (tR t h ρ') F' BH' NU' SI' CA' ∧ (bfs (kSc P) (24 * N)).length = N ∧ 0 < N ∧ N ≤ 125 ∧ sQ (bfs (kSc P) (24 * N)) F' NU' SI' CA' ∧ rawI P N ρ' ∧ ρ' 0 7 = nI N ∧ (∀ k, k ≠ 7 → ρ' 0 k = ρ 0 k) ∧ ∀ a, a ≠ 0 → a ≠ 5 → a ≠ 6 → ρ' a = ρ a)) 0 0 81 [(0, .ref t), (1, .ref s), (2, .int (nI i)), (3, .int (nI k)), (4, .int v4)] [.int v, .int (nI i * 24 + nI k), .ref (t + 6)] (hS s (tR t h σ) F2 BH2 NU2 SI2 CA2) := by
                intro v4 v hv
                refine g_isj (j := 24 * i + k) C ht.2.2.2.2.2.2.1.2.1 ht.2.2.2.2.2.2.1.2.2 (by first | decide | omega) (by rw [show 24 * i + k = i * 24 + k by omega]; exact nx_add (nx_mul (b := 24) rfl rfl) rfl) (by omega) (gd DX6_copy_0 48 rfl) ?_
                rw [hS_tR hd (by omega)]
                refine g_iinc (lv' := [(0, _), (1, _), (2, _), (3, _), (4, _)]) C (gd DX6_copy_0 49 rfl) 3 [1, 2, 3, 0, 4] rfl rfl (by decide) rfl ?_
                refine g_goto (tgt := 44) C (gd DX6_copy_0 50 rfl) (by decide) ?_
                refine GW.sub [0, 1, 2, 3] rfl (Nat.le_refl _) (Nat.le_refl _) (lv' := [(0, _), (1, _), (2, _), (3, _)]) ?_
                refine GW.cast (by rw [inc1]) rfl rfl (ih2 (k + 1) _ (by omega) (fun j hj => ?_) (fun j hj => ?_) (fun a ha => by rw [rset_ne ha]; exact s3 a ha))
                · rw [rset_eq]
                  by_cases ej : j = k
                  · subst ej; rw [upd, if_pos rfl]; exact hv
                  · rw [upd, if_neg (by omega)]; exact s1 j (by omega)
                · rw [rset_eq, upd, if_neg (by omega)]; exact s2 j hj
              refine g_iload_n C (gd DX6_copy_0 27 rfl) 3 rfl rfl ?_
              refine g_bipush (v := 24) C (gd DX6_copy_0 28 rfl) (by decide) ?_
              refine g_icmp_ge C 88 (gd DX6_copy_0 29 rfl) (by decide) (fun c47 => ?_) (fun c47 => ?_)
              · exact absurd c47 (nI_ge (a := k) (b := 24) (by omega) (by omega))
              · refine g_aload_n C (gd DX6_copy_0 30 rfl) 1 rfl rfl ?_
                refine g_getr (ci := 5) (k := 2) C rfl (by decide) rfl lf_TestJudge_Table_92 hs.1 hs.2.1.1 (gd DX6_copy_0 31 rfl) ?_
                refine g_iload_n C (gd DX6_copy_0 32 rfl) 3 rfl rfl ?_
                refine g_iaj (j := k) C hs.2.1.2.1 hs.2.1.2.2 (by first | decide | omega) rfl (by omega) (gd DX6_copy_0 33 rfl) ?_
                rw [hS_1]
                rcases (e2 k (by omega)).2 (by omega) with ⟨u1, u2⟩ | ⟨k', j', v', u1, u2, u3⟩
                · rw [u2]
                  refine g_istore (lv' := [(0, _), (1, _), (2, _), (3, _), (4, _)]) C (gd DX6_copy_0 34 rfl) [1, 2, 3, 4, 0] (by decide) rfl ?_
                  refine g_aload_n C (gd DX6_copy_0 35 rfl) 0 rfl rfl ?_
                  refine g_getr (ci := 6) (k := 9) C rfl (by decide) rfl lf_TestJudge_Table_41 ht.1 ht.2.2.2.2.2.2.1.1 (gd DX6_copy_0 36 rfl) ?_
                  refine g_iload_n C (gd DX6_copy_0 37 rfl) 2 rfl rfl ?_
                  refine g_bipush (v := 24) C (gd DX6_copy_0 38 rfl) (by decide) ?_
                  refine g_imul C (gd DX6_copy_0 39 rfl) ?_
                  refine g_iload_n C (gd DX6_copy_0 40 rfl) 3 rfl rfl ?_
                  refine g_iadd C (gd DX6_copy_0 41 rfl) ?_
                  refine g_iload C (gd DX6_copy_0 42 rfl) 4 rfl ?_
                  refine g_bipush (v := 125) C (gd DX6_copy_0 43 rfl) (by decide) ?_
                  refine g_icmp_ge C 80 (gd DX6_copy_0 44 rfl) (by decide) (fun c72 => ?_) (fun c72 => ?_)
                  · exact absurd c72 (by decide)
                  · refine g_iload C (gd DX6_copy_0 45 rfl) 4 rfl ?_
                    refine g_goto (tgt := 81) C (gd DX6_copy_0 46 rfl) (by decide) ?_
                    exact fin _ _ (Or.inl ⟨u1, rfl⟩)
                · have hj' := (List.getElem?_eq_some_iff.mp u2).1
                  rw [u3]
                  refine g_istore (lv' := [(0, _), (1, _), (2, _), (3, _), (4, _)]) C (gd DX6_copy_0 34 rfl) [1, 2, 3, 4, 0] (by decide) rfl ?_
                  refine g_aload_n C (gd DX6_copy_0 35 rfl) 0 rfl rfl ?_
                  refine g_getr (ci := 6) (k := 9) C rfl (by decide) rfl lf_TestJudge_Table_41 ht.1 ht.2.2.2.2.2.2.1.1 (gd DX6_copy_0 36 rfl) ?_
                  refine g_iload_n C (gd DX6_copy_0 37 rfl) 2 rfl rfl ?_
                  refine g_bipush (v := 24) C (gd DX6_copy_0 38 rfl) (by decide) ?_
                  refine g_imul C (gd DX6_copy_0 39 rfl) ?_
                  refine g_iload_n C (gd DX6_copy_0 40 rfl) 3 rfl rfl ?_
                  refine g_iadd C (gd DX6_copy_0 41 rfl) ?_
                  refine g_iload C (gd DX6_copy_0 42 rfl) 4 rfl ?_
                  refine g_bipush (v := 125) C (gd DX6_copy_0 43 rfl) (by decide) ?_
                  refine g_icmp_ge C 80 (gd DX6_copy_0 44 rfl) (by decide) (fun c72 => ?_) (fun c72 => ?_)
                  · exact absurd c72 (nI_ge (a := j') (b := 125) (by omega) (by omega))
                  · refine g_iload C (gd DX6_copy_0 45 rfl) 4 rfl ?_
                    refine g_goto (tgt := 81) C (gd DX6_copy_0 46 rfl) (by decide) ?_
                    exact fin _ _ (Or.inr ⟨k', j', v', u1, u2, rfl⟩)
          exact inner 24 0 _ rfl (fun j hj => by omega) (fun j hj => by rw [rset_ne (by omega)]) (fun a ha => rfl)
  refine g_aload_n C (gd DX6_copy_0 0 rfl) 0 rfl rfl ?_
  refine g_iconst (v := 0) C (gd DX6_copy_0 1 rfl) (by decide) ?_
  refine g_puti (ci := 6) (k := 7) C rfl (by decide) rfl lf_TestJudge_Table_35 ht.1 (Or.inl rfl) rfl (gd DX6_copy_0 2 rfl) ?_
  rw [hS_tR0 hd]
  refine g_iconst (v := 0) C (gd DX6_copy_0 3 rfl) (by decide) ?_
  refine g_istore_n (lv' := [(0, _), (1, _), (2, _)]) C (gd DX6_copy_0 4 rfl) [1, 2, 0] rfl (by decide) rfl ?_
  refine loop 125 0 F BH NU SI CA _ rfl (by omega) fl q (fun i p hp hi => by omega) (by rw [rset_eq, upd, if_pos rfl]; rfl) (fun k hk => by rw [rset_eq, upd, if_neg hk]) (fun a a0 _ _ => rset_ne a0)
end C15
