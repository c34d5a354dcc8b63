/-! counting strings: sums of ways, weighed -/
def smL (f : Nat → Int64) : Nat → Int64
  | 0 => 0
  | n + 1 => smL f n + f n
theorem smL_cg {f g : Nat → Int64} : ∀ n, (∀ i, i < n → f i = g i) → smL f n = smL g n
  | 0, _ => rfl
  | n + 1, h => by rw [smL, smL, smL_cg n (fun i hi => h i (by omega)), h n (by omega)]
theorem smL_0 : ∀ n, smL (fun _ => 0) n = 0
  | 0 => rfl
  | n + 1 => by rw [smL, smL_0 n]; rfl
theorem smL_z {f : Nat → Int64} {a : Nat} : ∀ d, (∀ i, a ≤ i → i < a + d → f i = 0) → smL f (a + d) = smL f a
  | 0, _ => rfl
  | d + 1, h => by rw [show a + (d + 1) = a + d + 1 by omega, smL, smL_z d (fun i h1 h2 => h i h1 (by omega)), h (a + d) (by omega) (by omega), Int64.add_zero]
theorem smL_upd {f : Nat → Int64} {j : Nat} {x c : Int64} (C : Nat → Int64) (hc : C j = c) : ∀ n, smL (fun i => vp_updL f j (f j + x) i * C i) n = smL (fun i => f i * C i) n + (if j < n then x * c else 0)
  | 0 => by simp [smL]
  | n + 1 => by
    rw [smL, smL, smL_upd C hc n]
    by_cases e : n = j
    · subst e
      rw [if_neg (by omega), if_pos (by omega), vp_updL, if_pos rfl, Int64.add_mul, hc, Int64.add_zero, Int64.add_assoc]
    · rw [vp_updL, if_neg e]
      by_cases e2 : j < n
      · rw [if_pos e2, if_pos (by omega), Int64.add_assoc, Int64.add_assoc, Int64.add_comm (x * c)]
      · rw [if_neg e2, if_neg (by omega), Int64.add_zero, Int64.add_zero]
/-- the key of state j -/
def kyL (L : List (Int64 × Nat)) (j : Nat) : Int64 := ((L[j]?).getD (0, 0)).1
theorem kyL_at {L : List (Int64 × Nat)} {j v : Nat} {k : Int64} (h : L[j]? = some (k, v)) : kyL L j = k := by rw [kyL, h]; rfl
/-- what a weighing c becomes one letter earlier -/
noncomputable def gW (sc : Int64 → Nat → Option Int64) (c : Int64 → Int64) (key : Int64) : Int64 := smL (fun t => match sc key t with | none => 0 | some k' => c k') 24
noncomputable def gWn (sc : Int64 → Nat → Option Int64) (c : Int64 → Int64) : Nat → Int64 → Int64
  | 0 => c
  | n + 1 => gW sc (gWn sc c n)
def wlL (A : Nat → Int64) (c : Int64 → Int64) (L : List (Int64 × Nat)) : Int64 := smL (fun j => A j * c (kyL L j)) L.length
/-- two longs rows of the search replaced -/
def hWL (s : Nat) (h : HS) (A B : Nat → Int64) : HS := (h.1, fun b j => if b = s + 17 then A j else if b = s + 18 then B j else h.2.1 b j, h.2.2)
theorem hWL_17 {s : Nat} {h : HS} {A B : Nat → Int64} : hL (hWL s h A B) (s + 17) = A := by funext j; show (if s + 17 = s + 17 then A j else _) = _; rw [if_pos rfl]
theorem hWL_18 {s : Nat} {h : HS} {A B : Nat → Int64} : hL (hWL s h A B) (s + 18) = B := by funext j; show (if s + 18 = s + 17 then A j else if s + 18 = s + 18 then B j else _) = _; rw [if_neg (by omega), if_pos rfl]
theorem hS_l17 {s : Nat} {h : HS} {A B : Nat → Int64} {F BH NU SI CA : Nat → Int32} {j : Nat} {x : Int64} : sL (hS s (hWL s h A B) F BH NU SI CA) (s + 17) j x = hS s (hWL s h (vp_updL A j x) B) F BH NU SI CA := by
  unfold hS sF sL hWL vp_updL
  simp only [Prod.mk.injEq, true_and, and_true]
  funext b i
  by_cases e : b = s + 17
  · subst e
    by_cases e2 : i = j
    · simp [e2]
    · simp [e2]
  · simp [e]
theorem hS_l18 {s : Nat} {h : HS} {A B : Nat → Int64} {F BH NU SI CA : Nat → Int32} {j : Nat} {x : Int64} : sL (hS s (hWL s h A B) F BH NU SI CA) (s + 18) j x = hS s (hWL s h A (vp_updL B j x)) F BH NU SI CA := by
  unfold hS sF sL hWL vp_updL
  simp only [Prod.mk.injEq, true_and, and_true]
  funext b i
  by_cases e : b = s + 18
  · subst e
    by_cases e2 : i = j
    · simp [e2]
    · simp [e2]
  · simp [e]
theorem hWL_self {s : Nat} {h : HS} : hWL s h (hL h (s + 17)) (hL h (s + 18)) = h := by
  obtain ⟨a, b, c⟩ := h
  show (a, _, c) = (a, b, c)
  congr 2
  funext x j
  by_cases e : x = s + 17
  · subst e; simp; rfl
  · by_cases e2 : x = s + 18
    · subst e2; simp; rfl
    · simp [e, e2]
/-- keys that both reach: the beginning, or places of both -/
def kWs (P : kP) (key : Int64) : Prop := key = BEG ∨ ∃ a b f, 0 < a ∧ a < 2 ^ P.2.2.2.2.2.1 ∧ 0 < b ∧ b < 2 ^ P.2.2.2.2.2.2.1 ∧ f < 2 ^ P.2.2.2.2.2.2.2 ∧ key = kKey a b f
theorem kSs_W {P : kP} (hs : kSm P) {key k' : Int64} {j : Nat} (h : kSg P 1 key j = some k') : kWs P k' := by
  unfold kSg at h
  rw [if_neg (by decide)] at h
  unfold kSs at h
  split at h
  · cases h
  · rename_i hn
    obtain ⟨a, b, f, ha, hb, hf, eA, eB, eF, rfl⟩ := kSc_W hs h
    refine Or.inr ⟨a, b, f, Nat.pos_of_ne_zero (fun x => hn (Or.inl ?_)), ha, Nat.pos_of_ne_zero (fun x => hn (Or.inr ?_)), hb, hf, rfl⟩
    · rw [eA, x]; rfl
    · rw [eB, x]; rfl
theorem kWs.w {P : kP} {key : Int64} (h : kWs P key) : kW P key := by
  rcases h with h | ⟨a, b, f, -, ha, -, hb, hf, e⟩
  · exact Or.inl h
  · exact Or.inr ⟨a, b, f, ha, hb, hf, e⟩
theorem kWs_len {P : kP} (hs : kSm P) (h5 : P.2.2.2.2.2.1 ≤ 5 ∧ P.2.2.2.2.2.2.1 ≤ 5) {L : List (Int64 × Nat)} (ok : kOk P L) (hL : ∀ (j : Nat) (q : Int64 × Nat), L[j]? = some q → kWs P q.1) : L.length ≤ 3845 := by
  have cd : ∀ key, kWs P key → ∃ x, x < 3845 ∧ (key = BEG ∧ x = 3844 ∨ ∃ a b f, 0 < a ∧ a < 32 ∧ 0 < b ∧ b < 32 ∧ f < 4 ∧ key = kKey a b f ∧ x = (a - 1) + 31 * (b - 1) + 961 * f) := by
    intro key h
    rcases h with h | ⟨a, b, f, a0, ha, b0, hb, hf, e⟩
    · exact ⟨3844, by omega, Or.inl ⟨h, rfl⟩⟩
    · have a5 : a < 32 := Nat.lt_of_lt_of_le ha (Nat.pow_le_pow_right (by omega) h5.1)
      have b5 : b < 32 := Nat.lt_of_lt_of_le hb (Nat.pow_le_pow_right (by omega) h5.2)
      have f4 : f < 4 := Nat.lt_of_lt_of_le hf (Nat.pow_le_pow_right (by omega) hs.2.2)
      exact ⟨(a - 1) + 31 * (b - 1) + 961 * f, by omega, Or.inr ⟨a, b, f, a0, a5, b0, b5, f4, e, rfl⟩⟩
  have hx : ∀ i, ∃ x, i < L.length → (x < 3845 ∧ (kyL L i = BEG ∧ x = 3844 ∨ ∃ a b f, 0 < a ∧ a < 32 ∧ 0 < b ∧ b < 32 ∧ f < 4 ∧ kyL L i = kKey a b f ∧ x = (a - 1) + 31 * (b - 1) + 961 * f)) := by
    intro i
    by_cases e : i < L.length
    · have hg := List.getElem?_eq_getElem e
      obtain ⟨x, h1, h2⟩ := cd _ (hL i _ hg)
      refine ⟨x, fun _ => ⟨h1, ?_⟩⟩
      rw [kyL_at (k := L[i].1) (v := L[i].2) hg]
      exact h2
    · exact ⟨0, fun x => absurd x e⟩
  refine pigeon (fun i => Classical.choose (hx i)) L.length 3845 (fun i hi => (Classical.choose_spec (hx i) hi).1) (fun i j hi hj he => ?_)
  have hi1 := (Classical.choose_spec (hx i) hi).2
  have hj1 := (Classical.choose_spec (hx j) hj).2
  have he1 : Classical.choose (hx i) = Classical.choose (hx j) := he
  rw [he1] at hi1
  generalize Classical.choose (hx j) = x at hi1 hj1
  have ek : kyL L i = kyL L j := by
    rcases hi1 with ⟨p1, p2⟩ | ⟨a, b, f, a0, a5, b0, b5, f4, p1, p2⟩ <;> rcases hj1 with ⟨q1, q2⟩ | ⟨a', b', f', a0', a5', b0', b5', f4', q1, q2⟩
    · rw [p1, q1]
    · omega
    · omega
    · rw [p1, q1, show a = a' by omega, show b = b' by omega, show f = f' by omega]
  have hgi := List.getElem?_eq_getElem hi
  have hgj := List.getElem?_eq_getElem hj
  refine ok.2 i j _ _ hgi hgj ?_
  rw [kyL_at (k := L[i].1) (v := L[i].2) hgi, kyL_at (k := L[j].1) (v := L[j].2) hgj] at ek
  exact ek
theorem and_n (v : Int32) {m : Nat} (hm : m < 2 ^ 31) : ∃ x, x ≤ m ∧ v &&& nI m = nI x := by
  refine ⟨v.toBitVec.toNat &&& m, Nat.and_le_right, hasB_ext fun j hj => ?_⟩
  have h2 : v.toBitVec.toNat &&& m < 2 ^ 31 := Nat.lt_of_le_of_lt Nat.and_le_right hm
  rw [hasB_and hj, hasB_nI hm hj, hasB_nI h2 hj, hasB_iff hj, Nat.testBit_and]
  rw [show v.toBitVec.getLsbD j = v.toBitVec.toNat.testBit j from rfl]
  simp
theorem allF_le : ∀ nt, nt ≤ 3 → ∃ m, m < 256 ∧ allF (nI nt) = nI m := by
  intro nt h
  have : ∀ nt, nt ≤ 3 → allF (nI nt) = nI (2 ^ 2 ^ nt - 1) := by decide
  refine ⟨2 ^ 2 ^ nt - 1, ?_, this nt h⟩
  have h1 : 2 ^ nt ≤ 2 ^ 3 := Nat.pow_le_pow_right (by omega) h
  have h2 : 2 ^ 2 ^ nt ≤ 2 ^ 8 := Nat.pow_le_pow_right (by omega) h1
  omega
theorem kGd_n8 {P : kP} {nt : Nat} (hnt : nt ≤ 3) (h1 : P.1 = nI nt) (v : Int32) (key : Int64) : ∃ x, x < 256 ∧ v &&& kGd P key = nI x := by
  obtain ⟨m, hm, e⟩ := allF_le nt hnt
  unfold kGd
  rw [h1, e, Int32.and_comm (nI m), ← Int32.and_assoc]
  obtain ⟨x, hx, ex⟩ := and_n (v &&& (endF P.2.2.2.2.1 (kBa key) (P.2.2.2.2.1 1) P.2.2.2.2.2.2.2 ^^^ -1)) (m := m) (by omega)
  exact ⟨x, by omega, ex⟩
theorem gst_wf {P : kP} (hs : kSm P) {key : Int64} {i : Nat} {L : List (Int64 × Nat)} (ok : kOk P L) (hL : ∀ (j : Nat) (q : Int64 × Nat), L[j]? = some q → kWs P q.1) : ∀ k, k ≤ 24 → (∀ (j : Nat) (q : Int64 × Nat), (gst (kSg P 1) key i L k)[j]? = some q → kWs P q.1) ∧ ∃ M, gst (kSg P 1) key i L k = L ++ M := by
  intro k
  induction k with
  | zero => intro _; exact ⟨hL, [], by simp [gst]⟩
  | succ k ih =>
    intro hk
    obtain ⟨h1, M, h2⟩ := ih (by omega)
    cases e : kSg P 1 key k with
    | none => rw [gst_n e]; exact ⟨h1, M, h2⟩
    | some k' =>
      rw [gst_s e]
      unfold addK
      split
      · exact ⟨h1, M, h2⟩
      · refine ⟨fun j q hq => ?_, M ++ [(k', 24 * i + k)], by rw [h2, List.append_assoc]⟩
        by_cases x : j < (gst (kSg P 1) key i L k).length
        · rw [List.getElem?_append_left x] at hq; exact h1 j q hq
        · have h3 := (List.getElem?_eq_some_iff.mp hq).1
          rw [List.length_append] at h3
          simp at h3
          have e2 : j = (gst (kSg P 1) key i L k).length := by omega
          subst e2
          rw [List.getElem?_append_right (Nat.le_refl _)] at hq
          simp at hq
          rw [← hq]
          exact kSs_W hs e
