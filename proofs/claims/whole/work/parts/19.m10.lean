/-! All states of two records side by side: the list of keys as it grows, letter by letter -/
def BEG : Int64 := 1099511627776
/-- step e: state e / 24 goes on by letter e % 24 -/
def bstep (sc : Int64 → Nat → Option Int64) (L : List (Int64 × Nat)) (e : Nat) : List (Int64 × Nat) :=
  match L[e / 24]? with
  | none => L
  | some q => match sc q.1 (e % 24) with
    | none => L
    | some k => if k ∈ L.map (·.1) then L else L ++ [(k, e)]
def bfs (sc : Int64 → Nat → Option Int64) : Nat → List (Int64 × Nat)
  | 0 => [(BEG, 0)]
  | e + 1 => bstep sc (bfs sc e) e
theorem bstep_none {sc : Int64 → Nat → Option Int64} {L : List (Int64 × Nat)} {e : Nat} {q : Int64 × Nat} (h1 : L[e / 24]? = some q) (h2 : sc q.1 (e % 24) = none) : bstep sc L e = L := by simp only [bstep, h1, h2]
theorem bstep_old {sc : Int64 → Nat → Option Int64} {L : List (Int64 × Nat)} {e : Nat} {q : Int64 × Nat} {k : Int64} (h1 : L[e / 24]? = some q) (h2 : sc q.1 (e % 24) = some k) (h3 : k ∈ L.map (·.1)) : bstep sc L e = L := by simp only [bstep, h1, h2, if_pos h3]
theorem bstep_new {sc : Int64 → Nat → Option Int64} {L : List (Int64 × Nat)} {e : Nat} {q : Int64 × Nat} {k : Int64} (h1 : L[e / 24]? = some q) (h2 : sc q.1 (e % 24) = some k) (h3 : ¬ k ∈ L.map (·.1)) : bstep sc L e = L ++ [(k, e)] := by simp only [bstep, h1, h2, if_neg h3]
theorem bfs_grow (sc : Int64 → Nat → Option Int64) (e : Nat) : bfs sc (e + 1) = bfs sc e ∨ ∃ k, bfs sc (e + 1) = bfs sc e ++ [(k, e)] ∧ e / 24 < (bfs sc e).length := by
  show bstep sc (bfs sc e) e = _ ∨ _
  cases h1 : (bfs sc e)[e / 24]? with
  | none => left; simp only [bstep, h1]
  | some q =>
    cases h2 : sc q.1 (e % 24) with
    | none => exact Or.inl (bstep_none h1 h2)
    | some k =>
      rcases Classical.em (k ∈ (bfs sc e).map (·.1)) with h3 | h3
      · exact Or.inl (bstep_old h1 h2 h3)
      · exact Or.inr ⟨k, bstep_new h1 h2 h3, (List.getElem?_eq_some_iff.mp h1).1⟩
theorem bfs_stay {sc : Int64 → Nat → Option Int64} {e j : Nat} {q : Int64 × Nat} (h : (bfs sc e)[j]? = some q) (d : Nat) : (bfs sc (e + d))[j]? = some q := by
  induction d with
  | zero => exact h
  | succ d ih =>
    rw [show e + (d + 1) = (e + d) + 1 by omega]
    have hl : j < (bfs sc (e + d)).length := (List.getElem?_eq_some_iff.mp ih).1
    rcases bfs_grow sc (e + d) with q1 | ⟨k, q1, -⟩
    · rw [q1]; exact ih
    · rw [q1, List.getElem?_append_left hl]; exact ih
theorem bfs_len (sc : Int64 → Nat → Option Int64) (e d : Nat) : (bfs sc e).length ≤ (bfs sc (e + d)).length := by
  induction d with
  | zero => exact Nat.le_refl _
  | succ d ih =>
    rw [show e + (d + 1) = (e + d) + 1 by omega]
    rcases bfs_grow sc (e + d) with q1 | ⟨k, q1, -⟩
    · rw [q1]; exact ih
    · rw [q1, List.length_append]; omega
/-- same shapes -/
def Fr3 (h h1 : HS) : Prop := hR h1 = hR h ∧ hK h1 = hK h ∧ hN h1 = hN h ∧ hT h1 = hT h
theorem Fr3.rf (h : HS) : Fr3 h h := ⟨rfl, rfl, rfl, rfl⟩
theorem Fr3.tr {h h1 h2 : HS} (a : Fr3 h h1) (b : Fr3 h1 h2) : Fr3 h h2 := ⟨b.1.trans a.1, b.2.1.trans a.2.1, b.2.2.1.trans a.2.2.1, b.2.2.2.trans a.2.2.2⟩
theorem mSh.fr {m : Nat} {h h1 : HS} (hm : mSh m h) (f : Fr3 h h1) : mSh m h1 := by
  obtain ⟨f1, f2, f3, -⟩ := f
  unfold mSh
  rw [f1, f2, f3]
  exact hm
/-- the reference's rows hold the list L: keys, table, where each came from, how deep -/
def mLS (m : Nat) (h : HS) (L : List (Int64 × Nat)) : Prop :=
  HT (hI h (m + 6)) (hL h (m + 5)) L.length ∧ hI h m 42 = nI L.length ∧ ∀ j q, L[j]? = some q → hL h (m + 5) j = q.1 ∧ hI h (m + 10) j = (if j = 0 then -1 else nI (q.2 / 24)) ∧ hI h (m + 11) j = nI (q.2 % 24) ∧ (j = 0 → hI h (m + 12) j = 0) ∧ (0 < j → q.2 / 24 < j ∧ hI h (m + 12) j = hI h (m + 12) (q.2 / 24) + 1)
/-- what the row goOn holds at e -/
def GOat (sc : Int64 → Nat → Option Int64) (m : Nat) (h : HS) (L : List (Int64 × Nat)) (e : Nat) : Prop := ∃ q, L[e / 24]? = some q ∧ ((sc q.1 (e % 24) = none ∧ hI h (m + 7) e = -1) ∨ ∃ k j v, sc q.1 (e % 24) = some k ∧ L[j]? = some (k, v) ∧ hI h (m + 7) e = nI j)
/-- the list with one more, held too -/
theorem mLS.new {m : Nat} {h : HS} {L : List (Int64 × Nat)} (hL0 : mLS m h L) {k : Int64} {e i : Nat} (he : e / 24 < L.length) (hl : 0 < L.length) (hl2 : L.length < 16500) (hHT : HT (upd (hI h (m + 6)) i (nI (L.length + 1))) (vp_updL (hL h (m + 5)) L.length k) (L.length + 1)) :
    mLS m (newS h m L.length i k (nI (e / 24)) (nI (e % 24)) (hI h (m + 12) (e / 24) + 1)) (L ++ [(k, e)]) := by
  obtain ⟨h1, h2, h3⟩ := hL0
  have r6 : hI (newS h m L.length i k (nI (e / 24)) (nI (e % 24)) (hI h (m + 12) (e / 24) + 1)) (m + 6) = upd (hI h (m + 6)) i (nI (L.length + 1)) := by
    funext j
    simp only [newS, hI_sI, hI_sL, upd]
    (repeat' split) <;> first | rfl | (exfalso; omega) | (simp_all; done) | (simp_all; omega)
  have r5 : hL (newS h m L.length i k (nI (e / 24)) (nI (e % 24)) (hI h (m + 12) (e / 24) + 1)) (m + 5) = vp_updL (hL h (m + 5)) L.length k := by
    funext j
    simp only [newS, hL_sI, hL_sL, vp_updL]
    (repeat' split) <;> first | rfl | (exfalso; omega) | (simp_all; done) | (simp_all; omega)
  refine ⟨by rw [r6, r5, List.length_append]; exact hHT, ?_, fun j q hq => ?_⟩
  · rw [List.length_append]
    simp only [newS, hI_sI]
    rw [if_neg (by omega), if_pos (by simp)]
    rfl
  · by_cases hj : j < L.length
    · rw [List.getElem?_append_left hj] at hq
      obtain ⟨g1, g2, g3, g4, g5⟩ := h3 j q hq
      refine ⟨?_, ?_, ?_, fun z => ?_, fun z => ?_⟩
      · rw [r5, vp_updL, if_neg (by omega), g1]
      · simp only [newS, hI_sI, hI_sL]
        rw [if_neg (by omega), if_neg (by omega), if_neg (by omega), if_neg (by omega), if_neg (by omega), g2]
      · simp only [newS, hI_sI, hI_sL]
        rw [if_neg (by omega), if_neg (by omega), if_neg (by omega), if_neg (by omega), if_neg (by omega), g3]
      · simp only [newS, hI_sI, hI_sL]
        rw [if_neg (by omega), if_neg (by omega), if_neg (by omega), if_neg (by omega), if_neg (by omega), g4 z]
      · obtain ⟨g6, g7⟩ := g5 z
        refine ⟨g6, ?_⟩
        simp only [newS, hI_sI, hI_sL]
        rw [if_neg (by omega), if_neg (by omega), if_neg (by omega), if_neg (by omega), if_neg (by omega), if_neg (by omega), if_neg (by omega), if_neg (by omega), if_neg (by omega), if_neg (by omega), g7]
    · have hj2 : j = L.length := by
        have := (List.getElem?_eq_some_iff.mp hq).1
        rw [List.length_append] at this
        simp at this
        omega
      subst hj2
      rw [List.getElem?_append_right (Nat.le_refl _)] at hq
      simp at hq
      subst hq
      refine ⟨?_, ?_, ?_, fun z => absurd z (by omega), fun _ => ⟨he, ?_⟩⟩
      · rw [r5, vp_updL, if_pos rfl]
      · simp only [newS, hI_sI, hI_sL]
        rw [if_neg (by omega), if_neg (by omega), if_neg (by omega), if_neg (by omega), if_pos (by simp), if_neg (by omega)]
      · simp only [newS, hI_sI, hI_sL]
        rw [if_neg (by omega), if_neg (by omega), if_neg (by omega), if_pos (by simp)]
      · simp only [newS, hI_sI, hI_sL]
        rw [if_neg (by omega), if_neg (by omega), if_pos (by simp), if_neg (by omega), if_neg (by omega), if_neg (by omega), if_neg (by omega), if_neg (by omega)]
theorem newS_fr {h : HS} {m n i : Nat} {key : Int64} {fr by0 dp : Int32} : Fr3 h (newS h m n i key fr by0 dp) := ⟨rfl, rfl, rfl, rfl⟩
/-- the pair of records and what is forbidden: tests, acts, the two records, the forbidden one, their weights -/
abbrev kP : Type := Int32 × Int32 × (Nat → Int32) × (Nat → Int32) × (Nat → Int32) × Nat × Nat × Nat
def kMi (key : Int64) : Int32 := (key &&& 65535).toInt32
def kIt (key : Int64) : Int32 := ((key >>> ((16 : Int32).toInt64 &&& 63)) &&& 65535).toInt32
def kBa (key : Int64) : Int32 := if key = BEG then 0 else ((key >>> ((32 : Int32).toInt64 &&& 63)) &&& 255).toInt32
def kbg (key : Int64) : Int32 := b1 (key = BEG)
def kGd (P : kP) (key : Int64) : Int32 := allF P.1 &&& (endF P.2.2.2.2.1 (kBa key) (P.2.2.2.2.1 1) P.2.2.2.2.2.2.2 ^^^ -1)
def kE1 (P : kP) (key : Int64) : Int32 := endF P.2.2.1 (kMi key) (if kbg key = 0 then 0 else P.2.2.1 1) P.2.2.2.2.2.1 &&& kGd P key
def kE2 (P : kP) (key : Int64) : Int32 := endF P.2.2.2.1 (kIt key) (if kbg key = 0 then 0 else P.2.2.2.1 1) P.2.2.2.2.2.2.1 &&& kGd P key
noncomputable def kA (P : kP) (key : Int64) (j : Nat) : Int32 := goF P.2.2.1 P.2.2.2.2.2.1 (kMi key) (nI (j / 3)) (nI (j % 3)) (¬ kbg key = 0) P.2.2.2.2.2.1
noncomputable def kB (P : kP) (key : Int64) (j : Nat) : Int32 := goF P.2.2.2.1 P.2.2.2.2.2.2.1 (kIt key) (nI (j / 3)) (nI (j % 3)) (¬ kbg key = 0) P.2.2.2.2.2.2.1
noncomputable def kF (P : kP) (key : Int64) (j : Nat) : Int32 := goF P.2.2.2.2.1 P.2.2.2.2.2.2.2 (kBa key) (nI (j / 3)) (nI (j % 3)) (¬ (1 : Int32) = 0) P.2.2.2.2.2.2.2
noncomputable def kSc (P : kP) (key : Int64) (j : Nat) : Option Int64 :=
  if atF P.1 ≤ nI (j / 3) then none else if P.2.1 ≤ nI (j % 3) then none else if ¬ (kGd P key >>> (nI (j / 3) &&& 31) &&& 1 = 1) then none
  else if (kA P key j).toInt64 ||| (kB P key j).toInt64 = 0 then none
  else some ((kA P key j).toInt64 ||| (kB P key j).toInt64 <<< ((16 : Int32).toInt64 &&& 63) ||| (kF P key j).toInt64 <<< ((32 : Int32).toInt64 &&& 63))
/-- the reference holds that pair: records r and o -/
def kAt (P : kP) (m : Nat) (h : HS) (r o : Nat) : Prop := hI h m 2 = P.1 ∧ hI h m 3 = P.2.1 ∧ gRec (hI h (m + 1)) r = P.2.2.1 ∧ gRec (hI h (m + 1)) o = P.2.2.2.1 ∧ gRec (hI h (m + 1)) 90 = P.2.2.2.2.1 ∧ (P.2.2.1 0 = nI P.2.2.2.2.2.1 ∧ P.2.2.2.1 0 = nI P.2.2.2.2.2.2.1 ∧ P.2.2.2.2.1 0 = nI P.2.2.2.2.2.2.2) ∧ (P.2.2.2.2.2.1 ≤ 16 ∧ P.2.2.2.2.2.2.1 ≤ 16 ∧ P.2.2.2.2.2.2.2 ≤ 16) ∧ r < 102 ∧ o < 102
theorem kAt.fr {P : kP} {m r o : Nat} {h h1 : HS} (k : kAt P m h r o) (e1 : hI h1 m 2 = hI h m 2) (e2 : hI h1 m 3 = hI h m 3) (e3 : hI h1 (m + 1) = hI h (m + 1)) : kAt P m h1 r o := by
  unfold kAt
  rw [e1, e2, e3]
  exact k
