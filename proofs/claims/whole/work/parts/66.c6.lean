/-! Search: look, goOnBy, goOn -/
/-- the search's runners have taken the three of P -/
def sRd (P : kP) (s : Nat) (h : HS) : Prop := kSm P ∧ tkP P.2.2.1 P.2.2.2.2.2.1 (hI h (s + 3)) (hI h (s + 4)) (hI h (s + 5)) ∧ tkP P.2.2.2.1 P.2.2.2.2.2.2.1 (hI h (s + 7)) (hI h (s + 8)) (hI h (s + 9)) ∧ tkP P.2.2.2.2.1 P.2.2.2.2.2.2.2 (hI h (s + 11)) (hI h (s + 12)) (hI h (s + 13))
def sFl (P : kP) (nt na : Nat) (F : Nat → Int32) : Prop := nt ≤ 3 ∧ na ≤ 3 ∧ P.1 = nI nt ∧ P.2.1 = nI na ∧ F 7 = nI na ∧ F 8 = nI (2 ^ nt)
noncomputable def kS1 (key : Int64) : Int32 := if key = BEG then 64 else nI (kCode key % 64)
noncomputable def kS2 (key : Int64) : Int32 := if key = BEG then 64 else nI (kCode key / 64 % 64)
noncomputable def kS3 (key : Int64) : Int32 := if key = BEG then 64 else nI (kCode key / 4096 + 64)
theorem kW.sets {P : kP} (hs : kSm P) {key : Int64} (hk : kW P key) : ∃ a b f c, a < 2 ^ P.2.2.2.2.2.1 ∧ b < 2 ^ P.2.2.2.2.2.2.1 ∧ f < 2 ^ P.2.2.2.2.2.2.2 ∧ c ≤ 1 ∧ kS1 key = nI (a + 64 * c) ∧ kS2 key = nI (b + 64 * c) ∧ kS3 key = nI (f + 64 * 1) ∧ kMi key = nI a ∧ kIt key = nI b ∧ kBa key = nI f ∧ (¬ kbg key = 0 ↔ c = 1) := by
  rcases hk with rfl | ⟨a, b, f, ha, hb, hf, rfl⟩
  · obtain ⟨h1, h2, h3, h4⟩ := kBeg
    refine ⟨0, 0, 0, 1, Nat.two_pow_pos _, Nat.two_pow_pos _, Nat.two_pow_pos _, by omega, ?_, ?_, ?_, h1, h2, h3, ?_⟩
    · rw [kS1, if_pos rfl]; rfl
    · rw [kS2, if_pos rfl]; rfl
    · rw [kS3, if_pos rfl]; rfl
    · rw [h4]; exact ⟨fun _ => rfl, fun _ => by decide⟩
  · obtain ⟨a1, b1, f1⟩ := kK_n hs ha hb hf
    obtain ⟨h1, h2, h3, h4⟩ := kParts a1 b1 f1
    have hne := kKey_ne a1 b1 f1
    have hc := kCode_key a1 b1 f1
    refine ⟨a, b, f, 0, ha, hb, hf, by omega, ?_, ?_, ?_, h1, h2, h3, ?_⟩
    · rw [kS1, if_neg hne, hc]; congr 1; omega
    · rw [kS2, if_neg hne, hc]; congr 1; omega
    · rw [kS3, if_neg hne, hc]; congr 1; omega
    · rw [h4]; exact ⟨fun x => absurd rfl x, fun x => by omega⟩
noncomputable def lkS (P : kP) (key : Int64) (F : Nat → Int32) : Nat → Int32 := upd (upd (upd (upd (upd (upd F 9 (kS1 key)) 10 (kS2 key)) 11 (kS3 key)) 12 (kGd P key)) 1 (kE1 P key)) 3 (kE2 P key)
theorem look_sets {P : kP} (hs : kSm P) {key : Int64} (hk : kW P key) : (key = BEG ∧ kCode key = 16384) ∨ (¬ key = BEG ∧ kCode key < 16384 ∧ nI (kCode key) &&& 63 = kS1 key ∧ nI (kCode key) >>> ((6 : Int32) &&& 31) &&& 63 = kS2 key ∧ 64 ||| nI (kCode key) >>> ((12 : Int32) &&& 31) &&& 3 = kS3 key) := by
  rcases hk with rfl | ⟨a, b, f, ha, hb, hf, rfl⟩
  · exact Or.inl ⟨rfl, kCode_beg⟩
  · obtain ⟨a1, b1, f1⟩ := kK_n hs ha hb hf
    have hne := kKey_ne a1 b1 f1
    have hc := kCode_key a1 b1 f1
    obtain ⟨h1, h2, h3⟩ := code_parts a a1 b b1 f f1
    refine Or.inr ⟨hne, by rw [hc]; omega, ?_, ?_, ?_⟩
    · rw [kS1, if_neg hne, hc, h1]; congr 1; omega
    · rw [kS2, if_neg hne, hc, h2]; congr 1; omega
    · rw [kS3, if_neg hne, hc, h3]; congr 1; omega
theorem look_gd {P : kP} {s : Nat} {h : HS} (rd : sRd P s h) {nt : Nat} (h3 : nt ≤ 3) (hP1 : P.1 = nI nt) {key : Int64} (hk : kW P key) : (1 : Int32) <<< (nI (2 ^ nt) &&& 31) - 1 &&& (reF (hI h (s + 12)) (kS3 key) 7 ^^^ -1) = kGd P key := by
  obtain ⟨a, b, f, c, ha, hb, hf, hc, e1, e2, e3, m1, m2, m3, hbg⟩ := hk.sets rd.1
  have hw := rd.1.2.2
  rw [e3, tk_ends rd.2.2.2 (by omega) hf (by omega), if_pos rfl, kGd, m3, allF, hP1, atF_n h3]
theorem look_e1 {P : kP} {s : Nat} {h : HS} (rd : sRd P s h) {key : Int64} (hk : kW P key) : reF (hI h (s + 4)) (kS1 key) 7 &&& kGd P key = kE1 P key := by
  obtain ⟨a, b, f, c, ha, hb, hf, hc, e1, e2, e3, m1, m2, m3, hbg⟩ := hk.sets rd.1
  rw [e1, tk_ends rd.2.1 rd.1.1 ha hc, kE1, m1]
  congr 2
  by_cases x : c = 1
  · rw [if_pos x, if_neg (hbg.mpr x)]
  · rw [if_neg x, if_pos (Classical.not_not.mp fun y => x (hbg.mp y))]
theorem look_e2 {P : kP} {s : Nat} {h : HS} (rd : sRd P s h) {key : Int64} (hk : kW P key) : reF (hI h (s + 8)) (kS2 key) 7 &&& kGd P key = kE2 P key := by
  obtain ⟨a, b, f, c, ha, hb, hf, hc, e1, e2, e3, m1, m2, m3, hbg⟩ := hk.sets rd.1
  rw [e2, tk_ends rd.2.2.1 rd.1.2.1 hb hc, kE2, m2]
  congr 2
  by_cases x : c = 1
  · rw [if_pos x, if_neg (hbg.mpr x)]
  · rw [if_neg x, if_pos (Classical.not_not.mp fun y => x (hbg.mp y))]
/-- letters that a pair goes on by; b = 1: only those that both have -/
noncomputable def kSs (P : kP) (key : Int64) (j : Nat) : Option Int64 := if kA P key j = 0 ∨ kB P key j = 0 then none else kSc P key j
noncomputable def kSg (P : kP) (b : Int32) (key : Int64) (j : Nat) : Option Int64 := if b = 0 then kSc P key j else kSs P key j
theorem or_z : ∀ a, a < 64 → ∀ b, b < 64 → ((nI a).toInt64 ||| (nI b).toInt64 = 0 ↔ nI a ||| nI b = 0) := by decide +kernel
theorem go_A {P : kP} {s : Nat} {h : HS} (rd : sRd P s h) {key : Int64} (hk : kW P key) {k c : Nat} (hk8 : k < 8) (hc : c < 3) : rgF (hI h (s + 3)) (kS1 key) k 7 &&& hI h (s + 5) c &&& 63 = kA P key (3 * k + c) := by
  obtain ⟨a, b, f, cc, ha, hb, hf, hcc, e1, e2, e3, m1, m2, m3, hbg⟩ := hk.sets rd.1
  rw [e1, tk_go rd.2.1 rd.1.1 ha hcc hk8 hc (fun j hj => m63 j (by have := rd.1.1; omega)) _ hbg, kA, m1, show (3 * k + c) / 3 = k by omega, show (3 * k + c) % 3 = c by omega]
theorem go_B {P : kP} {s : Nat} {h : HS} (rd : sRd P s h) {key : Int64} (hk : kW P key) {k c : Nat} (hk8 : k < 8) (hc : c < 3) : rgF (hI h (s + 7)) (kS2 key) k 7 &&& hI h (s + 9) c &&& 63 = kB P key (3 * k + c) := by
  obtain ⟨a, b, f, cc, ha, hb, hf, hcc, e1, e2, e3, m1, m2, m3, hbg⟩ := hk.sets rd.1
  rw [e2, tk_go rd.2.2.1 rd.1.2.1 hb hcc hk8 hc (fun j hj => m63 j (by have := rd.1.2.1; omega)) _ hbg, kB, m2, show (3 * k + c) / 3 = k by omega, show (3 * k + c) % 3 = c by omega]
theorem go_F {P : kP} {s : Nat} {h : HS} (rd : sRd P s h) {key : Int64} (hk : kW P key) {k c : Nat} (hk8 : k < 8) (hc : c < 3) : rgF (hI h (s + 11)) (kS3 key) k 7 &&& hI h (s + 13) c &&& 3 = kF P key (3 * k + c) := by
  obtain ⟨a, b, f, cc, ha, hb, hf, hcc, e1, e2, e3, g1, g2, g3, hbg⟩ := hk.sets rd.1
  have hw := rd.1.2.2
  rw [e3, tk_go rd.2.2.2 (by omega) hf (by omega) hk8 hc (fun j hj => m3 j (by omega)) (¬ (1 : Int32) = 0) ⟨fun _ => rfl, fun _ => by decide⟩, kF, g3, show (3 * k + c) / 3 = k by omega, show (3 * k + c) % 3 = c by omega]
/-- the letter 3 k + c, where the atom k is free: whether the pair goes on, and where to -/
theorem kSg_at {P : kP} (hs : kSm P) {nt na : Nat} (hnt : nt ≤ 3) (hna : na ≤ 3) (h1 : P.1 = nI nt) (h2 : P.2.1 = nI na) {key : Int64} {k c : Nat} (hk : k < 2 ^ nt) (hc : c < na) (hf : hasB (kGd P key) (nI k)) (b : Int32) :
    ((if b = 0 then ¬ (kA P key (3 * k + c) ||| kB P key (3 * k + c) = 0) else (¬ kA P key (3 * k + c) = 0 ∧ ¬ kB P key (3 * k + c) = 0)) ∧ ∃ k', kW P k' ∧ kSg P b key (3 * k + c) = some k' ∧ kA P key (3 * k + c) ||| kB P key (3 * k + c) <<< ((6 : Int32) &&& 31) ||| kF P key (3 * k + c) <<< ((12 : Int32) &&& 31) = nI (kCode k')) ∨ (¬ (if b = 0 then ¬ (kA P key (3 * k + c) ||| kB P key (3 * k + c) = 0) else (¬ kA P key (3 * k + c) = 0 ∧ ¬ kB P key (3 * k + c) = 0)) ∧ kSg P b key (3 * k + c) = none) := by
  have h8 : 2 ^ nt ≤ 2 ^ 3 := Nat.pow_le_pow_right (by omega) hnt
  obtain ⟨x, hx, ex⟩ := goF_n P.2.2.1 P.2.2.2.2.2.1 (kMi key) (nI ((3 * k + c) / 3)) (nI ((3 * k + c) % 3)) (¬ kbg key = 0) P.2.2.2.2.2.1 hs.1
  obtain ⟨y, hy, ey⟩ := goF_n P.2.2.2.1 P.2.2.2.2.2.2.1 (kIt key) (nI ((3 * k + c) / 3)) (nI ((3 * k + c) % 3)) (¬ kbg key = 0) P.2.2.2.2.2.2.1 hs.2.1
  obtain ⟨f, hf1, ef⟩ := goF_n P.2.2.2.2.1 P.2.2.2.2.2.2.2 (kBa key) (nI ((3 * k + c) / 3)) (nI ((3 * k + c) % 3)) (¬ (1 : Int32) = 0) P.2.2.2.2.2.2.2 (by have := hs.2.2; omega)
  have eA : kA P key (3 * k + c) = nI x := ex
  have eB : kB P key (3 * k + c) = nI y := ey
  have eF : kF P key (3 * k + c) = nI f := ef
  obtain ⟨x6, y6, f4⟩ := kK_n hs hx hy hf1
  have g1 : ¬ atF P.1 ≤ nI ((3 * k + c) / 3) := by
    rw [h1, atF_n hnt, show (3 * k + c) / 3 = k by omega]
    exact nI_ge hk (by omega)
  have g2 : ¬ P.2.1 ≤ nI ((3 * k + c) % 3) := by
    rw [h2, show (3 * k + c) % 3 = c by omega]
    exact nI_ge hc (by omega)
  have g3 : kGd P key >>> (nI ((3 * k + c) / 3) &&& 31) &&& 1 = 1 := by
    rw [show (3 * k + c) / 3 = k by omega]
    exact hf
  have hz := or_z x x6 y y6
  have sc : kSc P key (3 * k + c) = if nI x ||| nI y = 0 then none else some (kKey x y f) := by
    unfold kSc
    rw [if_neg g1, if_neg g2, if_neg (fun z => z g3), eA, eB, eF]
    by_cases e : nI x ||| nI y = 0
    · rw [if_pos (hz.mpr e), if_pos e]
    · rw [if_neg (fun z => e (hz.mp z)), if_neg e, kKey, ← key_lN x x6 y y6 f f4]
  rw [eA, eB, eF, code_or x x6 y y6 f f4]
  have hkw : kW P (kKey x y f) := Or.inr ⟨x, y, f, hx, hy, hf1, rfl⟩
  have hcd := kCode_key x6 y6 f4
  unfold kSg kSs
  rw [sc, eA, eB]
  by_cases hb : b = 0
  · simp only [if_pos hb]
    by_cases e : nI x ||| nI y = 0
    · exact Or.inr ⟨fun z => z e, if_pos e⟩
    · exact Or.inl ⟨e, kKey x y f, hkw, if_neg e, by rw [hcd]⟩
  · simp only [if_neg hb]
    by_cases e1 : nI x = 0
    · exact Or.inr ⟨fun z => z.1 e1, if_pos (Or.inl e1)⟩
    · by_cases e2 : nI y = 0
      · exact Or.inr ⟨fun z => z.2 e2, if_pos (Or.inr e2)⟩
      · refine Or.inl ⟨⟨e1, e2⟩, kKey x y f, hkw, ?_, by rw [hcd]⟩
        rw [if_neg (fun z => by rcases z with z | z; exact e1 z; exact e2 z), if_neg]
        intro e
        refine e1 (hasB_ext fun j hj => ⟨fun q => ?_, fun q => absurd q (hasB_0 hj)⟩)
        rw [← e]
        exact (hasB_or hj).mpr (Or.inl q)
theorem kSg_no {P : kP} {nt na : Nat} (hnt : nt ≤ 3) (hna : na ≤ 3) (h1 : P.1 = nI nt) (h2 : P.2.1 = nI na) {key : Int64} {t : Nat} (ht : t < 24) (h : 2 ^ nt ≤ t / 3 ∨ na ≤ t % 3 ∨ ¬ hasB (kGd P key) (nI (t / 3))) (b : Int32) : kSg P b key t = none := by
  have h8 : 2 ^ nt ≤ 2 ^ 3 := Nat.pow_le_pow_right (by omega) hnt
  have sc : kSc P key t = none := by
    unfold kSc
    rw [h1, h2, atF_n hnt]
    by_cases g1 : nI (2 ^ nt) ≤ nI (t / 3)
    · rw [if_pos g1]
    · rw [if_neg g1]
      by_cases g2 : nI na ≤ nI (t % 3)
      · rw [if_pos g2]
      · rw [if_neg g2, if_pos]
        rcases h with h | h | h
        · exact absurd (nI_le h (by omega)) g1
        · exact absurd (nI_le h (by omega)) g2
        · exact h
  unfold kSg kSs
  rw [sc]
  split
  · rfl
  · split <;> rfl
/-- the list as state i, whose key is key, goes on by its first k letters -/
noncomputable def gst (sc : Int64 → Nat → Option Int64) (key : Int64) (i : Nat) (L : List (Int64 × Nat)) : Nat → List (Int64 × Nat)
  | 0 => L
  | k + 1 => match sc key k with
    | none => gst sc key i L k
    | some k' => addK (gst sc key i L k) k' (24 * i + k)
theorem gst_n {sc : Int64 → Nat → Option Int64} {key : Int64} {i k : Nat} {L : List (Int64 × Nat)} (h : sc key k = none) : gst sc key i L (k + 1) = gst sc key i L k := by simp only [gst, h]
theorem gst_s {sc : Int64 → Nat → Option Int64} {key k' : Int64} {i k : Nat} {L : List (Int64 × Nat)} (h : sc key k = some k') : gst sc key i L (k + 1) = addK (gst sc key i L k) k' (24 * i + k) := by simp only [gst, h]
theorem addK_stay {L : List (Int64 × Nat)} {k : Int64} {e j : Nat} {q : Int64 × Nat} (h : L[j]? = some q) : (addK L k e)[j]? = some q := by
  unfold addK
  split
  · exact h
  · rw [List.getElem?_append_left (List.getElem?_eq_some_iff.mp h).1]; exact h
theorem gst_ok {P : kP} {sc : Int64 → Nat → Option Int64} {key : Int64} {i : Nat} {L : List (Int64 × Nat)} (ok : kOk P L) (hsc : ∀ t k', t < 24 → sc key t = some k' → kW P k') : ∀ k, k ≤ 24 → kOk P (gst sc key i L k) := by
  intro k
  induction k with
  | zero => intro _; exact ok
  | succ k ih =>
    intro hk
    cases e : sc key k with
    | none => rw [gst_n e]; exact ih (by omega)
    | some k' => rw [gst_s e]; exact (ih (by omega)).add (hsc k k' (by omega) e) _
/-- the row behind, filled as far as letter k -/
def bhI (sc : Int64 → Nat → Option Int64) (key : Int64) (L : List (Int64 × Nat)) (BH : Nat → Int32) (k : Nat) : Prop := ∀ t, t < 24 → (k ≤ t → BH t = -1) ∧ (t < k → (sc key t = none ∧ BH t = -1) ∨ ∃ (k' : Int64) (j v : Nat), sc key t = some k' ∧ L[j]? = some (k', v) ∧ BH t = nI j)
theorem bhI.n {sc : Int64 → Nat → Option Int64} {key : Int64} {L : List (Int64 × Nat)} {BH : Nat → Int32} {k : Nat} (b : bhI sc key L BH k) (h : sc key k = none) : bhI sc key L BH (k + 1) := by
  intro t ht
  refine ⟨fun x => (b t ht).1 (by omega), fun x => ?_⟩
  by_cases e : t = k
  · subst e; exact Or.inl ⟨h, (b t ht).1 (by omega)⟩
  · exact (b t ht).2 (by omega)
theorem bhI.s {sc : Int64 → Nat → Option Int64} {key k' : Int64} {L : List (Int64 × Nat)} {BH : Nat → Int32} {k e j v : Nat} (b : bhI sc key L BH k) (hk : k < 24) (h : sc key k = some k') (hj : (addK L k' e)[j]? = some (k', v)) : bhI sc key (addK L k' e) (upd BH k (nI j)) (k + 1) := by
  intro t ht
  unfold upd
  refine ⟨fun x => by rw [if_neg (by omega)]; exact (b t ht).1 (by omega), fun x => ?_⟩
  by_cases e1 : t = k
  · subst e1
    rw [if_pos rfl]
    exact Or.inr ⟨k', j, v, h, hj, rfl⟩
  · rw [if_neg e1]
    rcases (b t ht).2 (by omega) with y | ⟨k2, j2, v2, y1, y2, y3⟩
    · exact Or.inl y
    · exact Or.inr ⟨k2, j2, v2, y1, addK_stay y2, y3⟩
