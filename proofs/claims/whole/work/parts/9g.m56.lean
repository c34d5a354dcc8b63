/-! What a text tells, line by line; lines in the reference -/
def updA {α : Type} (f : Nat → α) (k : Nat) (v : α) : Nat → α := fun j => if j = k then v else f j
/-- tests, acts, programs, facts; names; what programs and facts tell -/
abbrev pS : Type := (Nat × Nat × Nat × Nat) × (Nat → Nat) × (Nat → pR) × (Nat → pR)
abbrev pLz : Type := (Nat × Nat) ⊕ (Nat × pS)
def pBl (cd : Nat → Nat) (k j : Nat) : pLz := .inl (if cd j = 1 then 1 else k, j)
abbrev pTk (nt na np : Nat) (W : Nat → Nat) (wv : Nat) : Prop := ¬ (fndN W 0 wv nt = none ∧ fndN W 3 wv na = none ∧ fndN W 6 wv np = none)
def fsP (FR : Nat → pR) : Nat → Nat
  | 0 => 0
  | k + 1 => fsP FR k + (FR k).1
/-- names of tests (b) or acts -/
def pNm (cd wd : Nat → Nat) (b : Bool) : Nat → Nat → pS → Option pLz
  | 0, _, _ => none
  | f + 1, j, S =>
    if cd j = 2 then
      (if pTk S.1.1 S.1.2.1 S.1.2.2.1 S.2.1 (wd j) then some (pBl cd 3 j)
      else if (if b = true then S.1.1 else S.1.2.1) = 3 then some (pBl cd 4 j)
      else pNm cd wd b f (j + 1) (if b = true then ((S.1.1 + 1, S.1.2), updA S.2.1 (0 + S.1.1) (wd j), S.2.2) else ((S.1.1, S.1.2.1 + 1, S.1.2.2), updA S.2.1 (3 + S.1.2.1) (wd j), S.2.2)))
    else if cd j = 59 then some (.inr (j + 1, S)) else some (pBl cd 2 j)
def pAs (r : Option pRz) (k : Nat → pR → Option pLz) : Option pLz :=
  match r with
  | none => none
  | some (.inl x) => some (.inl x)
  | some (.inr (j, a)) => k j a
/-- a line -/
def pLn (tx : Nat → Nat) (n j : Nat) (S : pS) : Option pLz :=
  if cdT tx n j = 12468 then
    (if S.1.2.2.1 = 8 then some (pBl (cdT tx n) 4 j)
    else if cdT tx n (j + 1) ≠ 2 then some (pBl (cdT tx n) 2 (j + 1))
    else if pTk S.1.1 S.1.2.1 S.1.2.2.1 S.2.1 (wdT tx n (j + 1)) then some (pBl (cdT tx n) 3 (j + 1))
    else if cdT tx n (j + 2) ≠ 61 then some (pBl (cdT tx n) 2 (j + 2))
    else pAs (pz (envT tx n S.1.1 S.1.2.1 S.1.2.2.1 S.2.1 S.2.2.1) 5000 4 0 (j + 3) (0, rPlain 0)) (fun j1 a => if cdT tx n j1 ≠ 59 then some (pBl (cdT tx n) 2 j1) else if 5 < a.1 then some (.inl (5, j1)) else some (.inr (j1 + 1, ((S.1.1, S.1.2.1, S.1.2.2.1 + 1, S.1.2.2.2), updA S.2.1 (6 + S.1.2.2.1) (wdT tx n (j + 1)), updA S.2.2.1 S.1.2.2.1 a, S.2.2.2)))))
  else if cdT tx n j = 857679 then
    (if S.1.2.2.2 = 2 then some (pBl (cdT tx n) 4 j)
    else pAs (pz (envT tx n S.1.1 S.1.2.1 S.1.2.2.1 S.2.1 S.2.2.1) 5000 4 0 (j + 1) (0, rPlain 0)) (fun j1 a => if cdT tx n j1 ≠ 59 then some (pBl (cdT tx n) 2 j1) else if 2 < fsP S.2.2.2 S.1.2.2.2 + a.1 then some (.inl (5, j1)) else some (.inr (j1 + 1, ((S.1.1, S.1.2.1, S.1.2.2.1, S.1.2.2.2 + 1), S.2.1, S.2.2.1, updA S.2.2.2 S.1.2.2.2 a)))))
  else if (cdT tx n j = 21155475 ∨ cdT tx n j = 36499) ∧ S.1.2.2.1 = 0 ∧ S.1.2.2.2 = 0 then
    (if cdT tx n (j + 1) ≠ 2 then some (pBl (cdT tx n) 2 (j + 1)) else pNm (cdT tx n) (wdT tx n) (decide (cdT tx n j = 21155475)) 5000 (j + 1) S)
  else some (pBl (cdT tx n) 2 j)
/-- all lines from token j on -/
def pTx (tx : Nat → Nat) (n : Nat) : Nat → Nat → pS → Option pLz
  | 0, _, _ => none
  | f + 1, j, S => if cdT tx n j = 0 then some (.inr (j, S)) else
    match pLn tx n j S with
    | none => none
    | some (.inl x) => some (.inl x)
    | some (.inr (j', S')) => pTx tx n f j' S'
/-- what the lines keep to -/
def pSk (S : pS) : Prop := (S.1.1 ≤ 3 ∧ S.1.2.1 ≤ 3 ∧ S.1.2.2.1 ≤ 8 ∧ S.1.2.2.2 ≤ 2) ∧ (∀ k, S.2.1 k < 2 ^ 30) ∧ (∀ k, k < S.1.2.2.1 → (S.2.2.1 k).1 ≤ 5 ∧ okT (allF (nI S.1.1)) (S.2.2.1 k)) ∧ (∀ k, k < S.1.2.2.2 → okT (allF (nI S.1.1)) (S.2.2.2 k)) ∧ fsP S.2.2.2 S.1.2.2.2 ≤ 2
def pSz : pS := ((0, 0, 0, 0), fun _ => 0, fun _ => (0, rPlain 0), fun _ => (0, rPlain 0))
theorem pSz_k : pSk pSz := ⟨⟨Nat.zero_le _, Nat.zero_le _, Nat.zero_le _, Nat.zero_le _⟩, fun _ => by show 0 < 2 ^ 30; omega, fun k hk => absurd hk (Nat.not_lt_zero _), fun k hk => absurd hk (Nat.not_lt_zero _), Nat.zero_le _⟩
theorem fsP_cg {FR FR' : Nat → pR} : ∀ k, (∀ i, i < k → FR i = FR' i) → fsP FR k = fsP FR' k
  | 0, _ => rfl
  | k + 1, h => by rw [fsP, fsP, fsP_cg k (fun i hi => h i (by omega)), h k (by omega)]
theorem fsP_ge (FR : Nat → pR) : ∀ k i, i < k → (FR i).1 ≤ fsP FR k
  | 0, i, h => absurd h (Nat.not_lt_zero _)
  | k + 1, i, h => by
    rw [fsP]
    by_cases e : i = k
    · subst e; omega
    · have := fsP_ge FR k i (by omega); omega
/-- how a line's result keeps -/
def pLk (c j : Nat) (r : pLz) : Prop :=
  match r with
  | .inl x => j ≤ x.2 ∧ x.2 < c ∧ x.1 ≠ 0
  | .inr x => j < x.1 ∧ x.1 < c ∧ pSk x.2
theorem pBl_k {cd : Nat → Nat} {c j j0 k : Nat} (h0 : j0 ≤ j) (hj : j < c) (hk : k ≠ 0) : pLk c j0 (pBl cd k j) := by
  refine ⟨h0, hj, ?_⟩
  show (if cd j = 1 then 1 else k) ≠ 0
  split
  · omega
  · exact hk
section PL
variable {tx : Nat → Nat} {n c : Nat}
theorem wd_lt (j : Nat) (h : cdT tx n j = 2) : wdT tx n j < 2 ^ 30 := by
  unfold wdT
  unfold cdT at h
  unfold tkG at h ⊢
  by_cases e1 : n ≤ plT tx n j
  · rw [if_pos e1]; show 0 < 2 ^ 30; omega
  · rw [if_neg e1] at h ⊢
    by_cases e2 : isL (tx (plT tx n j))
    · rw [if_pos e2] at h ⊢
      by_cases e3 : 6 < rnE tx (n - plT tx n j) (plT tx n j) - plT tx n j
      · rw [if_pos e3] at h; exact absurd (show (1 : Nat) = 2 from h) (by omega)
      · have hl : ∀ d q i, i < rnE tx d q - q → isL (tx (q + i)) := by
          intro d
          induction d with
          | zero => intro q i hi; rw [rnE] at hi; omega
          | succ d ih =>
            intro q i hi
            rw [rnE] at hi
            by_cases e : isL (tx q)
            · rw [if_pos e] at hi
              by_cases i0 : i = 0
              · rw [i0]; exact e
              · have := ih (q + 1) (i - 1) (by omega)
                rw [show q + 1 + (i - 1) = q + i by omega] at this
                exact this
            · rw [if_neg e] at hi; omega
        have hb := pkW_lt (tx := tx) (q := plT tx n j) (rnE tx (n - plT tx n j) (plT tx n j) - plT tx n j) (fun i hi => hl _ _ i hi)
        have hb2 : 32 ^ (rnE tx (n - plT tx n j) (plT tx n j) - plT tx n j) ≤ 32 ^ 6 := Nat.pow_le_pow_right (by omega) (by omega)
        show pkW tx _ _ < 2 ^ 30
        omega
    · rw [if_neg e2]; show 0 < 2 ^ 30; omega
theorem pNm_k (hc : ∀ j, j < c → cdT tx n j ≠ 0 → j + 1 < c) (b : Bool) : ∀ f j0 j S, j0 < j → j < c → c - j < f → pSk S → S.1.2.2.1 = 0 → S.1.2.2.2 = 0 → ∃ r, pNm (cdT tx n) (wdT tx n) b f j S = some r ∧ pLk c j0 r := by
  intro f
  induction f with
  | zero => intro j0 j S _ _ h; exact absurd h (Nat.not_lt_zero _)
  | succ f ih =>
    intro j0 j S h0 hj hf hS hp hq
    unfold pNm
    by_cases e2 : cdT tx n j = 2
    · rw [if_pos e2]
      have hj1 := hc j hj (by omega)
      by_cases et : pTk S.1.1 S.1.2.1 S.1.2.2.1 S.2.1 (wdT tx n j)
      · rw [if_pos et]; exact ⟨_, rfl, pBl_k (by omega) hj (by omega)⟩
      · rw [if_neg et]
        by_cases e3 : (if b = true then S.1.1 else S.1.2.1) = 3
        · rw [if_pos e3]; exact ⟨_, rfl, pBl_k (by omega) hj (by omega)⟩
        · rw [if_neg e3]
          obtain ⟨⟨s1, s2, s3, s4⟩, s5, s6, s7, s8⟩ := hS
          have hw := wd_lt j e2
          cases b with
          | true =>
            rw [if_pos rfl] at e3
            rw [if_pos rfl]
            refine ih j0 (j + 1) _ (by omega) hj1 (by omega) ⟨⟨by show S.1.1 + 1 ≤ 3; omega, s2, s3, s4⟩, fun k => ?_, fun k hk => absurd (show k < S.1.2.2.1 from hk) (by omega), fun k hk => absurd (show k < S.1.2.2.2 from hk) (by omega), s8⟩ hp hq
            show updA S.2.1 (0 + S.1.1) (wdT tx n j) k < 2 ^ 30
            unfold updA; split
            · exact hw
            · exact s5 k
          | false =>
            rw [if_neg (by decide)] at e3
            rw [if_neg (by decide)]
            refine ih j0 (j + 1) _ (by omega) hj1 (by omega) ⟨⟨s1, by show S.1.2.1 + 1 ≤ 3; omega, s3, s4⟩, fun k => ?_, fun k hk => absurd (show k < S.1.2.2.1 from hk) (by omega), fun k hk => absurd (show k < S.1.2.2.2 from hk) (by omega), s8⟩ hp hq
            show updA S.2.1 (3 + S.1.2.1) (wdT tx n j) k < 2 ^ 30
            unfold updA; split
            · exact hw
            · exact s5 k
    · rw [if_neg e2]
      by_cases e59 : cdT tx n j = 59
      · rw [if_pos e59]
        exact ⟨_, rfl, by show j0 < j + 1; omega, hc j hj (by omega), hS⟩
      · rw [if_neg e59]; exact ⟨_, rfl, pBl_k (by omega) hj (by omega)⟩
theorem pLn_k (hc : ∀ j, j < c → cdT tx n j ≠ 0 → j + 1 < c) (hc5 : c ≤ 501) {j : Nat} {S : pS} (hj : j < c) (hS : pSk S) : ∃ r, pLn tx n j S = some r ∧ pLk c j r := by
  obtain ⟨⟨s1, s2, s3, s4⟩, s5, s6, s7, s8⟩ := id hS
  have hnm := nm_ok (na := S.1.2.1) (W := S.2.1) s1 s2 s6
  unfold pLn
  by_cases el : cdT tx n j = 12468
  · rw [if_pos el]
    have hj1 := hc j hj (by omega)
    by_cases e8 : S.1.2.2.1 = 8
    · rw [if_pos e8]; exact ⟨_, rfl, pBl_k (by omega) hj (by omega)⟩
    rw [if_neg e8]
    by_cases e2 : cdT tx n (j + 1) = 2
    · rw [if_neg (fun q => q e2)]
      have hj2 := hc (j + 1) hj1 (by omega)
      by_cases et : pTk S.1.1 S.1.2.1 S.1.2.2.1 S.2.1 (wdT tx n (j + 1))
      · rw [if_pos et]; exact ⟨_, rfl, pBl_k (by omega) hj1 (by omega)⟩
      rw [if_neg et]
      by_cases ee : cdT tx n (j + 2) = 61
      · rw [if_neg (fun q => q ee)]
        have hj3 := hc (j + 2) hj2 (by omega)
        obtain ⟨r, hr, ok⟩ := pz_tot (E := envT tx n S.1.1 S.1.2.1 S.1.2.2.1 S.2.1 S.2.2.1) hc hnm 5000 4 0 (j + 3) (0, rPlain 0) (by omega) hj3 (show 8 * (c - (j + 3)) + 3 < 5000 by omega) (fun q => by omega)
        rw [hr]
        rcases r with x | ⟨j1, a⟩
        · exact ⟨_, rfl, by have := ok.1; omega, ok.2⟩
        · obtain ⟨x1, x2, x3, x4, x5⟩ := ok
          dsimp only at x1 x2 x4
          show ∃ r, (if cdT tx n j1 ≠ 59 then _ else _) = some r ∧ _
          by_cases e59 : cdT tx n j1 = 59
          · rw [if_neg (fun q => q e59)]
            by_cases e5 : 5 < a.1
            · rw [if_pos e5]; exact ⟨_, rfl, by show j ≤ j1; omega, x2, by show 5 ≠ 0; omega⟩
            · rw [if_neg e5]
              refine ⟨_, rfl, by show j < j1 + 1; omega, hc j1 x2 (by omega), ⟨s1, s2, by show S.1.2.2.1 + 1 ≤ 8; omega, s4⟩, fun k => ?_, fun k hk => ?_, s7, s8⟩
              · show updA S.2.1 (6 + S.1.2.2.1) (wdT tx n (j + 1)) k < 2 ^ 30
                unfold updA; split
                · exact wd_lt _ e2
                · exact s5 k
              · have hk' : k < S.1.2.2.1 + 1 := hk
                show (updA S.2.2.1 S.1.2.2.1 a k).1 ≤ 5 ∧ okT (allF (nI S.1.1)) (updA S.2.2.1 S.1.2.2.1 a k)
                unfold updA
                by_cases ek : k = S.1.2.2.1
                · rw [if_pos ek]; exact ⟨by omega, x4⟩
                · rw [if_neg ek]; exact s6 k (by omega)
          · rw [if_pos e59]; exact ⟨_, rfl, pBl_k (by omega) x2 (by omega)⟩
      · rw [if_pos ee]; exact ⟨_, rfl, pBl_k (by omega) hj2 (by omega)⟩
    · rw [if_pos e2]; exact ⟨_, rfl, pBl_k (by omega) hj1 (by omega)⟩
  rw [if_neg el]
  by_cases ez : cdT tx n j = 857679
  · rw [if_pos ez]
    have hj1 := hc j hj (by omega)
    by_cases e2 : S.1.2.2.2 = 2
    · rw [if_pos e2]; exact ⟨_, rfl, pBl_k (by omega) hj (by omega)⟩
    rw [if_neg e2]
    obtain ⟨r, hr, ok⟩ := pz_tot (E := envT tx n S.1.1 S.1.2.1 S.1.2.2.1 S.2.1 S.2.2.1) hc hnm 5000 4 0 (j + 1) (0, rPlain 0) (by omega) hj1 (show 8 * (c - (j + 1)) + 3 < 5000 by omega) (fun q => by omega)
    rw [hr]
    rcases r with x | ⟨j1, a⟩
    · exact ⟨_, rfl, by have := ok.1; omega, ok.2⟩
    · obtain ⟨x1, x2, x3, x4, x5⟩ := ok
      dsimp only at x1 x2 x4
      show ∃ r, (if cdT tx n j1 ≠ 59 then _ else _) = some r ∧ _
      by_cases e59 : cdT tx n j1 = 59
      · rw [if_neg (fun q => q e59)]
        by_cases e5 : 2 < fsP S.2.2.2 S.1.2.2.2 + a.1
        · rw [if_pos e5]; exact ⟨_, rfl, by show j ≤ j1; omega, x2, by show 5 ≠ 0; omega⟩
        · rw [if_neg e5]
          refine ⟨_, rfl, by show j < j1 + 1; omega, hc j1 x2 (by omega), ⟨s1, s2, s3, by show S.1.2.2.2 + 1 ≤ 2; omega⟩, s5, s6, fun k hk => ?_, ?_⟩
          · have hk' : k < S.1.2.2.2 + 1 := hk
            show okT (allF (nI S.1.1)) (updA S.2.2.2 S.1.2.2.2 a k)
            unfold updA
            by_cases ek : k = S.1.2.2.2
            · rw [if_pos ek]; exact x4
            · rw [if_neg ek]; exact s7 k (by omega)
          · show fsP (updA S.2.2.2 S.1.2.2.2 a) (S.1.2.2.2 + 1) ≤ 2
            rw [fsP, fsP_cg (FR := updA S.2.2.2 S.1.2.2.2 a) (FR' := S.2.2.2) S.1.2.2.2 (fun i hi => if_neg (by omega)), updA, if_pos rfl]
            omega
      · rw [if_pos e59]; exact ⟨_, rfl, pBl_k (by omega) x2 (by omega)⟩
  rw [if_neg ez]
  by_cases en : (cdT tx n j = 21155475 ∨ cdT tx n j = 36499) ∧ S.1.2.2.1 = 0 ∧ S.1.2.2.2 = 0
  · rw [if_pos en]
    have hj1 := hc j hj (by omega)
    by_cases e2 : cdT tx n (j + 1) = 2
    · rw [if_neg (fun q => q e2)]
      exact pNm_k hc _ 5000 j (j + 1) S (by omega) hj1 (by omega) hS en.2.1 en.2.2
    · rw [if_pos e2]; exact ⟨_, rfl, pBl_k (by omega) hj1 (by omega)⟩
  · rw [if_neg en]; exact ⟨_, rfl, pBl_k (by omega) hj (by omega)⟩
theorem pTx_k (hc : ∀ j, j < c → cdT tx n j ≠ 0 → j + 1 < c) (hc5 : c ≤ 501) : ∀ f j S, j < c → c - j ≤ f → pSk S → ∃ r, pTx tx n f j S = some r ∧ (match r with | .inl x => j ≤ x.2 ∧ x.2 < c ∧ x.1 ≠ 0 | .inr x => j ≤ x.1 ∧ x.1 < c ∧ pSk x.2) := by
  intro f
  induction f with
  | zero => intro j S hj hf; omega
  | succ f ih =>
    intro j S hj hf hS
    unfold pTx
    by_cases e0 : cdT tx n j = 0
    · rw [if_pos e0]; exact ⟨_, rfl, Nat.le_refl _, hj, hS⟩
    · rw [if_neg e0]
      obtain ⟨r, hr, ok⟩ := pLn_k hc hc5 hj hS
      rw [hr]
      rcases r with x | ⟨j', S'⟩
      · exact ⟨_, rfl, ok⟩
      · obtain ⟨k1, k2, k3⟩ := ok
        dsimp only at k1 k2 k3
        obtain ⟨r, hr, ok⟩ := ih j' S' k2 (by omega) k3
        refine ⟨r, hr, ?_⟩
        rcases r with x | x
        · exact ⟨by have := ok.1; omega, ok.2⟩
        · exact ⟨by have := ok.1; omega, ok.2⟩
end PL
