/-! the class's Reader: slotOf, readName -/
abbrev usd (nt na np k : Nat) : Prop := k < nt ∨ (3 ≤ k ∧ k < 3 + na) ∨ (6 ≤ k ∧ k < 6 + np)
/-- names and programs told so far -/
def cN (W N : Nat) (h : HS) (nt na np : Nat) (Wd : Nat → Nat) (PR : Nat → pR) : Prop := (nt ≤ 3 ∧ na ≤ 3 ∧ np ≤ 8) ∧ (hI h W 0 = nI nt ∧ hI h W 1 = nI na ∧ hI h W 2 = nI np) ∧ (∀ k, Wd k < 2 ^ 30) ∧ (∀ k, k < 14 → hI h N k = if usd nt na np k then nI (Wd k) else 0) ∧ ∀ k, k < np → (∃ a, hR h (W + 1) k = some a ∧ pcW h a (PR k).1 (PR k).2) ∧ (PR k).1 ≤ 5 ∧ okT (allF (nI nt)) (PR k)
theorem cN.q {U W T N : Nat} {h h1 : HS} {nt na np : Nat} {Wd : Nat → Nat} {PR : Nat → pR} (cn : cN W N h nt na np Wd PR) (hq : cQ U W T N h) (a : qF U T h h1) : cN W N h1 nt na np Wd PR := by
  obtain ⟨⟨q1, -⟩, ⟨q2, -⟩, ⟨q3, -⟩, ⟨q4, ⟨-, q5, -⟩, -⟩, l1, l2, l3, l4⟩ := hq
  obtain ⟨d1, ⟨d2, d3, d4⟩, d5, d6, d7⟩ := cn
  have eW : ∀ k, hI h1 W k = hI h W k := fun k => (a.2 W (by omega)).2 k (fun x => by rw [x.1, q1] at q4; exact absurd q4 (by decide)) (fun x => by rw [x.1, q3] at q4; exact absurd q4 (by decide))
  have eN : ∀ k, hI h1 N k = hI h N k := fun k => (a.2 N l4).2 k (fun x => by rw [x.1, q1] at q2; exact absurd q2 (by decide)) (fun x => by rw [x.1, q3] at q2; exact absurd q2 (by decide))
  have eP : hR h1 (W + 1) = hR h (W + 1) := (a.2 (W + 1) (by omega)).1.2.1
  refine ⟨d1, ⟨by rw [eW]; exact d2, by rw [eW]; exact d3, by rw [eW]; exact d4⟩, d5, fun k hk => by rw [eN]; exact d6 k hk, fun k hk => ?_⟩
  obtain ⟨⟨p, p1, p2⟩, p3⟩ := d7 k hk
  exact ⟨⟨p, by rw [eP]; exact p1, p2.q q1 q3 a⟩, p3⟩
theorem cN.nm {W N : Nat} {h : HS} {nt na np : Nat} {Wd : Nat → Nat} {PR : Nat → pR} (cn : cN W N h nt na np Wd PR) (wv : Nat) (a : pR) (e : nmOf nt na np Wd PR wv = some a) : a.1 ≤ 5 ∧ okT (allF (nI nt)) a := nm_ok cn.1.1 cn.1.2.1 (fun k hk => (cn.2.2.2.2 k hk).2) wv a e
theorem fndN_no {W : Nat → Nat} {o w : Nat} : ∀ k, fndN W o w k = none → ∀ i, i < k → W (o + i) ≠ w
  | 0, _, i, hi => absurd hi (Nat.not_lt_zero _)
  | k + 1, h, i, hi => by
    rw [fndN] at h
    cases e : fndN W o w k with
    | some x => rw [e] at h; cases h
    | none =>
      rw [e] at h
      dsimp only at h
      by_cases q : W (o + k) = w
      · rw [if_pos q] at h; cases h
      · by_cases e2 : i = k
        · rw [e2]; exact q
        · exact fndN_no k e i (by omega)
theorem fndN_first {W : Nat → Nat} {o w : Nat} : ∀ k x, fndN W o w k = some x → ∀ i, i < x → W (o + i) ≠ w
  | 0, _, h, _, _ => by cases h
  | k + 1, x, h, i, hi => by
    rw [fndN] at h
    cases e : fndN W o w k with
    | some y =>
      rw [e] at h
      cases h
      exact fndN_first k x e i hi
    | none =>
      rw [e] at h
      dsimp only at h
      by_cases q : W (o + k) = w
      · rw [if_pos q] at h; cases h; exact fndN_no k e i hi
      · rw [if_neg q] at h; cases h
/-- the slot of a name -/
def slN (nt na np : Nat) (Wd : Nat → Nat) (wv : Nat) : Option Nat :=
  match fndN Wd 0 wv nt with
  | some k => some k
  | none => match fndN Wd 3 wv na with
    | some k => some (3 + k)
    | none => match fndN Wd 6 wv np with
      | some k => some (6 + k)
      | none => none
theorem slN_no {nt na np : Nat} {Wd : Nat → Nat} {wv : Nat} : slN nt na np Wd wv = none ↔ (fndN Wd 0 wv nt = none ∧ fndN Wd 3 wv na = none ∧ fndN Wd 6 wv np = none) := by
  unfold slN
  cases fndN Wd 0 wv nt with
  | some k => exact ⟨fun q => (by cases q), fun q => (by cases q.1)⟩
  | none => cases fndN Wd 3 wv na with
    | some k => exact ⟨fun q => (by cases q), fun q => (by cases q.2.1)⟩
    | none => cases fndN Wd 6 wv np with
      | some k => exact ⟨fun q => (by cases q), fun q => (by cases q.2.2)⟩
      | none => exact ⟨fun _ => ⟨rfl, rfl, rfl⟩, fun _ => rfl⟩
theorem slN_none {nt na np : Nat} {Wd : Nat → Nat} {wv : Nat} (h : slN nt na np Wd wv = none) : ∀ s, usd nt na np s → Wd s ≠ wv := by
  obtain ⟨a, b, c⟩ := slN_no.mp h
  intro s hs
  rcases hs with hs | hs | hs
  · have := fndN_no nt a s hs; rwa [Nat.zero_add] at this
  · have := fndN_no na b (s - 3) (by omega); rwa [show 3 + (s - 3) = s by omega] at this
  · have := fndN_no np c (s - 6) (by omega); rwa [show 6 + (s - 6) = s by omega] at this
theorem slN_some {nt na np : Nat} {Wd : Nat → Nat} {wv x : Nat} (h1 : nt ≤ 3) (h2 : na ≤ 3) (h : slN nt na np Wd wv = some x) : usd nt na np x ∧ Wd x = wv ∧ ∀ s, s < x → usd nt na np s → Wd s ≠ wv := by
  unfold slN at h
  cases a : fndN Wd 0 wv nt with
  | some k =>
    rw [a] at h
    cases h
    obtain ⟨l1, l2⟩ := fndN_lt nt x a
    rw [Nat.zero_add] at l2
    refine ⟨Or.inl l1, l2, fun s hs _ => ?_⟩
    have := fndN_first nt x a s hs; rwa [Nat.zero_add] at this
  | none =>
    rw [a] at h
    have na0 := fndN_no nt a
    cases b : fndN Wd 3 wv na with
    | some k =>
      rw [b] at h
      cases h
      obtain ⟨l1, l2⟩ := fndN_lt na k b
      refine ⟨Or.inr (Or.inl ⟨by omega, by omega⟩), l2, fun s hs u => ?_⟩
      rcases u with u | u | u
      · have := na0 s u; rwa [Nat.zero_add] at this
      · have := fndN_first na k b (s - 3) (by omega); rwa [show 3 + (s - 3) = s by omega] at this
      · omega
    | none =>
      rw [b] at h
      have nb0 := fndN_no na b
      cases c : fndN Wd 6 wv np with
      | some k =>
        rw [c] at h
        cases h
        obtain ⟨l1, l2⟩ := fndN_lt np k c
        refine ⟨Or.inr (Or.inr ⟨by omega, by omega⟩), l2, fun s hs u => ?_⟩
        rcases u with u | u | u
        · have := na0 s u; rwa [Nat.zero_add] at this
        · have := nb0 (s - 3) (by omega); rwa [show 3 + (s - 3) = s by omega] at this
        · have := fndN_first np k c (s - 6) (by omega); rwa [show 6 + (s - 6) = s by omega] at this
      | none => rw [c] at h; cases h
theorem pkW_pos {tx : Nat → Nat} {q : Nat} : ∀ k, isL (tx (q + k)) → 0 < pkW tx q (k + 1) := by
  intro k h
  have := h.1
  show 0 < 32 * pkW tx q k + (tx (q + k) - 96)
  omega
theorem wd_pos {tx : Nat → Nat} {n : Nat} (j : Nat) (h : cdT tx n j = 2) : wdT tx n j ≠ 0 := by
  have hl : ∀ d q i, i < rnE tx d q - q → isL (tx (q + i)) := by
    intro d
    induction d with
    | zero => intro q i hi; rw [rnE] at hi; omega
    | succ d ih =>
      intro q i hi
      rw [rnE] at hi
      by_cases e : isL (tx q)
      · rw [if_pos e] at hi
        by_cases i0 : i = 0
        · rw [i0]; exact e
        · have := ih (q + 1) (i - 1) (by omega)
          rw [show q + 1 + (i - 1) = q + i by omega] at this
          exact this
      · rw [if_neg e] at hi; omega
  unfold wdT
  unfold cdT at h
  unfold tkG at h ⊢
  by_cases e1 : n ≤ plT tx n j
  · rw [if_pos e1] at h; exact absurd (show (0 : Nat) = 2 from h) (by omega)
  · rw [if_neg e1] at h ⊢
    by_cases e2 : isL (tx (plT tx n j))
    · rw [if_pos e2] at h ⊢
      have hr : plT tx n j + 1 ≤ rnE tx (n - plT tx n j) (plT tx n j) := by
        obtain ⟨d, hd⟩ : ∃ d, n - plT tx n j = d + 1 := ⟨n - plT tx n j - 1, by omega⟩
        rw [hd, rnE, if_pos e2]
        exact (rnE_in _ _).1
      obtain ⟨k, hk⟩ : ∃ k, rnE tx (n - plT tx n j) (plT tx n j) - plT tx n j = k + 1 := ⟨rnE tx (n - plT tx n j) (plT tx n j) - plT tx n j - 1, by omega⟩
      have := pkW_pos (tx := tx) (q := plT tx n j) k (hl (n - plT tx n j) (plT tx n j) k (by omega))
      show pkW tx _ _ ≠ 0
      rw [hk]
      omega
    · rw [if_neg e2] at h
      exfalso
      revert h
      show (if _ then _ else _) = 2 → False
      intro h
      by_cases e3 : tx (plT tx n j) ∈ sgL
      · rw [if_pos e3] at h; have := sgL_ge e3; omega
      · rw [if_neg e3] at h; omega
/-- a fault k is told at token j -/
def bdF (U T : Nat) (h h' : HS) (tx : Nat → Nat) (n c k j : Nat) : Prop := qF U T h h' ∧ cT T h' tx n c j ∧ hI h' U 1 = nI k ∧ hI h' U 2 = nI (plT tx n j) ∧ hI h' U 1 ≠ 0
theorem cQ.ne {U W T N : Nat} {h : HS} (hq : cQ U W T N h) : U ≠ T := fun x => by have := hq.1.1; rw [x, hq.2.2.1.1] at this; exact absurd this (by decide)
theorem bdF.mk {U W T N : Nat} {h : HS} {tx : Nat → Nat} {n c j : Nat} (hq : cQ U W T N h) (ct : cT T h tx n c j) {k : Nat} (hk : k ≠ 0 ∧ k < 10) : bdF U T h (sI (sI h U 1 (nI k)) U 2 (nI (plT tx n j))) tx n c k j := by
  have e : qF U T h (sI (sI h U 1 (nI k)) U 2 (nI (plT tx n j))) := qF.i (fun q => hk.1 ((nI_eq (b := 0) (by omega) (by omega)).mp q))
  refine ⟨e, ct.sm hq e (fun i _ _ => ?_), ?_, ?_, ?_⟩
  · rw [hI_sI, if_neg (fun x => hq.ne x.1.symm), hI_sI, if_neg (fun x => hq.ne x.1.symm)]
  · rw [hI_sI, if_neg (by omega), hI_sI, if_pos ⟨rfl, rfl⟩]
  · rw [hI_sI, if_pos ⟨rfl, rfl⟩]
  · rw [hI_sI, if_neg (by omega), hI_sI, if_pos ⟨rfl, rfl⟩]
    exact fun q => hk.1 ((nI_eq (b := 0) (by omega) (by omega)).mp q)
theorem bdF.ext {U W T N : Nat} {h h1 h2 : HS} {tx : Nat → Nat} {n c j k : Nat} (hq : cQ U W T N h) (b : bdF U T h h1 tx n c k j) (e : hExt h1 h2) : bdF U T h h2 tx n c k j := by
  have q1 := hq.q b.1
  have eU : hI h2 U = hI h1 U := (e.2 U q1.2.2.2.2.1).1
  exact ⟨b.1.tr e.q, b.2.1.ext q1 e, by rw [eU]; exact b.2.2.1, by rw [eU]; exact b.2.2.2.1, by rw [eU]; exact b.2.2.2.2⟩
theorem bdF.pre {U T : Nat} {h0 h h1 : HS} {tx : Nat → Nat} {n c j k : Nat} (a : qF U T h0 h) (b : bdF U T h h1 tx n c k j) : bdF U T h0 h1 tx n c k j := ⟨a.tr b.1, b.2⟩
/-- what a sum gives -/
def rsC (U T : Nat) (h : HS) (tx : Nat → Nat) (n c j : Nat) (r : pRz) (r' : Option Value) (h' : HS) : Prop := match r with
  | .inl x => bdF U T h h' tx n c x.1 x.2 ∧ ∃ p m R, r' = some (.ref p) ∧ pcW h' p m R ∧ m ≤ 5 * (x.2 - j)
  | .inr x => qF U T h h' ∧ cT T h' tx n c x.1 ∧ hI h' U 1 = 0 ∧ ∃ p, r' = some (.ref p) ∧ pcW h' p x.2.1 x.2.2
section R3
variable {w : gD} {U W T N : Nat} {h : HS} {tx : Nat → Nat} {n c j nt na np : Nat} {Wd : Nat → Nat} {PR : Nat → pR}
theorem e_r_slotOf (hq : cQ U W T N h) (cn : cN W N h nt na np Wd PR) {wv : Nat} (hw0 : wv ≠ 0) (hw : wv < 2 ^ 30) : EvF w 0 0 0 yX3_slotOf cX3_slotOf 3 (some .int) [.ref U, .int (nI wv)] h (some (.int (vN (slN nt na np Wd wv)))) h := by
  refine g_start (by decide) (Nat.le_of_ble_eq_true rfl) [(0, _), (1, _)] rfl (fun z hfl C => ?_)
  obtain ⟨⟨d1, d2, d3⟩, -, d5, d6, -⟩ := cn
  have loop : ∀ y s, s + y = 14 → (∀ i, i < s → usd nt na np i → Wd i ≠ wv) → GW z w 3 (gQ z w 0 0 (fun r' h'' => r' = some (.int (vN (slN nt na np Wd wv))) ∧ h'' = h)) 0 0 2 [(0, .ref U), (1, .int (nI wv)), (2, .int (nI s))] [] h := by
    intro y
    induction y with
    | zero =>
      intro s hs no
      have es : s = 14 := hs
      subst es
      refine g_iload_n C (gd DX3_slotOf_0 2 rfl) 2 rfl rfl ?_
      refine g_aload_n C (gd DX3_slotOf_0 3 rfl) 0 rfl rfl ?_
      refine g_getr (ci := 3) (k := 4) C rfl (by decide) rfl lf_TestJudge_Reader_25 hq.1.1 hq.1.2.2.2 (gd DX3_slotOf_0 4 rfl) ?_
      refine g_alen_i C hq.2.1.1 (gd DX3_slotOf_0 5 rfl) ?_
      rw [hq.2.1.2]
      refine g_icmp_ge C 29 (gd DX3_slotOf_0 6 rfl) (by decide) (fun c8 => ?_) (fun c8 => ?_)
      · refine g_iconst (v := -1) C (gd DX3_slotOf_0 17 rfl) (by decide) ?_
        have e : slN nt na np Wd wv = none := by
          cases e : slN nt na np Wd wv with
          | none => rfl
          | some x =>
            obtain ⟨u, v, -⟩ := slN_some d1 d2 e
            exact absurd v (no x (by rcases u with u | u | u <;> omega) u)
        exact g_iret C (by omega) (by omega) ⟨by rw [e]; rfl, rfl⟩ (gd DX3_slotOf_0 18 rfl)
      · exact absurd (show (nI 14 : Int32) ≥ nI 14 by decide) c8
    | succ y ih =>
      intro s hs no
      refine g_iload_n C (gd DX3_slotOf_0 2 rfl) 2 rfl rfl ?_
      refine g_aload_n C (gd DX3_slotOf_0 3 rfl) 0 rfl rfl ?_
      refine g_getr (ci := 3) (k := 4) C rfl (by decide) rfl lf_TestJudge_Reader_25 hq.1.1 hq.1.2.2.2 (gd DX3_slotOf_0 4 rfl) ?_
      refine g_alen_i C hq.2.1.1 (gd DX3_slotOf_0 5 rfl) ?_
      rw [hq.2.1.2]
      refine g_icmp_ge C 29 (gd DX3_slotOf_0 6 rfl) (by decide) (fun c8 => ?_) (fun c8 => ?_)
      · exact absurd c8 (nI_ge (b := 14) (by omega) (by omega))
      · refine g_aload_n C (gd DX3_slotOf_0 7 rfl) 0 rfl rfl ?_
        refine g_getr (ci := 3) (k := 4) C rfl (by decide) rfl lf_TestJudge_Reader_25 hq.1.1 hq.1.2.2.2 (gd DX3_slotOf_0 8 rfl) ?_
        refine g_iload_n C (gd DX3_slotOf_0 9 rfl) 2 rfl rfl ?_
        refine g_iaj (j := s) C hq.2.1.1 hq.2.1.2 (by first | decide | omega) rfl (by omega) (gd DX3_slotOf_0 10 rfl) ?_
        rw [d6 s (by omega)]
        by_cases u : usd nt na np s
        · rw [if_pos u]
          refine g_iload_n C (gd DX3_slotOf_0 11 rfl) 1 rfl rfl ?_
          refine g_icmp_ne C 23 (gd DX3_slotOf_0 12 rfl) (by decide) (fun c18 => ?_) (fun c18 => ?_)
          · have ne : Wd s ≠ wv := fun q => by rw [q] at c18; exact absurd rfl c18
            refine g_iinc (lv' := [(0, _), (1, _), (2, _)]) C (gd DX3_slotOf_0 15 rfl) 2 [1, 2, 0] rfl rfl (by decide) rfl ?_
            refine g_goto (tgt := 2) C (gd DX3_slotOf_0 16 rfl) (by decide) ?_
            refine GW.cast (by rw [inc1]) rfl rfl (ih (s + 1) (by omega) (fun i hi ui => ?_))
            by_cases q : i = s
            · rw [q]; exact ne
            · exact no i (by omega) ui
          · have e : Wd s = wv := (nI_eq (by have := d5 s; omega) (by omega)).mp (by first | exact c18 | exact Decidable.of_not_not c18)
            have ex : slN nt na np Wd wv = some s := by
              cases e2 : slN nt na np Wd wv with
              | none => exact absurd e (slN_none e2 s u)
              | some x =>
                obtain ⟨u2, v2, w2⟩ := slN_some d1 d2 e2
                by_cases lt : s < x
                · exact absurd e (w2 s lt u)
                · by_cases lt2 : x < s
                  · exact absurd v2 (no x lt2 u2)
                  · rw [show x = s by omega]
            refine g_iload_n C (gd DX3_slotOf_0 13 rfl) 2 rfl rfl ?_
            exact g_iret C (by omega) (by omega) ⟨by rw [ex]; rfl, rfl⟩ (gd DX3_slotOf_0 14 rfl)
        · rw [if_neg u]
          refine g_iload_n C (gd DX3_slotOf_0 11 rfl) 1 rfl rfl ?_
          refine g_icmp_ne C 23 (gd DX3_slotOf_0 12 rfl) (by decide) (fun c18 => ?_) (fun c18 => ?_)
          · refine g_iinc (lv' := [(0, _), (1, _), (2, _)]) C (gd DX3_slotOf_0 15 rfl) 2 [1, 2, 0] rfl rfl (by decide) rfl ?_
            refine g_goto (tgt := 2) C (gd DX3_slotOf_0 16 rfl) (by decide) ?_
            refine GW.cast (by rw [inc1]) rfl rfl (ih (s + 1) (by omega) (fun i hi ui => ?_))
            by_cases q : i = s
            · rw [q] at ui; exact absurd ui u
            · exact no i (by omega) ui
          · have e : 0 = wv := (nI_eq (a := 0) (by omega) (by omega)).mp (by first | exact c18 | exact Decidable.of_not_not c18)
            exact absurd e.symm hw0
  refine g_iconst (v := 0) C (gd DX3_slotOf_0 0 rfl) (by decide) ?_
  refine g_istore_n (lv' := [(0, _), (1, _), (2, _)]) C (gd DX3_slotOf_0 1 rfl) [1, 2, 0] rfl (by decide) rfl ?_
  exact loop 14 0 rfl (fun i hi => absurd hi (Nat.not_lt_zero _))
end R3
