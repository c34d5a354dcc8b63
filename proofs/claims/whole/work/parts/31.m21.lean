/-! laysRests, its second half: rests in the order in which they are met -/
/-- one edge of the search over rests: go, where a state goes on; B, when two states leave the same -/
noncomputable def rstep (go : Nat → Nat → Option Nat) (B : Nat → Nat → Prop) (R : List (Nat × Nat)) (e : Nat) : List (Nat × Nat) :=
  match R[e / 24]? with
  | none => R
  | some q => match go q.1 (e % 24) with
    | none => R
    | some t => @ite _ (∃ p, p ∈ R ∧ B p.1 t) (Classical.propDecidable _) R (R ++ [(t, q.2 + 1)])
noncomputable def rbfs (go : Nat → Nat → Option Nat) (B : Nat → Nat → Prop) : Nat → List (Nat × Nat)
  | 0 => [(0, 0)]
  | e + 1 => rstep go B (rbfs go B e) e
theorem rstep_none {go : Nat → Nat → Option Nat} {B : Nat → Nat → Prop} {R : List (Nat × Nat)} {e : Nat} {q : Nat × Nat} (h1 : R[e / 24]? = some q) (h2 : go q.1 (e % 24) = none) : rstep go B R e = R := by simp only [rstep, h1, h2]
theorem rstep_old {go : Nat → Nat → Option Nat} {B : Nat → Nat → Prop} {R : List (Nat × Nat)} {e t : Nat} {q : Nat × Nat} (h1 : R[e / 24]? = some q) (h2 : go q.1 (e % 24) = some t) (h3 : ∃ p, p ∈ R ∧ B p.1 t) : rstep go B R e = R := by simp only [rstep, h1, h2, if_pos h3]
theorem rstep_new {go : Nat → Nat → Option Nat} {B : Nat → Nat → Prop} {R : List (Nat × Nat)} {e t : Nat} {q : Nat × Nat} (h1 : R[e / 24]? = some q) (h2 : go q.1 (e % 24) = some t) (h3 : ¬ ∃ p, p ∈ R ∧ B p.1 t) : rstep go B R e = R ++ [(t, q.2 + 1)] := by simp only [rstep, h1, h2, if_neg h3]
/-- where a state goes on to be useful -/
def rgo (m : Nat) (h : HS) (s k : Nat) : Option Nat := if uNx m h (24 * s + k) = -1 then none else some (uNx m h (24 * s + k)).toNatClampNeg
/-- the picture while rests are met -/
def hR5 (m : Nat) (h : HS) (RO RS RF : Nat → Int32) (n : Nat) : HS := sI (sF (sF (sF h (m + 22) RO) (m + 23) RS) (m + 24) RF) m 54 (nI n)
theorem hR5_ne {m b j n : Nat} {h : HS} {RO RS RF : Nat → Int32} (h1 : ¬ (b = m ∧ j = 54)) (h2 : b ≠ m + 22) (h3 : b ≠ m + 23) (h4 : b ≠ m + 24) : hI (hR5 m h RO RS RF n) b j = hI h b j := by
  unfold hR5
  rw [hI_sI, if_neg h1, hI_sF_ne h4, hI_sF_ne h3, hI_sF_ne h2]
theorem hR5_row {m b n : Nat} {h : HS} {RO RS RF : Nat → Int32} (h1 : b ≠ m) (h2 : b ≠ m + 22) (h3 : b ≠ m + 23) (h4 : b ≠ m + 24) : hI (hR5 m h RO RS RF n) b = hI h b := funext fun j => hR5_ne (fun q => h1 q.1) h2 h3 h4
theorem hR5_54 {m n : Nat} {h : HS} {RO RS RF : Nat → Int32} : hI (hR5 m h RO RS RF n) m 54 = nI n := by
  unfold hR5
  rw [hI_sI, if_pos ⟨rfl, rfl⟩]
theorem hR5_22 {m n : Nat} {h : HS} {RO RS RF : Nat → Int32} : hI (hR5 m h RO RS RF n) (m + 22) = RO := by
  unfold hR5
  rw [hI_sI_ne (by omega), hI_sF_ne (by omega), hI_sF_ne (by omega), hI_sF_eq]
theorem hR5_23 {m n : Nat} {h : HS} {RO RS RF : Nat → Int32} : hI (hR5 m h RO RS RF n) (m + 23) = RS := by
  unfold hR5
  rw [hI_sI_ne (by omega), hI_sF_ne (by omega), hI_sF_eq]
theorem hR5_24 {m n : Nat} {h : HS} {RO RS RF : Nat → Int32} : hI (hR5 m h RO RS RF n) (m + 24) = RF := by
  unfold hR5
  rw [hI_sI_ne (by omega), hI_sF_eq]
theorem hR5_new (m : Nat) (h : HS) (RO RS RF : Nat → Int32) (n c i n' : Nat) (a b f : Int32) : sI (sI (sI (sI (hR5 m h RO RS RF n) (m + 22) c a) (m + 23) i b) (m + 24) i f) m 54 (nI n') = hR5 m h (upd RO c a) (upd RS i b) (upd RF i f) n' := by
  refine Prod.ext (funext fun x => funext fun j => ?_) rfl
  show hI _ x j = hI _ x j
  by_cases e0 : x = m ∧ j = 54
  · rw [e0.1, e0.2, hR5_54, hI_sI, if_pos ⟨rfl, rfl⟩]
  · rw [hI_sI, if_neg e0, hI_sI]
    by_cases e1 : x = m + 24
    · subst e1
      rw [hR5_24, upd]
      by_cases e2 : j = i
      · rw [if_pos ⟨rfl, e2⟩, if_pos e2]
      · rw [if_neg (fun q => e2 q.2), if_neg e2, hI_sI, if_neg (by omega), hI_sI, if_neg (by omega), hR5_24]
    · rw [if_neg (fun q => e1 q.1), hI_sI]
      by_cases e3 : x = m + 23
      · subst e3
        rw [hR5_23, upd]
        by_cases e2 : j = i
        · rw [if_pos ⟨rfl, e2⟩, if_pos e2]
        · rw [if_neg (fun q => e2 q.2), if_neg e2, hI_sI, if_neg (by omega), hR5_23]
      · rw [if_neg (fun q => e3 q.1), hI_sI]
        by_cases e4 : x = m + 22
        · subst e4
          rw [hR5_22, hR5_22, upd]
          by_cases e2 : j = c
          · rw [if_pos ⟨rfl, e2⟩, if_pos e2]
          · rw [if_neg (fun q => e2 q.2), if_neg e2]
        · rw [if_neg (fun q => e4 q.1), hR5_ne e0 e4 e3 e1, hR5_ne e0 e4 e3 e1]
theorem hR5_0 (m : Nat) (h : HS) (RO : Nat → Int32) : sI (sF h (m + 22) RO) m 54 0 = hR5 m h RO (hI h (m + 23)) (hI h (m + 24)) 0 := by
  unfold hR5
  rw [show hI h (m + 23) = hI (sF h (m + 22) RO) (m + 23) from (hI_sF_ne (by omega)).symm, sF_self, show hI h (m + 24) = hI (sF h (m + 22) RO) (m + 24) from (hI_sF_ne (by omega)).symm, sF_self]
  rfl
/-- what the rows of the rests hold: R the rests met, K the number of classes, C the classes -/
def rI (N K : Nat) (U C : Nat → Int32) (RO RS RF : Nat → Int32) (R : List (Nat × Nat)) : Prop :=
  (∀ c, c < K → (∃ (i : Nat) (q : Nat × Nat), R[i]? = some q ∧ C q.1 = nI c ∧ RO c = nI i) ∨ (RO c = -1 ∧ ∀ q, q ∈ R → ¬ C q.1 = nI c)) ∧ (∀ (i : Nat) (q : Nat × Nat), R[i]? = some q → q.1 < N ∧ ¬ U q.1 = 0 ∧ RS i = nI q.1 ∧ RF i = nI q.2 ∧ q.2 ≤ i) ∧ (∀ (i j : Nat) (q p : Nat × Nat), R[i]? = some q → R[j]? = some p → C q.1 = C p.1 → i = j)
theorem rI.len {N K : Nat} {U C RO RS RF : Nat → Int32} {R : List (Nat × Nat)} (r : rI N K U C RO RS RF R) (hK : K ≤ 16400) (hC : ∀ s, s < N → ¬ U s = 0 → ∃ c, c < K ∧ C s = nI c) : R.length ≤ K := by
  refine pigeon (fun i => match R[i]? with | some q => (C q.1).toNatClampNeg | none => 0) R.length K (fun i hi => ?_) (fun i j hi hj e => ?_)
  · obtain ⟨c, h1, h2⟩ := hC R[i].1 (r.2.1 i R[i] (List.getElem?_eq_getElem hi)).1 (r.2.1 i R[i] (List.getElem?_eq_getElem hi)).2.1
    rw [List.getElem?_eq_getElem hi]
    show (C R[i].1).toNatClampNeg < K
    rw [h2, nI_clamp (by omega)]
    exact h1
  · obtain ⟨c, h1, h2⟩ := hC R[i].1 (r.2.1 i R[i] (List.getElem?_eq_getElem hi)).1 (r.2.1 i R[i] (List.getElem?_eq_getElem hi)).2.1
    obtain ⟨c', h1', h2'⟩ := hC R[j].1 (r.2.1 j R[j] (List.getElem?_eq_getElem hj)).1 (r.2.1 j R[j] (List.getElem?_eq_getElem hj)).2.1
    rw [List.getElem?_eq_getElem hi, List.getElem?_eq_getElem hj] at e
    have e2 : (C R[i].1).toNatClampNeg = (C R[j].1).toNatClampNeg := e
    rw [h2, h2', nI_clamp (by omega), nI_clamp (by omega)] at e2
    exact r.2.2 i j R[i] R[j] (List.getElem?_eq_getElem hi) (List.getElem?_eq_getElem hj) (by rw [h2, h2', e2])
/-- a state of class c is met -/
theorem rI.new {N K : Nat} {U C RO RS RF : Nat → Int32} {R : List (Nat × Nat)} (r : rI N K U C RO RS RF R) (hK : K ≤ 16400) (hl : R.length ≤ K) {t c f : Nat} (ht : t < N) (ut : ¬ U t = 0) (hc : c < K) (hct : C t = nI c) (hRO : RO c = -1) (hf : f ≤ R.length) :
    rI N K U C (upd RO c (nI R.length)) (upd RS R.length (nI t)) (upd RF R.length (nI f)) (R ++ [(t, f)]) := by
  obtain ⟨r1, r2, r3⟩ := r
  have no : ∀ q, q ∈ R → ¬ C q.1 = nI c := by
    rcases r1 c hc with ⟨i, q, h1, h2, h3⟩ | ⟨_, h⟩
    · have := (List.getElem?_eq_some_iff.mp h1).1
      exact absurd (h3.symm.trans hRO) (nI_m1 (by omega))
    · exact h
  have old : ∀ (i : Nat) (q : Nat × Nat), (R ++ [(t, f)])[i]? = some q → (i < R.length ∧ R[i]? = some q) ∨ (i = R.length ∧ q = (t, f)) := by
    intro i q h
    by_cases hi : i < R.length
    · rw [List.getElem?_append_left hi] at h; exact Or.inl ⟨hi, h⟩
    · rw [List.getElem?_append_right (by omega)] at h
      have := (List.getElem?_eq_some_iff.mp h).1
      simp at this
      have e : i = R.length := by omega
      subst e
      simp at h
      exact Or.inr ⟨rfl, h.symm⟩
  refine ⟨fun c' hc' => ?_, fun i q hq => ?_, fun i j q p hq hp e => ?_⟩
  · by_cases e : c' = c
    · subst e
      exact Or.inl ⟨R.length, (t, f), by rw [List.getElem?_append_right (Nat.le_refl _)]; simp, hct, by rw [upd, if_pos rfl]⟩
    · rw [upd, if_neg e]
      rcases r1 c' hc' with ⟨i, q, h1, h2, h3⟩ | ⟨h1, h2⟩
      · exact Or.inl ⟨i, q, by rw [List.getElem?_append_left (List.getElem?_eq_some_iff.mp h1).1]; exact h1, h2, h3⟩
      · refine Or.inr ⟨h1, fun q hq => ?_⟩
        rcases List.mem_append.mp hq with z1 | z1
        · exact h2 q z1
        · have z2 : q = (t, f) := by simpa using z1
          subst z2
          intro z3
          exact e ((nI_eq (by omega) (by omega)).mp (z3.symm.trans hct))
  · rcases old i q hq with ⟨hi, h⟩ | ⟨hi, h⟩
    · rw [upd, if_neg (by omega), upd, if_neg (by omega)]
      exact r2 i q h
    · subst hi; subst h
      rw [upd, if_pos rfl, upd, if_pos rfl]
      exact ⟨ht, ut, rfl, rfl, hf⟩
  · rcases old i q hq with ⟨hi, h⟩ | ⟨hi, h⟩ <;> rcases old j p hp with ⟨hj, h'⟩ | ⟨hj, h'⟩
    · exact r3 i j q p h h' e
    · subst h'
      exact absurd (e.trans hct) (no q (List.mem_of_getElem? h))
    · subst h
      exact absurd (e.symm.trans hct) (no p (List.mem_of_getElem? h'))
    · omega
section M21
variable {w : gD} {m : Nat} {h h0 : HS}
theorem rests_b {z : gZ} (hfl : z.2.1.flags = flags0) (C : GC z w 7 0 0 yX10_laysRests cX10_laysRests 6 none) {P : HS → Prop} (hm : mSh m h) {N : Nat} (g : GOk m h N) (g0 : GOk m h0 N) (hN1 : 0 < N) (e7 : hI h (m + 7) = hI h0 (m + 7)) (e13 : hI h (m + 13) = hI h0 (m + 13)) {rp : List Nat} {C1 : Nat → Int32} (e20 : hI h (m + 20) = C1) (hr : rfS m h0 N rp C1) (v p2 : Int32)
    (fin : ∀ RO RS RF R, rI N rp.length (hI h0 (m + 13)) C1 RO RS RF R → (hI h0 (m + 13) 0 = 0 → R = []) → (¬ hI h0 (m + 13) 0 = 0 → R = rbfs (rgo m h0) (Bis m h0) (24 * R.length)) → P (hR5 m h RO RS RF R.length)) :
    GW z w 6 (gQ z w 0 0 (fun r' h'' => r' = none ∧ P h'')) 0 0 62 [(0, .ref m), (1, .int v), (2, .int p2), (3, .int (nI rp.length))] [] h := by
  have hg1 := g.1
  have hlr := hr.1
  have cl : ∀ s, s < N → ¬ hI h0 (m + 13) s = 0 → ∃ c, c < rp.length ∧ C1 s = nI c := fun s hs us => by
    obtain ⟨i, r, q1, q2, -⟩ := hr.2.1 s hs us
    exact ⟨i, (List.getElem?_eq_some_iff.mp q1).1, q2⟩
  have gk : ∀ RO RS RF n, GOk m (hR5 m h RO RS RF n) N := fun RO RS RF n => g.congr (hR5_ne (by omega) (by omega) (by omega) (by omega)) (hR5_row (by omega) (by omega) (by omega) (by omega))
  have un : ∀ RO RS RF n e, uNx m (hR5 m h RO RS RF n) e = uNx m h0 e := fun RO RS RF n e => uNx_congr (by rw [hR5_row (by omega) (by omega) (by omega) (by omega)]; exact e7) (by rw [hR5_row (by omega) (by omega) (by omega) (by omega)]; exact e13) e
  have r20 : ∀ RO RS RF n, hI (hR5 m h RO RS RF n) (m + 20) = C1 := fun RO RS RF n => by rw [hR5_row (by omega) (by omega) (by omega) (by omega)]; exact e20
  have outer : ∀ n i RO RS RF (R : List (Nat × Nat)), N + 1 ≤ i + n → i ≤ R.length → R = rbfs (rgo m h0) (Bis m h0) (24 * i) → rI N rp.length (hI h0 (m + 13)) C1 RO RS RF R → ¬ hI h0 (m + 13) 0 = 0 → GW z w 6 (gQ z w 0 0 (fun r' h'' => r' = none ∧ P h'')) 0 0 109 [(0, .ref m), (1, .int v), (2, .int p2), (3, .int (nI rp.length)), (4, .int (nI i))] [] (hR5 m h RO RS RF R.length) := by
    intro n
    induction n with
    | zero => intro i RO RS RF R hn hi hR hI0; have := hI0.len (by omega) cl; omega
    | succ n ih =>
      intro i RO RS RF R hn hi hR hI0 hu0
      have hlen := hI0.len (by omega) cl
      refine g_iload C (gd DX10_laysRests_1 5 rfl) 4 rfl ?_
      refine g_aload_n C (gd DX10_laysRests_1 6 rfl) 0 rfl rfl ?_
      refine g_geti (ci := 10) (k := 54) C rfl (by decide) rfl lf_TestJudgeModel_457 hm.1 (gd DX10_laysRests_1 7 rfl) ?_
      rw [hR5_54]
      refine g_icmp_ge C 183 (gd DX10_laysRests_1 8 rfl) (by decide) (fun c115 => ?_) (fun c115 => ?_)
      · have e : i = R.length := by have := ge_t c115 (by omega) (by omega); omega
        exact g_vret C (by omega) (by omega) ⟨rfl, fin RO RS RF R hI0 (fun q => absurd q hu0) (fun _ => by rw [← e]; exact hR)⟩ (gd DX10_laysRests_1 42 rfl)
      · have hlt : i < R.length := ge_f c115 (by omega) (by omega)
        have inner : ∀ x k RO RS RF (R : List (Nat × Nat)), k + x = 24 → i < R.length → R = rbfs (rgo m h0) (Bis m h0) (24 * i + k) → rI N rp.length (hI h0 (m + 13)) C1 RO RS RF R → GW z w 6 (gQ z w 0 0 (fun r' h'' => r' = none ∧ P h'')) 0 0 121 [(0, .ref m), (1, .int v), (2, .int p2), (3, .int (nI rp.length)), (4, .int (nI i)), (5, .int (nI k))] [] (hR5 m h RO RS RF R.length) := by
          intro x
          induction x with
          | zero =>
            intro k RO RS RF R hk hlt hR hI0
            refine g_iload C (gd DX10_laysRests_1 11 rfl) 5 rfl ?_
            refine g_bipush (v := 24) C (gd DX10_laysRests_1 12 rfl) (by decide) ?_
            refine g_icmp_ge C 177 (gd DX10_laysRests_1 13 rfl) (by decide) (fun c125 => ?_) (fun c125 => ?_)
            · refine g_iinc (lv' := [(0, _), (1, _), (2, _), (3, _), (4, _), (5, _)]) C (gd DX10_laysRests_1 40 rfl) 4 [1, 2, 3, 4, 0, 5] rfl rfl (by decide) rfl ?_
              refine g_goto (tgt := 109) C (gd DX10_laysRests_1 41 rfl) (by decide) ?_
              refine GW.sub [0, 1, 2, 3, 4] rfl (Nat.le_refl _) (Nat.le_refl _) (lv' := [(0, _), (1, _), (2, _), (3, _), (4, _)]) ?_
              exact GW.cast (by rw [inc1]) rfl rfl (ih (i + 1) RO RS RF R (by omega) (by omega) (by rw [hR, show 24 * (i + 1) = 24 * i + k by omega]) hI0 hu0)
            · exact absurd (nI_le (a := 24) (b := k) (by omega) (by omega)) c125
          | succ x ihx =>
            intro k RO RS RF R hk hlt hR hI0
            have hlen := hI0.len (by omega) cl
            obtain ⟨q, hq⟩ : ∃ q, R[i]? = some q := ⟨R[i], List.getElem?_eq_getElem hlt⟩
            obtain ⟨q1, q2, q3, q4, q5⟩ := hI0.2.1 i q hq
            have hq24 : R[(24 * i + k) / 24]? = some q := by rw [show (24 * i + k) / 24 = i by omega]; exact hq
            have hm24 : (24 * i + k) % 24 = k := by omega
            refine g_iload C (gd DX10_laysRests_1 11 rfl) 5 rfl ?_
            refine g_bipush (v := 24) C (gd DX10_laysRests_1 12 rfl) (by decide) ?_
            refine g_icmp_ge C 177 (gd DX10_laysRests_1 13 rfl) (by decide) (fun c125 => ?_) (fun c125 => ?_)
            · exact absurd c125 (nI_ge (a := k) (b := 24) (by omega) (by omega))
            · refine g_aload_n C (gd DX10_laysRests_1 14 rfl) 0 rfl rfl ?_
              refine g_aload_n C (gd DX10_laysRests_1 15 rfl) 0 rfl rfl ?_
              refine g_getr (ci := 10) (k := 52) C rfl (by decide) rfl lf_TestJudgeModel_90 hm.1 (hm.2 52 23 12 16500 rfl).1 (gd DX10_laysRests_1 16 rfl) ?_
              refine g_iload C (gd DX10_laysRests_1 17 rfl) 4 rfl ?_
              refine g_iaj (j := i) C (hm.2 52 23 12 16500 rfl).2.1 (hm.2 52 23 12 16500 rfl).2.2 (by decide) rfl (by omega) (gd DX10_laysRests_1 18 rfl) ?_
              rw [hR5_23, q3]
              refine g_iload C (gd DX10_laysRests_1 19 rfl) 5 rfl ?_
              refine g_cV1 (ci := 10) C [_, _] mX10_usefulNext lm_TestJudgeModel_399 (by exact hm.1) rfl rfl (e_m_usefulNext (h := hR5 m h RO RS RF R.length) (by exact hm) (gk RO RS RF R.length).1 q1 (by omega : k < 24) (gk RO RS RF R.length).2.2) hfl (by decide) (by decide) (by omega) (by omega) rfl rfl (Nat.le_of_ble_eq_true rfl) (gd DX10_laysRests_1 20 rfl) ?_
              rw [un]
              refine g_iconst (v := -1) C (gd DX10_laysRests_1 21 rfl) (by decide) ?_
              refine g_icmp_eq C 171 (gd DX10_laysRests_1 22 rfl) (by decide) (fun c142 => ?_) (fun c142 => ?_)
              · refine g_iinc (lv' := [(0, _), (1, _), (2, _), (3, _), (4, _), (5, _)]) C (gd DX10_laysRests_1 38 rfl) 5 [1, 2, 3, 4, 5, 0] rfl rfl (by decide) rfl ?_
                refine g_goto (tgt := 121) C (gd DX10_laysRests_1 39 rfl) (by decide) ?_
                exact GW.cast (by rw [inc1]) rfl rfl (ihx (k + 1) RO RS RF R (by omega) hlt (by rw [show 24 * i + (k + 1) = (24 * i + k) + 1 by omega, rbfs, ← hR, rstep_none hq24 (by rw [hm24, rgo, if_pos c142])]) hI0)
              · rcases uNx_cases g0 q1 (by omega : k < 24) with e | ⟨t, ht, e, -, ut⟩
                · exact absurd e c142
                have hgo : rgo m h0 q.1 ((24 * i + k) % 24) = some t := by rw [hm24, rgo, if_neg c142, e, nI_clamp (by omega)]
                obtain ⟨c, hc, hct⟩ := cl t ht ut
                refine g_aload_n C (gd DX10_laysRests_1 23 rfl) 0 rfl rfl ?_
                refine g_aload_n C (gd DX10_laysRests_1 24 rfl) 0 rfl rfl ?_
                refine g_aload_n C (gd DX10_laysRests_1 25 rfl) 0 rfl rfl ?_
                refine g_getr (ci := 10) (k := 52) C rfl (by decide) rfl lf_TestJudgeModel_90 hm.1 (hm.2 52 23 12 16500 rfl).1 (gd DX10_laysRests_1 26 rfl) ?_
                refine g_iload C (gd DX10_laysRests_1 27 rfl) 4 rfl ?_
                refine g_iaj (j := i) C (hm.2 52 23 12 16500 rfl).2.1 (hm.2 52 23 12 16500 rfl).2.2 (by decide) rfl (by omega) (gd DX10_laysRests_1 28 rfl) ?_
                rw [hR5_23, q3]
                refine g_iload C (gd DX10_laysRests_1 29 rfl) 5 rfl ?_
                refine g_cV1 (ci := 10) C [_, _] mX10_usefulNext lm_TestJudgeModel_399 (by exact hm.1) rfl rfl (e_m_usefulNext (h := hR5 m h RO RS RF R.length) (by exact hm) (gk RO RS RF R.length).1 q1 (by omega : k < 24) (gk RO RS RF R.length).2.2) hfl (by decide) (by decide) (by omega) (by omega) rfl rfl (Nat.le_of_ble_eq_true rfl) (gd DX10_laysRests_1 30 rfl) ?_
                rw [un, e]
                refine g_aload_n C (gd DX10_laysRests_1 31 rfl) 0 rfl rfl ?_
                refine g_getr (ci := 10) (k := 53) C rfl (by decide) rfl lf_TestJudgeModel_93 hm.1 (hm.2 53 24 12 16500 rfl).1 (gd DX10_laysRests_1 32 rfl) ?_
                refine g_iload C (gd DX10_laysRests_1 33 rfl) 4 rfl ?_
                refine g_iaj (j := i) C (hm.2 53 24 12 16500 rfl).2.1 (hm.2 53 24 12 16500 rfl).2.2 (by decide) rfl (by omega) (gd DX10_laysRests_1 34 rfl) ?_
                rw [hR5_24, q4]
                refine g_iconst (v := 1) C (gd DX10_laysRests_1 35 rfl) (by decide) ?_
                refine g_iadd C (gd DX10_laysRests_1 36 rfl) ?_
                rw [nI_1]
                refine g_cV0 (v := .null) (ci := 10) C [_, _] mX10_meets lm_TestJudgeModel_460 (by exact hm.1) rfl rfl (e_m_meets (h := hR5 m h RO RS RF R.length) (s := t) (c := c) (q := R.length) (by exact hm) (by omega) (by rw [r20]; exact hct) (by omega) hR5_54 (by omega) (nI (q.2 + 1))) hfl (by decide) (by decide) (by omega) (by omega) rfl rfl (Nat.le_of_ble_eq_true rfl) (gd DX10_laysRests_1 37 rfl) ?_
                rw [hR5_22]
                have hB : ∀ p, p ∈ R → (Bis m h0 p.1 t ↔ C1 p.1 = nI c) := fun p hp => by
                  obtain ⟨j, hj⟩ := List.getElem?_of_mem hp
                  have hj2 := hI0.2.1 j p hj
                  rw [← hct]
                  exact (hr.2.2.2 p.1 t hj2.1 ht hj2.2.1 ut).symm
                by_cases hRO : RO c = -1
                · rw [if_pos hRO, hR5_new]
                  have hno : ¬ ∃ p, p ∈ R ∧ Bis m h0 p.1 t := by
                    rintro ⟨p, hp, hb⟩
                    rcases hI0.1 c hc with ⟨j, p', h1, h2, h3⟩ | ⟨_, h1⟩
                    · have := (List.getElem?_eq_some_iff.mp h1).1
                      exact absurd (h3.symm.trans hRO) (nI_m1 (by omega))
                    · exact h1 p hp ((hB p hp).mp hb)
                  refine g_iinc (lv' := [(0, _), (1, _), (2, _), (3, _), (4, _), (5, _)]) C (gd DX10_laysRests_1 38 rfl) 5 [1, 2, 3, 4, 5, 0] rfl rfl (by decide) rfl ?_
                  refine g_goto (tgt := 121) C (gd DX10_laysRests_1 39 rfl) (by decide) ?_
                  refine GW.cast (by rw [inc1]) rfl (by rw [List.length_append]; rfl) (ihx (k + 1) (upd RO c (nI R.length)) (upd RS R.length (nI t)) (upd RF R.length (nI (q.2 + 1))) (R ++ [(t, q.2 + 1)]) (by omega) (by rw [List.length_append]; omega) (by rw [show 24 * i + (k + 1) = (24 * i + k) + 1 by omega, rbfs, ← hR, rstep_new hq24 hgo hno]) (hI0.new (by omega) hlen ht ut hc hct hRO (by omega)))
                · rw [if_neg hRO]
                  have hyes : ∃ p, p ∈ R ∧ Bis m h0 p.1 t := by
                    rcases hI0.1 c hc with ⟨j, p', h1, h2, h3⟩ | ⟨h1, _⟩
                    · exact ⟨p', List.mem_of_getElem? h1, (hB p' (List.mem_of_getElem? h1)).mpr h2⟩
                    · exact absurd h1 hRO
                  refine g_iinc (lv' := [(0, _), (1, _), (2, _), (3, _), (4, _), (5, _)]) C (gd DX10_laysRests_1 38 rfl) 5 [1, 2, 3, 4, 5, 0] rfl rfl (by decide) rfl ?_
                  refine g_goto (tgt := 121) C (gd DX10_laysRests_1 39 rfl) (by decide) ?_
                  exact GW.cast (by rw [inc1]) rfl rfl (ihx (k + 1) RO RS RF R (by omega) hlt (by rw [show 24 * i + (k + 1) = (24 * i + k) + 1 by omega, rbfs, ← hR, rstep_old hq24 hgo hyes]) hI0)
        refine g_iconst (v := 0) C (gd DX10_laysRests_1 9 rfl) (by decide) ?_
        refine g_istore (lv' := [(0, _), (1, _), (2, _), (3, _), (4, _), (5, _)]) C (gd DX10_laysRests_1 10 rfl) [1, 2, 3, 4, 5, 0] (by decide) rfl ?_
        exact inner 24 0 RO RS RF R (by omega) hlt hR hI0
  have start : ∀ RO, (∀ c, c < rp.length → RO c = -1) → GW z w 6 (gQ z w 0 0 (fun r' h'' => r' = none ∧ P h'')) 0 0 90 [(0, .ref m), (1, .int v), (2, .int p2), (3, .int (nI rp.length)), (4, .int (nI rp.length))] [] (hR5 m h RO (hI h (m + 23)) (hI h (m + 24)) 0) := by
    intro RO hRO
    have hI0 : rI N rp.length (hI h0 (m + 13)) C1 RO (hI h (m + 23)) (hI h (m + 24)) [] := ⟨fun c hc => Or.inr ⟨hRO c hc, fun q hq => (List.not_mem_nil hq).elim⟩, fun i q hq => by simp at hq, fun i j q p hq => by simp at hq⟩
    refine g_aload_n C (gd DX10_laysRests_0 53 rfl) 0 rfl rfl ?_
    refine g_getr (ci := 10) (k := 41) C rfl (by decide) rfl lf_TestJudgeModel_59 hm.1 (hm.2 41 13 15 16500 rfl).1 (gd DX10_laysRests_0 54 rfl) ?_
    refine g_iconst (v := 0) C (gd DX10_laysRests_0 55 rfl) (by decide) ?_
    refine g_zaj (j := 0) C (hm.2 41 13 15 16500 rfl).2.1 (hm.2 41 13 15 16500 rfl).2.2 (by decide) rfl (by omega) (gd DX10_laysRests_0 56 rfl) ?_
    rw [hR5_row (by omega) (by omega) (by omega) (by omega), e13]
    refine g_if_ne C 100 (gd DX10_laysRests_0 57 rfl) (by decide) (fun c96 => ?_) (fun c96 => ?_)
    · obtain ⟨c, hc, hct⟩ := cl 0 hN1 c96
      refine g_aload_n C (gd DX10_laysRests_0 59 rfl) 0 rfl rfl ?_
      refine g_iconst (v := 0) C (gd DX10_laysRests_1 0 rfl) (by decide) ?_
      refine g_iconst (v := 0) C (gd DX10_laysRests_1 1 rfl) (by decide) ?_
      refine g_cV0 (v := .null) (ci := 10) C [_, _] mX10_meets lm_TestJudgeModel_460 (by exact hm.1) rfl rfl (e_m_meets (h := hR5 m h RO (hI h (m + 23)) (hI h (m + 24)) 0) (s := 0) (c := c) (q := 0) (by exact hm) (by omega) (by rw [r20]; exact hct) (by omega) hR5_54 (by omega) (nI 0)) hfl (by decide) (by decide) (by omega) (by omega) rfl rfl (Nat.le_of_ble_eq_true rfl) (gd DX10_laysRests_1 2 rfl) ?_
      rw [hR5_22, if_pos (hRO c hc), hR5_new]
      refine g_iconst (v := 0) C (gd DX10_laysRests_1 3 rfl) (by decide) ?_
      refine g_istore (lv' := [(0, _), (1, _), (2, _), (3, _), (4, _)]) C (gd DX10_laysRests_1 4 rfl) [1, 2, 3, 4, 0] (by decide) rfl ?_
      exact outer (N + 1) 0 _ _ _ [(0, 0)] (by omega) (by simp) rfl (hI0.new (by omega) (Nat.zero_le _) hN1 c96 hc hct (hRO c hc) (Nat.le_refl 0)) c96
    · exact g_vret C (by omega) (by omega) ⟨rfl, fin _ _ _ [] hI0 (fun _ => rfl) (fun q => absurd c96 q)⟩ (gd DX10_laysRests_0 58 rfl)
  have init : ∀ n k, k + n = rp.length → GW z w 6 (gQ z w 0 0 (fun r' h'' => r' = none ∧ P h'')) 0 0 65 [(0, .ref m), (1, .int v), (2, .int p2), (3, .int (nI rp.length)), (4, .int (nI k))] [] (sF h (m + 22) (preF (fun _ => -1) (hI h (m + 22)) k)) := by
    intro n
    induction n with
    | zero =>
      intro k hkn
      refine g_iload C (gd DX10_laysRests_0 40 rfl) 4 rfl ?_
      refine g_iload_n C (gd DX10_laysRests_0 41 rfl) 3 rfl rfl ?_
      refine g_icmp_ge C 85 (gd DX10_laysRests_0 42 rfl) (by decide) (fun c68 => ?_) (fun c68 => ?_)
      · refine g_aload_n C (gd DX10_laysRests_0 50 rfl) 0 rfl rfl ?_
        refine g_iconst (v := 0) C (gd DX10_laysRests_0 51 rfl) (by decide) ?_
        refine g_puti (ci := 10) (k := 54) C rfl (by decide) rfl lf_TestJudgeModel_457 hm.1 (Or.inl rfl) rfl (gd DX10_laysRests_0 52 rfl) ?_
        refine GW.cast (by rw [show k = rp.length by omega]) rfl ?_ (start (preF (fun _ => -1) (hI h (m + 22)) k) (fun c hc => preF_lt (by omega)))
        exact hR5_0 _ _ _
      · exact absurd (nI_le (a := rp.length) (b := k) (by omega) (by omega)) c68
    | succ n ih =>
      intro k hkn
      refine g_iload C (gd DX10_laysRests_0 40 rfl) 4 rfl ?_
      refine g_iload_n C (gd DX10_laysRests_0 41 rfl) 3 rfl rfl ?_
      refine g_icmp_ge C 85 (gd DX10_laysRests_0 42 rfl) (by decide) (fun c68 => ?_) (fun c68 => ?_)
      · exact absurd c68 (nI_ge (a := k) (b := rp.length) (by omega) (by omega))
      · refine g_aload_n C (gd DX10_laysRests_0 43 rfl) 0 rfl rfl ?_
        refine g_getr (ci := 10) (k := 51) C rfl (by decide) rfl lf_TestJudgeModel_87 hm.1 (hm.2 51 22 12 16500 rfl).1 (gd DX10_laysRests_0 44 rfl) ?_
        refine g_iload C (gd DX10_laysRests_0 45 rfl) 4 rfl ?_
        refine g_iconst (v := -1) C (gd DX10_laysRests_0 46 rfl) (by decide) ?_
        refine g_isj (j := k) C (hm.2 51 22 12 16500 rfl).2.1 (hm.2 51 22 12 16500 rfl).2.2 (by decide) rfl (by omega) (gd DX10_laysRests_0 47 rfl) ?_
        refine g_iinc (lv' := [(0, _), (1, _), (2, _), (3, _), (4, _)]) C (gd DX10_laysRests_0 48 rfl) 4 [1, 2, 3, 4, 0] rfl rfl (by decide) rfl ?_
        refine g_goto (tgt := 65) C (gd DX10_laysRests_0 49 rfl) (by decide) ?_
        exact GW.cast (by rw [inc1]) rfl (by rw [sI_sF_same, ← preF_s]) (ih (k + 1) (by omega))
  refine g_iconst (v := 0) C (gd DX10_laysRests_0 38 rfl) (by decide) ?_
  refine g_istore (lv' := [(0, _), (1, _), (2, _), (3, _), (4, _)]) C (gd DX10_laysRests_0 39 rfl) [1, 2, 3, 4, 0] (by decide) rfl ?_
  exact GW.cast rfl rfl (by rw [preF_0, sF_self]) (init rp.length 0 (by omega))
end M21
