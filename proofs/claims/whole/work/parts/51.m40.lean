/-! rests as a table; the calls rest, next, far, walk, step, walked -/
theorem rbfs_grow (go : Nat → Nat → Option Nat) (B : Nat → Nat → Prop) (e : Nat) : rbfs go B (e + 1) = rbfs go B e ∨ ∃ x, rbfs go B (e + 1) = rbfs go B e ++ [x] := by
  show rstep go B (rbfs go B e) e = _ ∨ _
  cases h1 : (rbfs go B e)[e / 24]? with
  | none => left; simp only [rstep, h1]
  | some q =>
    cases h2 : go q.1 (e % 24) with
    | none => exact Or.inl (rstep_none h1 h2)
    | some t =>
      rcases Classical.em (∃ p, p ∈ rbfs go B e ∧ B p.1 t) with h3 | h3
      · exact Or.inl (rstep_old h1 h2 h3)
      · exact Or.inr ⟨_, rstep_new h1 h2 h3⟩
theorem rbfs_stay {go : Nat → Nat → Option Nat} {B : Nat → Nat → Prop} {e j : Nat} {q : Nat × Nat} (h : (rbfs go B e)[j]? = some q) (d : Nat) : (rbfs go B (e + d))[j]? = some q := by
  induction d with
  | zero => exact h
  | succ d ih =>
    rw [show e + (d + 1) = (e + d) + 1 by omega]
    have hl : j < (rbfs go B (e + d)).length := (List.getElem?_eq_some_iff.mp ih).1
    rcases rbfs_grow go B (e + d) with q1 | ⟨k, q1⟩
    · rw [q1]; exact ih
    · rw [q1, List.getElem?_append_left hl]; exact ih
theorem rbfs_there {go : Nat → Nat → Option Nat} {B : Nat → Nat → Prop} {n i k : Nat} (h : (rbfs go B (24 * n)).length = n) (hi : i < n) (hk : k < 24) : ∃ q, (rbfs go B (24 * i + k))[i]? = some q := by
  cases hx : (rbfs go B (24 * i + k))[i]? with
  | some q => exact ⟨q, rfl⟩
  | none =>
    have hl : (rbfs go B (24 * i + k)).length ≤ i := List.getElem?_eq_none_iff.mp hx
    have fx : ∀ d, rbfs go B (24 * i + k + d) = rbfs go B (24 * i + k) := by
      intro d
      induction d with
      | zero => rfl
      | succ d ih =>
        show rstep go B (rbfs go B (24 * i + k + d)) (24 * i + k + d) = _
        rw [ih]
        have e : (rbfs go B (24 * i + k))[(24 * i + k + d) / 24]? = none := List.getElem?_eq_none (by omega)
        simp only [rstep, e]
    have := fx (24 * n - (24 * i + k))
    rw [show 24 * i + k + (24 * n - (24 * i + k)) = 24 * n by omega] at this
    rw [this] at h
    omega
theorem rbfs_closed {go : Nat → Nat → Option Nat} {B : Nat → Nat → Prop} {n i k t : Nat} {q : Nat × Nat} (h : (rbfs go B (24 * n)).length = n) (hq : (rbfs go B (24 * n))[i]? = some q) (hk : k < 24) (hg : go q.1 k = some t) (hB : B t t) : ∃ p, p ∈ rbfs go B (24 * n) ∧ B p.1 t := by
  have hi : i < n := by rw [← h]; exact (List.getElem?_eq_some_iff.mp hq).1
  obtain ⟨q', hq'⟩ := rbfs_there h hi hk
  have e1 : q' = q := by
    have := rbfs_stay hq' (24 * n - (24 * i + k))
    rw [show 24 * i + k + (24 * n - (24 * i + k)) = 24 * n by omega] at this
    exact Option.some.inj (this.symm.trans hq)
  subst e1
  have stay : ∀ p, p ∈ rbfs go B (24 * i + k + 1) → p ∈ rbfs go B (24 * n) := by
    intro p hp
    obtain ⟨a, ha⟩ := List.getElem?_of_mem hp
    have := rbfs_stay ha (24 * n - (24 * i + k + 1))
    rw [show 24 * i + k + 1 + (24 * n - (24 * i + k + 1)) = 24 * n by omega] at this
    exact List.mem_of_getElem? this
  have ed : (24 * i + k) / 24 = i := by omega
  have em : (24 * i + k) % 24 = k := by omega
  by_cases hx : ∃ p, p ∈ rbfs go B (24 * i + k) ∧ B p.1 t
  · obtain ⟨p, p1, p2⟩ := hx
    refine ⟨p, stay p ?_, p2⟩
    show p ∈ rstep go B (rbfs go B (24 * i + k)) (24 * i + k)
    rw [rstep_old (by rw [ed]; exact hq') (by rw [em]; exact hg) ⟨p, p1, p2⟩]
    exact p1
  · refine ⟨(t, q'.2 + 1), stay _ ?_, hB⟩
    show _ ∈ rstep go B (rbfs go B (24 * i + k)) (24 * i + k)
    rw [rstep_new (by rw [ed]; exact hq') (by rw [em]; exact hg) hx]
    exact List.mem_append.mpr (Or.inr (List.mem_cons.mpr (Or.inl rfl)))
/-- where rests go on -/
def tbl (m : Nat) (h : HS) (R : List (Nat × Nat)) (T : Nat → Nat → Int32) : Prop := ∀ (i : Nat) (q : Nat × Nat) (k : Nat), R[i]? = some q → k < 24 → (rgo m h q.1 k = none ∧ T i k = -1) ∨ ∃ (t j : Nat) (p : Nat × Nat), rgo m h q.1 k = some t ∧ R[j]? = some p ∧ Bis m h p.1 t ∧ T i k = nI j
/-- the table of a program's rests -/
def rsT (m : Nat) (h : HS) (nf r : Nat) (h1 : HS) (N : Nat) (R : List (Nat × Nat)) (T : Nat → Nat → Int32) : Prop := LDU (P1 m h nf r) m h1 N ∧ Rsp m h1 R ∧ R.length ≤ 16400 ∧ tbl m h1 R T ∧ ∀ (i : Nat) (q : Nat × Nat), R[i]? = some q → q.1 < N ∧ q.2 ≤ i
/-- the heap that holds it -/
def rsU (m : Nat) (h : HS) (h1 : HS) (N : Nat) (R : List (Nat × Nat)) (T : Nat → Nat → Int32) (h2 : HS) : Prop := mKp m h h2 ∧ GOk m h2 N ∧ hI h2 m 54 = nI R.length ∧ (∀ (i : Nat) (q : Nat × Nat), R[i]? = some q → hI h2 (m + 23) i = nI q.1 ∧ hI h2 (m + 24) i = nI q.2) ∧ hI h2 (m + 8) = hI h1 (m + 8) ∧ (∀ t, t < N → ¬ hI h2 (m + 13) t = 0 → ∃ c, c < 16500 ∧ hI h2 (m + 20) t = nI c) ∧ ∀ (i : Nat) (q : Nat × Nat) (k : Nat), R[i]? = some q → k < 24 → (if uNx m h2 (24 * q.1 + k) = -1 then -1 else hI h2 (m + 22) (hI h2 (m + 20) (uNx m h2 (24 * q.1 + k)).toNatClampNeg).toNatClampNeg) = T i k
theorem rs_use {m nf : Nat} {fw : Nat → Nat} {h h1 h2 : HS} (hF : mFa m h nf fw) {r wr N : Nat} (hr : r < 8) (lr : wr ≤ 6) (hwr : gRec (hI h (m + 1)) r 0 = nI wr) {R : List (Nat × Nat)} {C1 RO : Nat → Int32} (hp : rsP m h nf r h1 N R C1 RO h2) : ∃ T, rsT m h nf r h1 N R T ∧ rsU m h h1 N R T h2 := by
  have hkp := mKp_rs hp
  obtain ⟨hL, hU, hf, hrc, hb, hbL, rp, T0, CN, RS, RF, hrf, hri, hR0, hR1, rfl⟩ := hp
  have hl : layP m (hs92 m h) nf (hI h m 6) r 92 h1 := ⟨N, hL, hU, hf, hrc, fun b j hn => by rw [hb b j hn]; unfold hs92; rw [hI_sF_ne (fun e => hn (Or.inl e))], hbL⟩
  obtain ⟨N', hL', hk⟩ := lay_1 hF hr lr hwr hl
  have g := hL.gok
  have g' := hL'.1.gok
  have hN0 := g.1
  have hN0' := g'.1
  have eN : N = N' := (nI_eq (by omega) (by omega)).mp (g.2.1.symm.trans g'.2.1)
  subst eN
  generalize hh2 : hR5 m (hC3 m h1 T0 CN C1) RO RS RF R.length = h2
  have r7 : hI h2 (m + 7) = hI h1 (m + 7) := by rw [← hh2, hR5_row (by omega) (by omega) (by omega) (by omega), hC3_ne (by omega) (by omega) (by omega)]
  have r8 : hI h2 (m + 8) = hI h1 (m + 8) := by rw [← hh2, hR5_row (by omega) (by omega) (by omega) (by omega), hC3_ne (by omega) (by omega) (by omega)]
  have r13 : hI h2 (m + 13) = hI h1 (m + 13) := by rw [← hh2, hR5_row (by omega) (by omega) (by omega) (by omega), hC3_ne (by omega) (by omega) (by omega)]
  have r20 : hI h2 (m + 20) = C1 := by rw [← hh2, hR5_row (by omega) (by omega) (by omega) (by omega), hC3_20]
  have r22 : hI h2 (m + 22) = RO := by rw [← hh2, hR5_22]
  have r42 : hI h2 m 42 = hI h1 m 42 := by rw [← hh2, hR5_ne (by omega) (by omega) (by omega) (by omega), hC3_ne (by omega) (by omega) (by omega)]
  have ru : uNx m h2 = uNx m h1 := by funext e; unfold uNx; rw [r7, r13]
  have g2 : GOk m h2 N := g.congr r42 r7
  have hlen : R.length ≤ N := Nat.le_trans (hri.len (by have := hrf.1; omega) (fun s hs hu => by obtain ⟨i, x, x1, x2, -⟩ := hrf.2.1 s hs hu; exact ⟨i, (List.getElem?_eq_some_iff.mp x1).1, x2⟩)) hrf.1
  let T : Nat → Nat → Int32 := fun i k => match R[i]? with
    | none => -1
    | some q => if uNx m h1 (24 * q.1 + k) = -1 then -1 else RO (C1 (uNx m h1 (24 * q.1 + k)).toNatClampNeg).toNatClampNeg
  have hT : ∀ (i : Nat) (q : Nat × Nat) (k : Nat), R[i]? = some q → T i k = if uNx m h1 (24 * q.1 + k) = -1 then -1 else RO (C1 (uNx m h1 (24 * q.1 + k)).toNatClampNeg).toNatClampNeg := fun i q k hq => by simp only [T, hq]
  refine ⟨T, ⟨hL', ⟨hR0, hR1⟩, by omega, fun i q k hq hk => ?_, fun i q hq => ⟨(hri.2.1 i q hq).1, (hri.2.1 i q hq).2.2.2.2⟩⟩, ?_, g2, by rw [← hh2, hR5_54], fun i q hq => ?_, r8, fun t ht hu => ?_, fun i q k hq hk => ?_⟩
  · rw [hT i q k hq]
    have hq1 := (hri.2.1 i q hq).1
    rcases uNx_cases g hq1 hk with e | ⟨t, ht, e, -, hut⟩
    · left
      rw [if_pos e]
      exact ⟨by unfold rgo; rw [if_pos e], rfl⟩
    · right
      have hg : rgo m h1 q.1 k = some t := by unfold rgo; rw [e, if_neg (nI_m1 (by omega)), nI_clamp (by omega)]
      rw [e, if_neg (nI_m1 (by omega)), nI_clamp (by omega)]
      obtain ⟨c, x, x1, x2, -⟩ := hrf.2.1 t ht hut
      have hc := (List.getElem?_eq_some_iff.mp x1).1
      have hcl := hrf.1
      rw [x2, nI_clamp (by omega)]
      have u0 : ¬ hI h1 (m + 13) 0 = 0 := fun z => by rw [hR0 z] at hq; simp at hq
      have eR := hR1 u0
      have hcl2 := rbfs_closed (n := R.length) (by rw [← eR]) (by rw [← eR]; exact hq) hk hg (fun d => eqv.rf g d t ht)
      rw [← eR] at hcl2
      obtain ⟨p, p1, p2⟩ := hcl2
      obtain ⟨a, ha⟩ := List.getElem?_of_mem p1
      have hp1 := hri.2.1 a p ha
      have eC : C1 p.1 = nI c := by rw [← x2]; exact (hrf.2.2.2 p.1 t hp1.1 ht hp1.2.1 hut).mpr p2
      rcases hri.1 c hc with ⟨j, q', j1, j2, j3⟩ | ⟨-, j2⟩
      · have hq' := hri.2.1 j q' j1
        exact ⟨t, j, q', hg, j1, (hrf.2.2.2 q'.1 t hq'.1 ht hq'.2.1 hut).mp (by rw [j2, x2]), j3⟩
      · exact absurd eC (j2 p p1)
  · rw [← hh2]; exact hkp
  · rw [← hh2, hR5_23, hR5_24]
    exact ⟨(hri.2.1 i q hq).2.2.1, (hri.2.1 i q hq).2.2.2.1⟩
  · rw [r13] at hu
    rw [r20]
    obtain ⟨i, x, x1, x2, -⟩ := hrf.2.1 t ht hu
    have := (List.getElem?_eq_some_iff.mp x1).1
    have := hrf.1
    exact ⟨i, by omega, x2⟩
  · rw [hT i q k hq, ru, r20, r22]
/-- the walk as it stands -/
def mWk (m : Nat) (h : HS) (np nf : Nat) : Prop := hI h m 14 = -1 ∨ ∃ r j, r < np ∧ hI h m 14 = nI r ∧ hI h m 16 = nI j ∧ ∃ m1 h1 N R, LDr (P1 m h nf r) m1 h1 N ∧ Rsp m1 h1 R ∧ j < R.length
section M40
variable {w : gD} {m : Nat} {h : HS}
theorem r_laysRests {nt na np nf : Nat} {fw : Nat → Nat} (ok : mOK m h nt na np nf fw) {r : Nat} (hr : r < np) :
    Ev w 7 0 0 yX10_laysRests cX10_laysRests 6 none [.ref m, .int (nI r)] h (fun r' h' => r' = none ∧ ∃ h1 N R T, rsT m h nf r h1 N R T ∧ rsU m h h1 N R T h') := by
  obtain ⟨hm, hnt, hna, hnp, hF, hw⟩ := ok
  obtain ⟨wr, lr, hwr⟩ := hw r hr
  refine (e_m_laysRests hm hF hnt.1 hnt.2 (by omega : r < 8) lr hwr).to (fun r' h' hp => ?_)
  obtain ⟨e, h1, N, R, C1, RO, hrs⟩ := hp
  obtain ⟨T, a, b⟩ := rs_use hF (by omega : r < 8) lr hwr hrs
  exact ⟨e, h1, N, R, T, a, b⟩
theorem r_nextRest {nf r N : Nat} {h0 h1 : HS} {R : List (Nat × Nat)} {T : Nat → Nat → Int32} (hm : mSh m h) (t : rsT m h0 nf r h1 N R T) (u : rsU m h0 h1 N R T h) {i k : Nat} (hi : i < R.length) (hk : k < 24) {kk : Int32} (ek : kk = nI k) :
    EvF w 1 0 0 yX10_nextRest cX10_nextRest 4 (some .int) [.ref m, .int (nI i), .int kk] h (some (.int (T i k))) h := by
  obtain ⟨t1, t2, t3, t4, t5⟩ := t
  obtain ⟨u1, u2, u3, u4, u5, u6, u7⟩ := u
  obtain ⟨q, hq⟩ : ∃ q, R[i]? = some q := ⟨_, List.getElem?_eq_getElem hi⟩
  rw [ek, ← u7 i q k hq hk]
  exact e_m_nextRest hm u2 (by omega) (u4 i q hq).1 (t5 i q hq).1 hk u6
theorem e_m_rest {nt na np nf : Nat} {fw : Nat → Nat} (ok : mOK m h nt na np nf fw) (p k : Int32) :
    Ev w 8 0 0 yX10_rest cX10_rest 3 (some .int) [.ref m, .int p, .int k] h (fun r' h' => (¬ (0 ≤ p ∧ p ≤ nI np - 1) ∧ r' = some (.int (-1)) ∧ pQ m h h' 2) ∨ ∃ r, r < np ∧ p = nI r ∧ ∃ h1 N R T, rsT m h nf r h1 N R T ∧ ((∃ (i : Nat) (q : Nat × Nat), R[i]? = some q ∧ k = nI i ∧ r' = some (.int (hI h1 (m + 8) q.1)) ∧ pQ m h h' 0) ∨ (¬ (0 ≤ k ∧ k ≤ nI R.length - 1) ∧ r' = some (.int (-1)) ∧ pQ m h h' 5))) := by
  have ok0 := ok
  obtain ⟨hm, hnt, hna, hnp, hF, hw⟩ := ok
  refine g_start (by decide) (Nat.le_of_ble_eq_true rfl) [(0, _), (1, _), (2, _)] rfl (fun z hfl C => ?_)
  refine g_aload_n C (gd DX10_rest_0 0 rfl) 0 rfl rfl ?_
  refine g_iload_n C (gd DX10_rest_0 1 rfl) 1 rfl rfl ?_
  refine g_cV1 (ci := 10) C [_] mX10_isProgram lm_TestJudgeModel_116 (by exact hm.1) rfl rfl (e_m_isProgram hm _) hfl (by decide) (by decide) (by omega) (by omega) rfl rfl (Nat.le_of_ble_eq_true rfl) (gd DX10_rest_0 2 rfl) ?_
  rw [hnp.2]
  by_cases hp : 0 ≤ p ∧ p ≤ nI np - 1
  rotate_left
  · rw [b1_f hp]
    refine g_if_ne C 14 (gd DX10_rest_0 3 rfl) (by decide) (fun c5 => ?_) (fun c5 => ?_)
    · exact absurd rfl c5
    · refine g_aload_n C (gd DX10_rest_0 4 rfl) 0 rfl rfl ?_
      refine g_iconst (v := 2) C (gd DX10_rest_0 5 rfl) (by decide) ?_
      refine g_cV1 (ci := 10) C [_] mX10_refuse lm_TestJudgeModel_331 (by exact hm.1) rfl rfl (e_m_refuse hm _) hfl (by decide) (by decide) (by omega) (by omega) rfl rfl (Nat.le_of_ble_eq_true rfl) (gd DX10_rest_0 6 rfl) ?_
      exact g_iret C (by omega) (by omega) (Or.inl ⟨hp, rfl, (mKp.rf m h).q 2⟩) (gd DX10_rest_0 7 rfl)
  rw [b1_t hp]
  refine g_if_ne C 14 (gd DX10_rest_0 3 rfl) (by decide) (fun c5 => ?_) (fun c5 => ?_)
  rotate_left
  · exact absurd c5 (by decide)
  obtain ⟨r, hr, rfl⟩ := below_of (by omega) hp
  refine g_aload_n C (gd DX10_rest_0 8 rfl) 0 rfl rfl ?_
  refine g_iload_n C (gd DX10_rest_0 9 rfl) 1 rfl rfl ?_
  refine g_callV (ci := 10) C [_] mX10_laysRests lm_TestJudgeModel_463 (by exact hm.1) rfl rfl (r_laysRests ok0 hr) hfl (by decide) (by decide) (by omega) (by omega) rfl rfl (Nat.le_of_ble_eq_true rfl) (gd DX10_rest_0 10 rfl) (fun r h2 hp => ?_)
  obtain ⟨rfl, h1, N, R, T, ht, hu⟩ := hp
  have hm2 : mSh m h2 := hm.fr hu.1.1
  have hRl := ht.2.2.1
  have hN0 := hu.2.1.1
  show GW z w 3 _ 0 0 _ _ [] _
  refine g_aload_n C (gd DX10_rest_0 11 rfl) 0 rfl rfl ?_
  refine g_iload_n C (gd DX10_rest_0 12 rfl) 2 rfl rfl ?_
  refine g_cV1 (ci := 10) C [_] mX10_isRest lm_TestJudgeModel_466 (by exact hm2.1) rfl rfl (e_m_isRest hm2 _) hfl (by decide) (by decide) (by omega) (by omega) rfl rfl (Nat.le_of_ble_eq_true rfl) (gd DX10_rest_0 13 rfl) ?_
  rw [hu.2.2.1]
  by_cases hk : 0 ≤ k ∧ k ≤ nI R.length - 1
  · rw [b1_t hk]
    obtain ⟨i, hi, rfl⟩ := below_of (by omega) hk
    obtain ⟨q, hq⟩ : ∃ q, R[i]? = some q := ⟨_, List.getElem?_eq_getElem hi⟩
    have hq1 := (ht.2.2.2.2 i q hq).1
    refine g_if_eq C 45 (gd DX10_rest_0 14 rfl) (by decide) (fun c24 => ?_) (fun c24 => ?_)
    · exact absurd c24 (by decide)
    · refine g_aload_n C (gd DX10_rest_0 15 rfl) 0 rfl rfl ?_
      refine g_aload_n C (gd DX10_rest_0 16 rfl) 0 rfl rfl ?_
      refine g_getr (ci := 10) (k := 36) C rfl (by decide) rfl lf_TestJudgeModel_44 hm2.1 (hm2.2 36 8 12 16500 rfl).1 (gd DX10_rest_0 17 rfl) ?_
      refine g_aload_n C (gd DX10_rest_0 18 rfl) 0 rfl rfl ?_
      refine g_getr (ci := 10) (k := 52) C rfl (by decide) rfl lf_TestJudgeModel_90 hm2.1 (hm2.2 52 23 12 16500 rfl).1 (gd DX10_rest_0 19 rfl) ?_
      refine g_iload_n C (gd DX10_rest_0 20 rfl) 2 rfl rfl ?_
      refine g_iaj (j := i) C (hm2.2 52 23 12 16500 rfl).2.1 (hm2.2 52 23 12 16500 rfl).2.2 (by decide) rfl (by omega) (gd DX10_rest_0 21 rfl) ?_
      rw [(hu.2.2.2.1 i q hq).1]
      refine g_iaj (j := q.1) C (hm2.2 36 8 12 16500 rfl).2.1 (hm2.2 36 8 12 16500 rfl).2.2 (by decide) rfl (by omega) (gd DX10_rest_0 22 rfl) ?_
      rw [hu.2.2.2.2.1]
      refine g_cV1 (ci := 10) C [_] mX10_gives lm_TestJudgeModel_349 (by exact hm2.1) rfl rfl (e_m_gives hm2 _) hfl (by decide) (by decide) (by omega) (by omega) rfl rfl (Nat.le_of_ble_eq_true rfl) (gd DX10_rest_0 23 rfl) ?_
      refine g_goto (tgt := 50) C (gd DX10_rest_0 24 rfl) (by decide) ?_
      exact g_iret C (by omega) (by omega) (Or.inr ⟨r, hr, rfl, h1, N, R, T, ht, Or.inl ⟨i, q, hq, rfl, rfl, hu.1.q 0⟩⟩) (gd DX10_rest_0 28 rfl)
  · rw [b1_f hk]
    refine g_if_eq C 45 (gd DX10_rest_0 14 rfl) (by decide) (fun c24 => ?_) (fun c24 => ?_)
    · refine g_aload_n C (gd DX10_rest_0 25 rfl) 0 rfl rfl ?_
      refine g_iconst (v := 5) C (gd DX10_rest_0 26 rfl) (by decide) ?_
      refine g_cV1 (ci := 10) C [_] mX10_refuse lm_TestJudgeModel_331 (by exact hm2.1) rfl rfl (e_m_refuse hm2 _) hfl (by decide) (by decide) (by omega) (by omega) rfl rfl (Nat.le_of_ble_eq_true rfl) (gd DX10_rest_0 27 rfl) ?_
      exact g_iret C (by omega) (by omega) (Or.inr ⟨r, hr, rfl, h1, N, R, T, ht, Or.inr ⟨hk, rfl, hu.1.q 5⟩⟩) (gd DX10_rest_0 28 rfl)
    · exact absurd rfl c24
theorem e_m_far {nt na np nf : Nat} {fw : Nat → Nat} (ok : mOK m h nt na np nf fw) (p k : Int32) :
    Ev w 8 0 0 yX10_far cX10_far 3 (some .int) [.ref m, .int p, .int k] h (fun r' h' => (¬ (0 ≤ p ∧ p ≤ nI np - 1) ∧ r' = some (.int (-1)) ∧ pQ m h h' 2) ∨ ∃ r, r < np ∧ p = nI r ∧ ∃ h1 N R T, rsT m h nf r h1 N R T ∧ ((∃ (i : Nat) (q : Nat × Nat), R[i]? = some q ∧ k = nI i ∧ r' = some (.int (nI q.2)) ∧ pQ m h h' 0) ∨ (¬ (0 ≤ k ∧ k ≤ nI R.length - 1) ∧ r' = some (.int (-1)) ∧ pQ m h h' 5))) := by
  have ok0 := ok
  obtain ⟨hm, hnt, hna, hnp, hF, hw⟩ := ok
  refine g_start (by decide) (Nat.le_of_ble_eq_true rfl) [(0, _), (1, _), (2, _)] rfl (fun z hfl C => ?_)
  refine g_aload_n C (gd DX10_far_0 0 rfl) 0 rfl rfl ?_
  refine g_iload_n C (gd DX10_far_0 1 rfl) 1 rfl rfl ?_
  refine g_cV1 (ci := 10) C [_] mX10_isProgram lm_TestJudgeModel_116 (by exact hm.1) rfl rfl (e_m_isProgram hm _) hfl (by decide) (by decide) (by omega) (by omega) rfl rfl (Nat.le_of_ble_eq_true rfl) (gd DX10_far_0 2 rfl) ?_
  rw [hnp.2]
  by_cases hp : 0 ≤ p ∧ p ≤ nI np - 1
  rotate_left
  · rw [b1_f hp]
    refine g_if_ne C 14 (gd DX10_far_0 3 rfl) (by decide) (fun c5 => ?_) (fun c5 => ?_)
    · exact absurd rfl c5
    · refine g_aload_n C (gd DX10_far_0 4 rfl) 0 rfl rfl ?_
      refine g_iconst (v := 2) C (gd DX10_far_0 5 rfl) (by decide) ?_
      refine g_cV1 (ci := 10) C [_] mX10_refuse lm_TestJudgeModel_331 (by exact hm.1) rfl rfl (e_m_refuse hm _) hfl (by decide) (by decide) (by omega) (by omega) rfl rfl (Nat.le_of_ble_eq_true rfl) (gd DX10_far_0 6 rfl) ?_
      exact g_iret C (by omega) (by omega) (Or.inl ⟨hp, rfl, (mKp.rf m h).q 2⟩) (gd DX10_far_0 7 rfl)
  rw [b1_t hp]
  refine g_if_ne C 14 (gd DX10_far_0 3 rfl) (by decide) (fun c5 => ?_) (fun c5 => ?_)
  rotate_left
  · exact absurd c5 (by decide)
  obtain ⟨r, hr, rfl⟩ := below_of (by omega) hp
  refine g_aload_n C (gd DX10_far_0 8 rfl) 0 rfl rfl ?_
  refine g_iload_n C (gd DX10_far_0 9 rfl) 1 rfl rfl ?_
  refine g_callV (ci := 10) C [_] mX10_laysRests lm_TestJudgeModel_463 (by exact hm.1) rfl rfl (r_laysRests ok0 hr) hfl (by decide) (by decide) (by omega) (by omega) rfl rfl (Nat.le_of_ble_eq_true rfl) (gd DX10_far_0 10 rfl) (fun r h2 hp => ?_)
  obtain ⟨rfl, h1, N, R, T, ht, hu⟩ := hp
  have hm2 : mSh m h2 := hm.fr hu.1.1
  have hRl := ht.2.2.1
  show GW z w 3 _ 0 0 _ _ [] _
  refine g_aload_n C (gd DX10_far_0 11 rfl) 0 rfl rfl ?_
  refine g_iload_n C (gd DX10_far_0 12 rfl) 2 rfl rfl ?_
  refine g_cV1 (ci := 10) C [_] mX10_isRest lm_TestJudgeModel_466 (by exact hm2.1) rfl rfl (e_m_isRest hm2 _) hfl (by decide) (by decide) (by omega) (by omega) rfl rfl (Nat.le_of_ble_eq_true rfl) (gd DX10_far_0 13 rfl) ?_
  rw [hu.2.2.1]
  by_cases hk : 0 ≤ k ∧ k ≤ nI R.length - 1
  · rw [b1_t hk]
    obtain ⟨i, hi, rfl⟩ := below_of (by omega) hk
    obtain ⟨q, hq⟩ : ∃ q, R[i]? = some q := ⟨_, List.getElem?_eq_getElem hi⟩
    refine g_if_eq C 40 (gd DX10_far_0 14 rfl) (by decide) (fun c24 => ?_) (fun c24 => ?_)
    · exact absurd c24 (by decide)
    · refine g_aload_n C (gd DX10_far_0 15 rfl) 0 rfl rfl ?_
      refine g_aload_n C (gd DX10_far_0 16 rfl) 0 rfl rfl ?_
      refine g_getr (ci := 10) (k := 53) C rfl (by decide) rfl lf_TestJudgeModel_93 hm2.1 (hm2.2 53 24 12 16500 rfl).1 (gd DX10_far_0 17 rfl) ?_
      refine g_iload_n C (gd DX10_far_0 18 rfl) 2 rfl rfl ?_
      refine g_iaj (j := i) C (hm2.2 53 24 12 16500 rfl).2.1 (hm2.2 53 24 12 16500 rfl).2.2 (by decide) rfl (by omega) (gd DX10_far_0 19 rfl) ?_
      rw [(hu.2.2.2.1 i q hq).2]
      refine g_cV1 (ci := 10) C [_] mX10_gives lm_TestJudgeModel_349 (by exact hm2.1) rfl rfl (e_m_gives hm2 _) hfl (by decide) (by decide) (by omega) (by omega) rfl rfl (Nat.le_of_ble_eq_true rfl) (gd DX10_far_0 20 rfl) ?_
      refine g_goto (tgt := 45) C (gd DX10_far_0 21 rfl) (by decide) ?_
      exact g_iret C (by omega) (by omega) (Or.inr ⟨r, hr, rfl, h1, N, R, T, ht, Or.inl ⟨i, q, hq, rfl, rfl, hu.1.q 0⟩⟩) (gd DX10_far_0 25 rfl)
  · rw [b1_f hk]
    refine g_if_eq C 40 (gd DX10_far_0 14 rfl) (by decide) (fun c24 => ?_) (fun c24 => ?_)
    · refine g_aload_n C (gd DX10_far_0 22 rfl) 0 rfl rfl ?_
      refine g_iconst (v := 5) C (gd DX10_far_0 23 rfl) (by decide) ?_
      refine g_cV1 (ci := 10) C [_] mX10_refuse lm_TestJudgeModel_331 (by exact hm2.1) rfl rfl (e_m_refuse hm2 _) hfl (by decide) (by decide) (by omega) (by omega) rfl rfl (Nat.le_of_ble_eq_true rfl) (gd DX10_far_0 24 rfl) ?_
      exact g_iret C (by omega) (by omega) (Or.inr ⟨r, hr, rfl, h1, N, R, T, ht, Or.inr ⟨hk, rfl, hu.1.q 5⟩⟩) (gd DX10_far_0 25 rfl)
    · exact absurd rfl c24
/-- a letter's atom and act -/
theorem step_of {nt na : Nat} (ht : nt ≤ 3) (hna : na ≤ 3) {a c : Int32} (h : (0 ≤ a ∧ a ≤ atF (nI nt) - 1) ∧ (0 ≤ c ∧ c ≤ nI na - 1)) : ∃ x y, x < 8 ∧ y < 3 ∧ a = nI x ∧ c = nI y ∧ (3 : Int32) * a + c = nI (3 * x + y) := by
  rw [atF_n ht] at h
  have hp8 : 2 ^ nt ≤ 8 := by rcases (show nt = 0 ∨ nt = 1 ∨ nt = 2 ∨ nt = 3 by omega) with e | e | e | e <;> rw [e] <;> decide
  obtain ⟨x, hx, rfl⟩ := below_of (n := 2 ^ nt) (by omega) h.1
  obtain ⟨y, hy, rfl⟩ := below_of (n := na) (by omega) h.2
  exact ⟨x, y, by omega, by omega, rfl, rfl, nx_add (nx_mul (a := 3) rfl rfl) rfl⟩
theorem e_m_next_ {nt na np nf : Nat} {fw : Nat → Nat} (ok : mOK m h nt na np nf fw) (p k a c : Int32) :
    Ev w 8 0 0 yX10_next_ cX10_next_ 6 (some .int) [.ref m, .int p, .int k, .int a, .int c] h (fun r' h' => (¬ ((0 ≤ p ∧ p ≤ nI np - 1) ∧ ((0 ≤ a ∧ a ≤ atF (nI nt) - 1) ∧ (0 ≤ c ∧ c ≤ nI na - 1))) ∧ r' = some (.int (-1)) ∧ pQ m h h' 2) ∨ (((0 ≤ a ∧ a ≤ atF (nI nt) - 1) ∧ (0 ≤ c ∧ c ≤ nI na - 1)) ∧ ∃ r x y, r < np ∧ p = nI r ∧ x < 8 ∧ y < 3 ∧ a = nI x ∧ c = nI y ∧ ∃ h1 N R T v, rsT m h nf r h1 N R T ∧ ((∃ (i : Nat), i < R.length ∧ k = nI i ∧ v = T i (3 * x + y)) ∨ (¬ (0 ≤ k ∧ k ≤ nI R.length - 1) ∧ v = -1)) ∧ r' = some (.int v) ∧ pQ m h h' (if v = -1 then 5 else 0))) := by
  have ok0 := ok
  obtain ⟨hm, hnt, hna, hnp, hF, hw⟩ := ok
  refine g_start (by decide) (Nat.le_of_ble_eq_true rfl) [(0, _), (1, _), (2, _), (3, _), (4, _)] rfl (fun z hfl C => ?_)
  refine g_aload_n C (gd DX10_next__0 0 rfl) 0 rfl rfl ?_
  refine g_iload_n C (gd DX10_next__0 1 rfl) 1 rfl rfl ?_
  refine g_cV1 (ci := 10) C [_] mX10_isProgram lm_TestJudgeModel_116 (by exact hm.1) rfl rfl (e_m_isProgram hm _) hfl (by decide) (by decide) (by omega) (by omega) rfl rfl (Nat.le_of_ble_eq_true rfl) (gd DX10_next__0 2 rfl) ?_
  rw [hnp.2]
  by_cases hp : 0 ≤ p ∧ p ≤ nI np - 1
  rotate_left
  · rw [b1_f hp]
    refine g_if_eq C 18 (gd DX10_next__0 3 rfl) (by decide) (fun c5 => ?_) (fun c5 => ?_)
    · refine g_aload_n C (gd DX10_next__0 9 rfl) 0 rfl rfl ?_
      refine g_iconst (v := 2) C (gd DX10_next__0 10 rfl) (by decide) ?_
      refine g_cV1 (ci := 10) C [_] mX10_refuse lm_TestJudgeModel_331 (by exact hm.1) rfl rfl (e_m_refuse hm _) hfl (by decide) (by decide) (by omega) (by omega) rfl rfl (Nat.le_of_ble_eq_true rfl) (gd DX10_next__0 11 rfl) ?_
      exact g_iret C (by omega) (by omega) (Or.inl ⟨fun x => hp x.1, rfl, (mKp.rf m h).q 2⟩) (gd DX10_next__0 12 rfl)
    · exact absurd rfl c5
  rw [b1_t hp]
  refine g_if_eq C 18 (gd DX10_next__0 3 rfl) (by decide) (fun c5 => ?_) (fun c5 => ?_)
  · exact absurd c5 (by decide)
  refine g_aload_n C (gd DX10_next__0 4 rfl) 0 rfl rfl ?_
  refine g_iload_n C (gd DX10_next__0 5 rfl) 3 rfl rfl ?_
  refine g_iload C (gd DX10_next__0 6 rfl) 4 rfl ?_
  refine g_cV1 (ci := 10) C [_, _] mX10_isStep lm_TestJudgeModel_469 (by exact hm.1) rfl rfl (e_m_isStep hm _ _) hfl (by decide) (by decide) (by omega) (by omega) rfl rfl (Nat.le_of_ble_eq_true rfl) (gd DX10_next__0 7 rfl) ?_
  rw [hnt.2, hna.2]
  by_cases hs : (0 ≤ a ∧ a ≤ atF (nI nt) - 1) ∧ (0 ≤ c ∧ c ≤ nI na - 1)
  rotate_left
  · rw [b1_f hs]
    refine g_if_ne C 24 (gd DX10_next__0 8 rfl) (by decide) (fun c15 => ?_) (fun c15 => ?_)
    · exact absurd rfl c15
    · refine g_aload_n C (gd DX10_next__0 9 rfl) 0 rfl rfl ?_
      refine g_iconst (v := 2) C (gd DX10_next__0 10 rfl) (by decide) ?_
      refine g_cV1 (ci := 10) C [_] mX10_refuse lm_TestJudgeModel_331 (by exact hm.1) rfl rfl (e_m_refuse hm _) hfl (by decide) (by decide) (by omega) (by omega) rfl rfl (Nat.le_of_ble_eq_true rfl) (gd DX10_next__0 11 rfl) ?_
      exact g_iret C (by omega) (by omega) (Or.inl ⟨fun x => hs x.2, rfl, (mKp.rf m h).q 2⟩) (gd DX10_next__0 12 rfl)
  rw [b1_t hs]
  refine g_if_ne C 24 (gd DX10_next__0 8 rfl) (by decide) (fun c15 => ?_) (fun c15 => ?_)
  rotate_left
  · exact absurd c15 (by decide)
  obtain ⟨r, hr, rfl⟩ := below_of (by omega) hp
  obtain ⟨x, y, hx, hy, rfl, rfl, exy⟩ := step_of hnt.1 hna.1 hs
  refine g_aload_n C (gd DX10_next__0 13 rfl) 0 rfl rfl ?_
  refine g_iload_n C (gd DX10_next__0 14 rfl) 1 rfl rfl ?_
  refine g_callV (ci := 10) C [_] mX10_laysRests lm_TestJudgeModel_463 (by exact hm.1) rfl rfl (r_laysRests ok0 hr) hfl (by decide) (by decide) (by omega) (by omega) rfl rfl (Nat.le_of_ble_eq_true rfl) (gd DX10_next__0 15 rfl) (fun r h2 hp => ?_)
  obtain ⟨rfl, h1, N, R, T, ht, hu⟩ := hp
  have hm2 : mSh m h2 := hm.fr hu.1.1
  have hRl := ht.2.2.1
  show GW z w 6 _ 0 0 _ _ [] _
  generalize hQ : (gQ z w 0 0 _) = Q
  have fin : ∀ v : Int32, ((∃ (i : Nat), i < R.length ∧ k = nI i ∧ v = T i (3 * x + y)) ∨ (¬ (0 ≤ k ∧ k ≤ nI R.length - 1) ∧ v = -1)) → GW z w 6 Q 0 0 52 [(0, .ref m), (1, .int (nI r)), (2, .int k), (3, .int (nI x)), (4, .int (nI y))] [.int v] h2 := by
    intro v hv
    refine g_istore (lv' := [(0, _), (1, _), (2, _), (3, _), (4, _), (5, _)]) C (gd DX10_next__0 30 rfl) [1, 2, 3, 4, 5, 0] (by decide) rfl ?_
    refine g_iload C (gd DX10_next__0 31 rfl) 5 rfl ?_
    refine g_iconst (v := -1) C (gd DX10_next__0 32 rfl) (by decide) ?_
    refine g_icmp_ne C 68 (gd DX10_next__0 33 rfl) (by decide) (fun c57 => ?_) (fun c57 => ?_)
    · refine g_aload_n C (gd DX10_next__0 38 rfl) 0 rfl rfl ?_
      refine g_iload C (gd DX10_next__0 39 rfl) 5 rfl ?_
      refine g_cV1 (ci := 10) C [_] mX10_gives lm_TestJudgeModel_349 (by exact hm2.1) rfl rfl (e_m_gives hm2 _) hfl (by decide) (by decide) (by omega) (by omega) rfl rfl (Nat.le_of_ble_eq_true rfl) (gd DX10_next__0 40 rfl) ?_
      rw [← hQ]
      exact g_iret C (by omega) (by omega) (Or.inr ⟨hs, r, x, y, hr, rfl, hx, hy, rfl, rfl, h1, N, R, T, v, ht, hv, rfl, by rw [if_neg c57]; exact hu.1.q 0⟩) (gd DX10_next__0 41 rfl)
    · refine g_aload_n C (gd DX10_next__0 34 rfl) 0 rfl rfl ?_
      refine g_iconst (v := 5) C (gd DX10_next__0 35 rfl) (by decide) ?_
      refine g_cV1 (ci := 10) C [_] mX10_refuse lm_TestJudgeModel_331 (by exact hm2.1) rfl rfl (e_m_refuse hm2 _) hfl (by decide) (by decide) (by omega) (by omega) rfl rfl (Nat.le_of_ble_eq_true rfl) (gd DX10_next__0 36 rfl) ?_
      refine g_goto (tgt := 74) C (gd DX10_next__0 37 rfl) (by decide) ?_
      rw [← hQ]
      exact g_iret C (by omega) (by omega) (Or.inr ⟨hs, r, x, y, hr, rfl, hx, hy, rfl, rfl, h1, N, R, T, v, ht, hv, by rw [c57], by rw [if_pos c57]; exact hu.1.q 5⟩) (gd DX10_next__0 41 rfl)
  refine g_aload_n C (gd DX10_next__0 16 rfl) 0 rfl rfl ?_
  refine g_iload_n C (gd DX10_next__0 17 rfl) 2 rfl rfl ?_
  refine g_cV1 (ci := 10) C [_] mX10_isRest lm_TestJudgeModel_466 (by exact hm2.1) rfl rfl (e_m_isRest hm2 _) hfl (by decide) (by decide) (by omega) (by omega) rfl rfl (Nat.le_of_ble_eq_true rfl) (gd DX10_next__0 18 rfl) ?_
  rw [hu.2.2.1]
  by_cases hk : 0 ≤ k ∧ k ≤ nI R.length - 1
  · rw [b1_t hk]
    obtain ⟨i, hi, rfl⟩ := below_of (by omega) hk
    refine g_if_eq C 51 (gd DX10_next__0 19 rfl) (by decide) (fun c34 => ?_) (fun c34 => ?_)
    · exact absurd c34 (by decide)
    · refine g_aload_n C (gd DX10_next__0 20 rfl) 0 rfl rfl ?_
      refine g_iload_n C (gd DX10_next__0 21 rfl) 2 rfl rfl ?_
      refine g_iconst (v := 3) C (gd DX10_next__0 22 rfl) (by decide) ?_
      refine g_iload_n C (gd DX10_next__0 23 rfl) 3 rfl rfl ?_
      refine g_imul C (gd DX10_next__0 24 rfl) ?_
      refine g_iload C (gd DX10_next__0 25 rfl) 4 rfl ?_
      refine g_iadd C (gd DX10_next__0 26 rfl) ?_
      refine g_cV1 (ci := 10) C [_, _] mX10_nextRest lm_TestJudgeModel_472 (by exact hm2.1) rfl rfl (r_nextRest hm2 ht hu hi (by omega : 3 * x + y < 24) exy) hfl (by decide) (by decide) (by omega) (by omega) rfl rfl (Nat.le_of_ble_eq_true rfl) (gd DX10_next__0 27 rfl) ?_
      refine g_goto (tgt := 52) C (gd DX10_next__0 28 rfl) (by decide) ?_
      exact fin _ (Or.inl ⟨i, hi, rfl, rfl⟩)
  · rw [b1_f hk]
    refine g_if_eq C 51 (gd DX10_next__0 19 rfl) (by decide) (fun c34 => ?_) (fun c34 => ?_)
    · refine g_iconst (v := -1) C (gd DX10_next__0 29 rfl) (by decide) ?_
      exact fin _ (Or.inr ⟨hk, rfl⟩)
    · exact absurd rfl c34
end M40
