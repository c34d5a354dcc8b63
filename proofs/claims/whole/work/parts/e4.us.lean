/-! uses: agreement, and the reference's in these words -/
section US
variable {w : gD} {m N : Nat} {h h' : HS} {ρ : Nat → Nat → Int32} {V : aV} {M : aM} {s0 : Nat} {R0 : Nat → Int32}
theorem usU_has {ux : Nat → Int32} {b : Nat} (hb : b < 32) : ∀ e, hasB (usU ux e) (nI b) ↔ ∃ i, i < e ∧ ¬ ux i = -1 ∧ i % 24 % 3 = b
  | 0 => ⟨fun q => absurd q (hasB_0 hb), fun q => by obtain ⟨i, q, -⟩ := q; omega⟩
  | e + 1 => by
    have ih := usU_has (ux := ux) hb e
    rw [usU]
    by_cases c : ux e = -1
    · rw [if_pos c, ih]
      constructor
      · rintro ⟨i, i1, i2⟩; exact ⟨i, by omega, i2⟩
      · rintro ⟨i, i1, i2, i3⟩
        by_cases z : i = e
        · subst z; exact absurd c i2
        · exact ⟨i, by omega, i2, i3⟩
    · rw [if_neg c, hasB_or hb, ih, hasB_one (by omega) hb]
      constructor
      · intro q
        rcases q with ⟨i, i1, i2⟩ | q
        · exact ⟨i, by omega, i2⟩
        · exact ⟨e, by omega, c, q.symm⟩
      · rintro ⟨i, i1, i2, i3⟩
        by_cases z : i = e
        · subst z; exact Or.inr i3.symm
        · exact Or.inl ⟨i, by omega, i2, i3⟩
theorem auF_has {Tg : Nat → Int32} {b : Nat} (hb : b < 32) : ∀ e, hasB (auF Tg e) (nI b) ↔ ∃ i, i < e ∧ ¬ Tg i = -1 ∧ i % 3 = b
  | 0 => ⟨fun q => absurd q (hasB_0 hb), fun q => by obtain ⟨i, q, -⟩ := q; omega⟩
  | e + 1 => by
    have ih := auF_has (Tg := Tg) hb e
    rw [auF, hasB_or hb, ih]
    by_cases c : Tg e = -1
    · rw [if_pos c]
      constructor
      · intro q
        rcases q with ⟨i, i1, i2⟩ | q
        · exact ⟨i, by omega, i2⟩
        · exact absurd q (hasB_0 hb)
      · rintro ⟨i, i1, i2, i3⟩
        by_cases z : i = e
        · subst z; exact absurd c i2
        · exact Or.inl ⟨i, by omega, i2, i3⟩
    · rw [if_neg c, hasB_one (by omega) hb]
      constructor
      · intro q
        rcases q with ⟨i, i1, i2⟩ | q
        · exact ⟨i, by omega, i2⟩
        · exact ⟨e, by omega, c, q.symm⟩
      · rintro ⟨i, i1, i2, i3⟩
        by_cases z : i = e
        · subst z; exact Or.inr i3.symm
        · exact Or.inl ⟨i, by omega, i2, i3⟩
theorem usE_has {en : Nat → Int32} {b : Nat} (hb : b < 32) : ∀ n, hasB (usE en n) (nI b) ↔ ∃ s, s < n ∧ hasB (en s) (nI b)
  | 0 => ⟨fun q => absurd q (hasB_0 hb), fun q => by obtain ⟨i, q, -⟩ := q; omega⟩
  | n + 1 => by
    rw [usE, hasB_or hb, usE_has hb n]
    constructor
    · intro q
      rcases q with ⟨s, s1, s2⟩ | q
      · exact ⟨s, by omega, s2⟩
      · exact ⟨n, by omega, q⟩
    · rintro ⟨s, s1, s2⟩
      by_cases z : s = n
      · subst z; exact Or.inr s2
      · exact Or.inl ⟨s, by omega, s2⟩
theorem usB_has {ux : Nat → Int32} {e0 : Int32} {b : Nat} (hb : b < 32) : ∀ e, hasB (usB ux e0 e) (nI b) ↔ hasB e0 (nI b) ∨ ∃ i, i < e ∧ i < 24 ∧ ¬ ux i = -1 ∧ i / 3 = b
  | 0 => ⟨Or.inl, fun q => by rcases q with q | ⟨i, q, -⟩; exact q; omega⟩
  | e + 1 => by
    have ih := usB_has (ux := ux) (e0 := e0) hb e
    rw [usB]
    by_cases c : ux e = -1
    · rw [if_pos c, ih]
      constructor
      · intro q
        rcases q with q | ⟨i, i1, i2⟩
        · exact Or.inl q
        · exact Or.inr ⟨i, by omega, i2⟩
      · intro q
        rcases q with q | ⟨i, i1, i2, i3, i4⟩
        · exact Or.inl q
        · by_cases z : i = e
          · subst z; exact absurd c i3
          · exact Or.inr ⟨i, by omega, i2, i3, i4⟩
    · rw [if_neg c, hasB_or hb, ih]
      by_cases d : e / 24 = 0
      · rw [if_pos d, hasB_one (by omega) hb]
        constructor
        · intro q
          rcases q with (q | ⟨i, i1, i2⟩) | q
          · exact Or.inl q
          · exact Or.inr ⟨i, by omega, i2⟩
          · exact Or.inr ⟨e, by omega, by omega, c, by omega⟩
        · intro q
          rcases q with q | ⟨i, i1, i2, i3, i4⟩
          · exact Or.inl (Or.inl q)
          · by_cases z : i = e
            · subst z; exact Or.inr (by omega)
            · exact Or.inl (Or.inr ⟨i, by omega, i2, i3, i4⟩)
      · rw [if_neg d]
        constructor
        · intro q
          rcases q with (q | ⟨i, i1, i2⟩) | q
          · exact Or.inl q
          · exact Or.inr ⟨i, by omega, i2⟩
          · exact absurd q (hasB_0 hb)
        · intro q
          rcases q with q | ⟨i, i1, i2, i3, i4⟩
          · exact Or.inl (Or.inl q)
          · by_cases z : i = e
            · subst z; omega
            · exact Or.inl (Or.inr ⟨i, by omega, i2, i3, i4⟩)
theorem bgF_has {b : Nat} (hb : b < 32) : ∀ c, c ≤ 8 → (hasB (bgF ρ c) (nI b) ↔ b < c ∧ ¬ efA ρ (1 <<< (nI b &&& 31)) = 0)
  | 0, _ => ⟨fun q => absurd q (hasB_0 hb), fun q => absurd q.1 (Nat.not_lt_zero _)⟩
  | c + 1, hc => by
    rw [bgF, hasB_or hb, bgF_has hb c (by omega)]
    by_cases z : efA ρ (1 <<< (nI c &&& 31)) = 0
    · rw [if_pos z]
      constructor
      · intro q
        rcases q with ⟨q1, q2⟩ | q
        · exact ⟨by omega, q2⟩
        · exact absurd q (hasB_0 hb)
      · rintro ⟨q1, q2⟩
        by_cases e : b = c
        · subst e; exact absurd z q2
        · exact Or.inl ⟨by omega, q2⟩
    · rw [if_neg z, hasB_one (by omega) hb]
      constructor
      · intro q
        rcases q with ⟨q1, q2⟩ | q
        · exact ⟨by omega, q2⟩
        · subst q; exact ⟨by omega, z⟩
      · rintro ⟨q1, q2⟩
        by_cases e : b = c
        · exact Or.inr e
        · exact Or.inl ⟨by omega, q2⟩
/-- a useful next state, said of the row -/
theorem uNx_iff (l : LDr (vP1 V s0 R0) m h N) {e : Nat} (he : e < 24 * N) : ¬ uNx m h e = -1 ↔ ∃ j, j < N ∧ uNx m h e = nI j ∧ hI h (m + 7) e = nI j ∧ ¬ hI h (m + 13) j = 0 := by
  have l1 := l.1
  constructor
  · intro c
    rcases l.go e he with x | ⟨i, hi, x⟩
    · exact absurd (by unfold uNx; rw [if_pos x]) c
    · have un : uNx m h e = nI i ∧ ¬ hI h (m + 13) i = 0 := by
        unfold uNx at c ⊢
        rw [x, if_neg (nI_neg1 (by omega)), nI_clamp (by omega)] at c ⊢
        by_cases c2 : hI h (m + 13) i = 0
        · rw [if_pos c2] at c; exact absurd rfl c
        · rw [if_neg c2]; exact ⟨rfl, c2⟩
      exact ⟨i, hi, un.1, x, un.2⟩
  · rintro ⟨j, j1, j2, -⟩ q
    rw [j2] at q
    exact nI_neg1 (by omega) q
def sUse (k : Int32) (m : Nat) (h : HS) (N : Nat) (v st : Int32) : Prop := v = (if k = 0 then usB (uNx m h) (hI h (m + 8) 0) (24 * N) else if k = 1 then usE (hI h (m + 8)) N else usU (uNx m h) (24 * N)) ∧ st = 0
theorem ag_use (hV : vOK V) {r : Nat} {k : Int32} : ag2 (tbQ V (fUse k) r) (smQ V (sUse k) r) := ag2.sm (fun ρ m h N o l v st v2 st2 a b => by
  have l1 := l.1
  have l0 := l.2.1
  obtain ⟨n, tn, rfl, rfl⟩ := a
  obtain ⟨rfl, rfl⟩ := b
  obtain ⟨R, tR', tb, bd, z0, r0, re⟩ := tb_states o l
  have en : n = R.length := (nI_eq (by have := tn.1; omega) (by have := tR'.1; omega)).mp (tn.2.1.symm.trans tR'.2.1)
  subst en
  have bd' : ∀ (i : Nat) (q : Nat × Nat), R[i]? = some q → q.1 < N := fun i q hq => (bd i q hq).1
  have n125 := tn.1
  refine ⟨?_, rfl⟩
  by_cases k0 : k = 0
  · rw [if_pos k0, if_pos k0]
    refine hasB_ext fun b hb => ?_
    rw [bgF_has hb 8 (by omega), usB_has hb]
    have ex : (¬ efA ρ (1 <<< (nI b &&& 31)) = 0) ↔ ∃ x, x < 32 ∧ eA m h (1 <<< (nI b &&& 31)) x := by
      constructor
      · intro q
        obtain ⟨x, hx, hx2⟩ := bit_ex (v := efA ρ (1 <<< (nI b &&& 31))) q
        exact ⟨x, hx, (efA_has o l _ hx).mp hx2⟩
      · rintro ⟨x, hx, q⟩
        exact hasB_ne hx ((efA_has o l _ hx).mpr q)
    rw [ex]
    constructor
    · rintro ⟨b8, x, hx, q⟩
      rcases q with ⟨q1, q2⟩ | ⟨i, j, i1, i2, i3, i4, d, i5⟩
      · rw [hasB_one hb hx] at q2
        subst q2
        exact Or.inl q1
      · right
        rw [hasB_one hb (by omega)] at i2
        have i3' : hI h (m + 7) (24 * 0 + i) = nI j := by rw [show 24 * 0 + i = i by omega]; exact i3
        have jl := l.jlt l0 i1 i4 i3'
        have ju := l.us hx jl i5
        have un := uNx_of i4 i3' ju
        rw [show 24 * 0 + i = i by omega] at un
        exact ⟨i, by omega, i1, by rw [un]; exact nI_neg1 (by omega), i2⟩
    · intro q
      rcases q with q | ⟨i, i1, i2, i3, i4⟩
      · have t0 : (bfs (kSc (vP1 V (vS V) (vPR V r))) (24 * N))[0]? = some (BEG, 0) := by
          have e : (bfs (kSc (vP1 V (vS V) (vPR V r))) 0)[0]? = some (BEG, 0) := rfl
          have st := bfs_stay e (24 * N)
          rw [Nat.zero_add] at st
          exact st
        have q' := q
        rw [(l.2.2.2.2.1 0 _ t0).1] at q'
        unfold kE1 kGd at q'
        rw [hasB_and hb, hasB_and hb] at q'
        have lt := allF_lt _ hV.1.1 b hb q'.2.1
        have hnt := hV.1.1
        have hp2 : 2 ^ vNt V ≤ 8 := by rcases (show vNt V = 0 ∨ vNt V = 1 ∨ vNt V = 2 ∨ vNt V = 3 by omega) with e | e | e | e <;> rw [e] <;> decide
        exact ⟨by omega, b, hb, Or.inl ⟨q, (hasB_one hb hb).mpr rfl⟩⟩
      · obtain ⟨j, j1, j2, j3, j4⟩ := (uNx_iff l (by omega)).mp i3
        obtain ⟨x, d, x1, x2⟩ := l.us_ex j1 j4
        exact ⟨by omega, x, x1, Or.inr ⟨i, j, i2, (hasB_one hb (by omega)).mpr i4, j3, by omega, d, x2⟩⟩
  rw [if_neg k0, if_neg k0]
  have n0z : ∀ {L s : Nat}, s < N → rp N (hI h (m + 7)) L s → ¬ hI h (m + 13) s = 0 → 0 < R.length := fun {L s} hs q u => by
    have u0 := l.us_0 L s hs q u
    have : R.length ≠ 0 := fun e => u0 (z0.mp e)
    omega
  by_cases k1 : k = 1
  · rw [if_pos k1, if_pos k1]
    refine hasB_ext fun b hb => ?_
    rw [usE_has hb]
    have up : ∀ L s x, s < N → rp N (hI h (m + 7)) L s → sre (hI h (m + 7)) (hI h (m + 8)) b x s → ∃ y, sre (hI h (m + 7)) (hI h (m + 8)) b y 0 := by
      intro L
      induction L with
      | zero => intro s x _ e q; rw [show s = 0 from e] at q; exact ⟨x, q⟩
      | succ L ih =>
        intro s x hs q e
        obtain ⟨t, y, ht, hy, g, q⟩ := q
        exact ih t (x + 1) ht q (Or.inr ⟨y, s, hy, g, by omega, e⟩)
    have down : ∀ x s, s < N → sre (hI h (m + 7)) (hI h (m + 8)) b x s → ∃ t, t < N ∧ hasB (hI h (m + 8) t) (nI b) := by
      intro x
      induction x with
      | zero => intro s hs q; exact ⟨s, hs, q⟩
      | succ x ih =>
        intro s hs q
        rcases q with q | ⟨y, j, y1, y2, y3, y4⟩
        · exact ih s hs q
        · exact ih j (l.jlt hs y1 y3 y2) y4
    by_cases z : R.length = 0
    · rw [if_pos (by rw [tn.2.1, z]; rfl)]
      refine ⟨fun q => absurd q (hasB_0 hb), fun q => ?_⟩
      exfalso
      obtain ⟨s, s1, s2⟩ := q
      obtain ⟨L, hL⟩ := l.rea s s1
      have := n0z s1 hL (l.us hb s1 (d := 0) s2)
      omega
    · have z1 : ¬ ρ 0 0 = 0 := fun e => z ((nI_eq (b := 0) (by omega) (by omega)).mp (tn.2.1.symm.trans e))
      rw [if_neg z1, re 0 (by omega) b hb]
      obtain ⟨q0, hq0⟩ : ∃ q, R[0]? = some q := ⟨_, List.getElem?_eq_getElem (by omega)⟩
      have ts := fun d => tre_sre l tb bd' n125 hb (Tg := ρ 3) (EN := ρ 1) (fun i k _ _ => rfl) (fun i q hq => (bd i q hq).2) d 0 q0 hq0
      rw [r0 q0 hq0] at ts
      constructor
      · rintro ⟨d, q⟩
        exact down d 0 l0 ((ts d).mp q)
      · rintro ⟨s, s1, s2⟩
        obtain ⟨L, hL⟩ := l.rea s s1
        obtain ⟨y, hy⟩ := up L s 0 s1 hL s2
        exact ⟨y, (ts y).mpr hy⟩
  · rw [if_neg k1, if_neg k1]
    refine hasB_ext fun b hb => ?_
    rw [auF_has hb, usU_has hb]
    constructor
    · rintro ⟨i, i1, i2, i3⟩
      obtain ⟨q, hq⟩ : ∃ q, R[i / 24]? = some q := ⟨_, List.getElem?_eq_getElem (by omega)⟩
      have ql := bd' _ q hq
      rcases tb (i / 24) q (i % 24) hq (Nat.mod_lt _ (by omega)) with ⟨-, e⟩ | ⟨a, j, p, a1, -⟩
      · have e' : ρ 3 (24 * (i / 24) + i % 24) = -1 := e
        rw [show 24 * (i / 24) + i % 24 = i by omega] at e'
        exact absurd e' i2
      · obtain ⟨al, ag, au⟩ := l.rgx ql (Nat.mod_lt _ (by omega)) a1
        have un := uNx_of (by omega) ag au
        exact ⟨24 * q.1 + i % 24, by omega, by rw [un]; exact nI_neg1 (by omega), by omega⟩
    · rintro ⟨e, e1, e2, e3⟩
      obtain ⟨j, j1, j2, j3, j4⟩ := (uNx_iff l e1).mp e2
      have sl : e / 24 < N := by omega
      have ee : 24 * (e / 24) + e % 24 = e := by omega
      have su := l.us_bk sl (Nat.mod_lt e (by omega) : e % 24 < 24) j1 (by rw [ee]; exact j3) j4
      obtain ⟨L, hL⟩ := l.rea _ sl
      have n0 := n0z sl hL su
      obtain ⟨i, q, -, hq, bs⟩ := rp_wk l n125 tb bd' r0 n0 L _ sl hL su
      have ql := bd' i q hq
      obtain ⟨c, c1, c2, -⟩ := l.bis_go (j := j) (bis_sy bs) ql (Nat.mod_lt e (by omega) : e % 24 < 24) (by omega) (by rw [ee]; exact j2)
      have rg := rgo_of (by omega) c2
      have li := (List.getElem?_eq_some_iff.mp hq).1
      rcases tb i q (e % 24) hq (Nat.mod_lt _ (by omega)) with ⟨a1, -⟩ | ⟨a, j', p', a1, a2, a3, a4⟩
      · rw [rg] at a1; cases a1
      · have a4' : ρ 3 (24 * i + e % 24) = nI j' := a4
        have lj := (List.getElem?_eq_some_iff.mp a2).1
        exact ⟨24 * i + e % 24, by omega, by rw [a4']; exact nI_neg1 (by omega), by omega⟩)
theorem b_m_uses (v : MV m h V M) (p k : Int32) : Ev w 7 0 0 yX10_uses cX10_uses 8 (some .int) [.ref m, .int p, .int k] h (bQ m (qQ V M (gat (0 ≤ k ∧ k ≤ 2) 1 (one (vNp V) p (smQ V (sUse k)))))) := by
  obtain ⟨fw, ⟨v1, v2, v3⟩, -⟩ := id v
  refine Ev.to (e_m_uses v1 p k) (fun r' h' hp => ?_)
  rcases hp with ⟨n, hr, pq⟩ | ⟨c, n, hr, pq⟩ | ⟨c, r, hr, rfl, h1, N, l, hv, pq⟩
  · exact bQ.q v hr pq (Or.inl ⟨n, rfl, rfl⟩)
  · exact bQ.q v hr pq (Or.inr ⟨c, Or.inl ⟨n, rfl, rfl⟩⟩)
  · rw [v.p1 hr] at l
    exact bQ.q v hv pq (Or.inr ⟨c, Or.inr ⟨r, hr, rfl, m, h1, N, l.r, rfl, rfl⟩⟩)
end US
