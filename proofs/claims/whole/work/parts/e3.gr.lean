/-! greatest: agreement, and the reference's in these words -/
section GR
variable {w : gD} {m N : Nat} {h h' : HS} {ρ : Nat → Nat → Int32} {V : aV} {M : aM} {s0 : Nat} {R0 : Nat → Int32}
/-- a walk over rests is a way over useful states -/
theorem wk_rp (l : LDr (vP1 V s0 R0) m h N) {R : List (Nat × Nat)} (hn : R.length ≤ 125) (t : tbl m h R (fun i k => ρ 3 (24 * i + k))) (bd : ∀ (i : Nat) (q : Nat × Nat), R[i]? = some q → q.1 < N) (r0 : ∀ q : Nat × Nat, R[0]? = some q → q.1 = 0) (u0 : ¬ hI h (m + 13) 0 = 0) : ∀ d (k : Nat) (q : Nat × Nat), wkT (ρ 3) d k → R[k]? = some q → (∀ i, i < R.length → ∃ p, R[i]? = some p) → (∀ d k, wkT (ρ 3) d k → k < R.length) → ∃ v, v < N ∧ rp N (hI h (m + 7)) d v ∧ ¬ hI h (m + 13) v = 0 ∧ Bis m h q.1 v := by
  have l1 := l.1
  have l0 := l.2.1
  intro d
  induction d with
  | zero =>
    intro k q hk hq hR hw
    have k0 : k = 0 := hk
    subst k0
    have e := r0 q hq
    refine ⟨0, l0, rfl, u0, ?_⟩
    rw [e]
    exact l.bis_rf l0
  | succ d ih =>
    intro k q hk hq hR hw
    obtain ⟨k1, j, x, x1, x2, x3⟩ := hk
    obtain ⟨p, hp⟩ := hR j (hw d j x2)
    obtain ⟨v, v1, v2, v3, v4⟩ := ih j p x2 hp hR hw
    rcases t j p x hp x1 with ⟨-, e⟩ | ⟨a, j', p', a1, a2, a3, a4⟩
    · have e' : ρ 3 (24 * j + x) = -1 := e
      rw [x3] at e'
      exact absurd e' (nI_neg1 (by omega))
    · have a4' : ρ 3 (24 * j + x) = nI j' := a4
      have lj := (List.getElem?_eq_some_iff.mp a2).1
      have ej : k = j' := (nI_eq (by omega) (by omega)).mp (x3.symm.trans a4')
      subst ej
      cases Option.some.inj (hq.symm.trans a2)
      obtain ⟨al, ag, au⟩ := l.rgx (bd j p hp) x1 a1
      have un := uNx_of (by omega) ag au
      obtain ⟨c, c1, c2, c3⟩ := l.bis_go v4 v1 x1 (by omega) un
      obtain ⟨g1, g2⟩ := uNx_go (by omega) c2
      exact ⟨c, c1, ⟨v, x, v1, x1, g1, v2⟩, g2, bis_tr a3 c3⟩
/-- a way over useful states is a walk over rests -/
theorem rp_wk (l : LDr (vP1 V s0 R0) m h N) {R : List (Nat × Nat)} (hn : R.length ≤ 125) (t : tbl m h R (fun i k => ρ 3 (24 * i + k))) (bd : ∀ (i : Nat) (q : Nat × Nat), R[i]? = some q → q.1 < N) (r0 : ∀ q : Nat × Nat, R[0]? = some q → q.1 = 0) (n0 : 0 < R.length) : ∀ d v, v < N → rp N (hI h (m + 7)) d v → ¬ hI h (m + 13) v = 0 → ∃ (k : Nat) (q : Nat × Nat), wkT (ρ 3) d k ∧ R[k]? = some q ∧ Bis m h q.1 v := by
  have l1 := l.1
  have l0 := l.2.1
  intro d
  induction d with
  | zero =>
    intro v hv q u
    have v0 : v = 0 := q
    subst v0
    obtain ⟨p, hp⟩ : ∃ p, R[0]? = some p := ⟨_, List.getElem?_eq_getElem n0⟩
    exact ⟨0, p, rfl, hp, by rw [r0 p hp]; exact l.bis_rf l0⟩
  | succ d ih =>
    intro v hv q u
    obtain ⟨s, x, hs, hx, e, q⟩ := q
    have us := l.us_bk hs hx hv e u
    obtain ⟨k, p, k1, k2, k3⟩ := ih s hs q us
    have un := uNx_of (by omega) e u
    obtain ⟨c, c1, c2, c3⟩ := l.bis_go (bis_sy k3) (bd k p k2) hx (by omega) un
    have rg := rgo_of (by omega) c2
    rcases t k p x k2 hx with ⟨a1, -⟩ | ⟨a, j', p', a1, a2, a3, a4⟩
    · rw [rg] at a1; cases a1
    · have ea : c = a := Option.some.inj (rg.symm.trans a1)
      subst ea
      have lj := (List.getElem?_eq_some_iff.mp a2).1
      exact ⟨j', p', ⟨by omega, k, x, hx, k1, a4⟩, a2, bis_tr a3 (bis_sy c3)⟩
theorem rp_ext (l : LDr (vP1 V s0 R0) m h N) {b : Nat} (hb : b < 32) : ∀ x d v, v < N → rp N (hI h (m + 7)) d v → sre (hI h (m + 7)) (hI h (m + 8)) b x v → ∃ L, d ≤ L ∧ lenP m h N L := by
  intro x
  induction x with
  | zero => intro d v hv q s; exact ⟨d, Nat.le_refl _, v, hv, q, hasB_ne hb s⟩
  | succ x ih =>
    intro d v hv q s
    rcases s with s | ⟨k, j, k1, k2, k3, k4⟩
    · exact ih d v hv q s
    · obtain ⟨L, L1, L2⟩ := ih (d + 1) j (l.jlt hv k1 k3 k2) ⟨v, k, hv, k1, k2, q⟩ k4
      exact ⟨L, by omega, L2⟩
theorem len_us (l : LDr (vP1 V s0 R0) m h N) {v : Nat} (hv : v < N) (e : ¬ hI h (m + 8) v = 0) : ¬ hI h (m + 13) v = 0 := by
  obtain ⟨b, hb, hb2⟩ := bit_ex (v := hI h (m + 8) v) e
  exact l.us hb hv (d := 0) hb2
def sGre (m : Nat) (h : HS) (N : Nat) (v st : Int32) : Prop := (((∀ L, ¬ lenP m h N L) ∨ ∀ B, ∃ L, B ≤ L ∧ lenP m h N L) ∧ v = -1 ∧ st = 5) ∨ ∃ L, lenP m h N L ∧ (∀ L', lenP m h N L' → L' ≤ L) ∧ v = nI L ∧ st = 0
theorem ag_gre {r : Nat} : ag2 (tbQ V fGre r) (smQ V sGre r) := ag2.sm (fun ρ m h N o l v st v2 st2 a b => by
  have l0 := l.2.1
  obtain ⟨n, tn, a⟩ := a
  obtain ⟨R, tR', tb, bd, z0, r0, -⟩ := tb_states o l
  have en : n = R.length := (nI_eq (by have := tn.1; omega) (by have := tR'.1; omega)).mp (tn.2.1.symm.trans tR'.2.1)
  subst en
  have bd' : ∀ (i : Nat) (q : Nat × Nat), R[i]? = some q → q.1 < N := fun i q hq => (bd i q hq).1
  have hR : ∀ i, i < R.length → ∃ p, R[i]? = some p := fun i hi => ⟨_, List.getElem?_eq_getElem hi⟩
  have toW : ∀ L, lenP m h N L → 0 < R.length ∧ ∃ k, wkT (ρ 3) L k := fun L q => by
    obtain ⟨v, v1, v2, v3⟩ := q
    have u := len_us l v1 v3
    have n0 : 0 < R.length := by
      have u0 := l.us_0 L v v1 v2 u
      have : R.length ≠ 0 := fun e => u0 (z0.mp e)
      omega
    obtain ⟨k, q, k1, -⟩ := rp_wk l tn.1 tb bd' r0 n0 L v v1 v2 u
    exact ⟨n0, k, k1⟩
  have toL : 0 < R.length → ∀ d k, wkT (ρ 3) d k → ∃ L, d ≤ L ∧ lenP m h N L := fun n0 d k q => by
    have u0 : ¬ hI h (m + 13) 0 = 0 := fun e => by have := z0.mpr e; omega
    have lt : ∀ d k, wkT (ρ 3) d k → k < R.length := wkT.lt tn.2.2 n0
    obtain ⟨p, hp⟩ := hR k (lt d k q)
    obtain ⟨v, v1, v2, v3, -⟩ := wk_rp l tn.1 tb bd' r0 u0 d k p q hp hR lt
    obtain ⟨b, x, b1, b2⟩ := l.us_ex v1 v3
    exact rp_ext l b1 x d v v1 v2 b2
  rcases a with ⟨a, rfl, rfl⟩ | ⟨n0, L, rfl, ⟨k, a1⟩, a2, rfl⟩ <;> rcases b with ⟨b, rfl, rfl⟩ | ⟨L2, b1, b2, rfl, rfl⟩
  · exact ⟨rfl, rfl⟩
  · exfalso
    have w := toW L2 b1
    rcases a with a | a
    · omega
    · obtain ⟨k, hk⟩ := a (L2 + 1)
      obtain ⟨L3, c1, c2⟩ := toL w.1 _ k hk
      have := b2 L3 c2
      omega
  · exfalso
    obtain ⟨L3, c1, c2⟩ := toL n0 L k a1
    rcases b with b | b
    · exact b L3 c2
    · obtain ⟨L4, d1, d2⟩ := b (L + 1)
      obtain ⟨-, k', hk'⟩ := toW L4 d2
      have := a2 L4 k' hk'
      omega
  · obtain ⟨L3, c1, c2⟩ := toL n0 L k a1
    have h1 := b2 L3 c2
    obtain ⟨-, k', hk'⟩ := toW L2 b1
    have h2 := a2 L2 k' hk'
    rw [show L = L2 by omega]
    exact ⟨rfl, rfl⟩)
theorem b_m_greatest (v : MV m h V M) (p : Int32) : Ev w 7 0 0 yX10_greatest cX10_greatest 9 (some .int) [.ref m, .int p] h (bQ m (qQ V M (one (vNp V) p (smQ V sGre)))) := by
  obtain ⟨fw, ⟨v1, v2, v3⟩, -⟩ := id v
  refine Ev.to (e_m_greatest v1 p) (fun r' h' hp => ?_)
  rcases hp with ⟨n, hr, pq⟩ | ⟨r, hr, rfl, h1, N, l, hp⟩
  · exact bQ.q v hr pq (Or.inl ⟨n, rfl, rfl⟩)
  · rw [v.p1 hr] at l
    rcases hp with ⟨a, hv, pq⟩ | ⟨L, a, b, hv, pq⟩
    · exact bQ.q v hv pq (Or.inr ⟨r, hr, rfl, m, h1, N, l.r, Or.inl ⟨a, rfl, rfl⟩⟩)
    · exact bQ.q v hv pq (Or.inr ⟨r, hr, rfl, m, h1, N, l.r, Or.inr ⟨L, a, b, rfl, rfl⟩⟩)
end GR
