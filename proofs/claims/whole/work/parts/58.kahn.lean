/-! longest ways: counting what is ahead (mathematics only) -/
noncomputable def cP (p : Nat → Prop) : Nat → Nat
  | 0 => 0
  | n + 1 => cP p n + @ite _ (p n) (Classical.propDecidable _) 1 0
theorem cP_t {p : Nat → Prop} {n : Nat} (h : p n) : cP p (n + 1) = cP p n + 1 := by rw [cP, if_pos h]
theorem cP_f {p : Nat → Prop} {n : Nat} (h : ¬ p n) : cP p (n + 1) = cP p n := by rw [cP, if_neg h, Nat.add_zero]
theorem cP_cg {p q : Nat → Prop} : ∀ n, (∀ e, e < n → (p e ↔ q e)) → cP p n = cP q n := by
  intro n
  induction n with
  | zero => intro _; rfl
  | succ n ih =>
    intro h
    have e := ih (fun e he => h e (by omega))
    by_cases c : p n
    · rw [cP_t c, cP_t ((h n (by omega)).mp c), e]
    · rw [cP_f c, cP_f (fun d => c ((h n (by omega)).mpr d)), e]
theorem cP_add {p q : Nat → Prop} {e0 : Nat} : ∀ n, e0 < n → ¬ p e0 → (∀ e, e < n → (q e ↔ p e ∨ e = e0)) → cP q n = cP p n + 1 := by
  intro n
  induction n with
  | zero => intro h; omega
  | succ n ih =>
    intro h0 hp h
    by_cases c : e0 = n
    · subst c
      rw [cP_t ((h e0 (by omega)).mpr (Or.inr rfl)), cP_f hp, cP_cg e0 (fun e he => (h e (by omega)).trans ⟨fun x => x.elim id (fun y => by omega), Or.inl⟩)]
    · have e := ih (by omega) hp (fun e he => h e (by omega))
      by_cases d : p n
      · rw [cP_t d, cP_t ((h n (by omega)).mpr (Or.inl d)), e]
      · rw [cP_f d, cP_f (fun x => ((h n (by omega)).mp x).elim d (fun y => c y.symm)), e]
theorem cP_z {p : Nat → Prop} : ∀ n, cP p n = 0 → ∀ e, e < n → ¬ p e := by
  intro n
  induction n with
  | zero => intro _ e he; omega
  | succ n ih =>
    intro h e he
    by_cases c : p n
    · rw [cP_t c] at h; omega
    · rw [cP_f c] at h
      by_cases d : e = n
      · rw [d]; exact c
      · exact ih h e (by omega)
theorem cP_0 {p : Nat → Prop} : ∀ n, (∀ e, e < n → ¬ p e) → cP p n = 0 := by
  intro n
  induction n with
  | zero => intro _; rfl
  | succ n ih => intro h; rw [cP_f (h n (by omega)), ih (fun e he => h e (by omega))]
theorem cP_nz {p : Nat → Prop} {n : Nat} (h : ¬ cP p n = 0) : ∃ e, e < n ∧ p e :=
  Classical.byContradiction (fun x => h (cP_0 n (fun e he q => x ⟨e, he, q⟩)))
theorem cP_le {p q : Nat → Prop} : ∀ n, (∀ e, e < n → p e → q e) → cP p n ≤ cP q n := by
  intro n
  induction n with
  | zero => intro _; exact Nat.le_refl _
  | succ n ih =>
    intro h
    have e := ih (fun e he => h e (by omega))
    by_cases c : p n
    · rw [cP_t c, cP_t (h n (by omega) c)]; omega
    · rw [cP_f c]
      by_cases d : q n
      · rw [cP_t d]; omega
      · rw [cP_f d]; omega
theorem cP_bd {p : Nat → Prop} : ∀ n, cP p n ≤ n := by
  intro n
  induction n with
  | zero => exact Nat.le_refl _
  | succ n ih => unfold cP; split <;> omega
theorem cP_all {p q : Nat → Prop} {n : Nat} (h : ∀ e, e < n → p e → q e) (hc : cP q n ≤ cP p n) : ∀ e, e < n → q e → p e := by
  intro e he hq
  refine Classical.byContradiction (fun c => ?_)
  have h1 : cP (fun x => p x ∨ x = e) n = cP p n + 1 := cP_add n he c (fun x _ => Iff.rfl)
  have h2 : cP (fun x => p x ∨ x = e) n ≤ cP q n := cP_le n (fun x hx y => y.elim (h x hx) (fun z => by rw [z]; exact hq))
  omega
/-- a list without repetition has as many as its length -/
theorem cP_ln {ln : Nat → Nat} {N : Nat} : ∀ n, (∀ j, j < n → ln j < N) → (∀ i j, i < n → j < n → ln i = ln j → i = j) → cP (fun v => ∃ j, j < n ∧ ln j = v) N = n := by
  intro n
  induction n with
  | zero => intro _ _; exact cP_0 N (fun e _ h => by obtain ⟨j, hj, -⟩ := h; omega)
  | succ n ih =>
    intro h1 h2
    have e := ih (fun j hj => h1 j (by omega)) (fun i j hi hj => h2 i j (by omega) (by omega))
    rw [cP_add (p := fun v => ∃ j, j < n ∧ ln j = v) (e0 := ln n) N (h1 n (by omega)) (fun h => by obtain ⟨j, hj, e⟩ := h; have := h2 j n (by omega) (by omega) e; omega) (fun v _ => ⟨fun h => ?_, fun h => ?_⟩), e]
    · obtain ⟨j, hj, e⟩ := h
      by_cases c : j = n
      · exact Or.inr (by rw [← e, c])
      · exact Or.inl ⟨j, by omega, e⟩
    · rcases h with ⟨j, hj, e⟩ | e
      · exact ⟨j, by omega, e⟩
      · exact ⟨n, by omega, e.symm⟩
/-- a way of length L from 0 to v -/
def pt (N : Nat) (U : Nat → Prop) (G : Nat → Nat → Prop) : Nat → Nat → Prop
  | 0, v => v = 0
  | L + 1, v => ∃ e, e < 24 * N ∧ U (e / 24) ∧ G e v ∧ pt N U G L (e / 24)
def updN (f : Nat → Nat) (i x : Nat) : Nat → Nat := fun j => if j = i then x else f j
theorem updN_eq (f : Nat → Nat) (i x : Nat) : updN f i x i = x := if_pos rfl
theorem updN_ne {f : Nat → Nat} {i x j : Nat} (h : j ≠ i) : updN f i x j = f j := if_neg h
def KI (N : Nat) (G : Nat → Nat → Prop) (U D Lv : Nat → Prop) (into far : Nat → Nat) : Prop :=
  (∀ v, Lv v → U v ∧ v < N) ∧ (∀ v, v < N → into v = cP (fun e => U (e / 24) ∧ ¬ D e ∧ G e v) (24 * N)) ∧ (∀ v e, Lv v → e < 24 * N → U (e / 24) → G e v → D e) ∧ (∀ v, v < N → U v → ¬ Lv v → ¬ into v = 0) ∧ (∀ e v, e < 24 * N → v < N → D e → G e v → far (e / 24) + 1 ≤ far v) ∧ (∀ v, v < N → Lv v ∨ 0 < far v → pt N U G (far v) v) ∧ ∀ e, D e → Lv (e / 24)
theorem KI.step {N : Nat} {G : Nat → Nat → Prop} {U D Lv : Nat → Prop} {into far : Nat → Nat} (k : KI N G U D Lv into far) {e0 u v : Nat} (hu : Lv u) (he : e0 < 24 * N) (hs : e0 / 24 = u) (hD : ¬ D e0) (hG : G e0 v) (hv : v < N) (hUv : U v) (hfun : ∀ e a b, G e a → G e b → a = b) :
    ¬ Lv v ∧ 0 < into v ∧ KI N G U (fun e => D e ∨ e = e0) (fun x => Lv x ∨ (x = v ∧ into v = 1)) (updN into v (into v - 1)) (updN far v (if far v < far u + 1 then far u + 1 else far v)) := by
  obtain ⟨k1, k2, k3, k4, k5, k6, k7⟩ := k
  have nv : ¬ Lv v := fun h => hD (k3 v e0 h he (by rw [hs]; exact (k1 u hu).1) hG)
  have huv : u ≠ v := fun h => nv (by rw [← h]; exact hu)
  have cnt : into v = cP (fun e => U (e / 24) ∧ ¬ (D e ∨ e = e0) ∧ G e v) (24 * N) + 1 := by
    rw [k2 v hv]
    refine cP_add (e0 := e0) (24 * N) he (fun h => h.2.1 (Or.inr rfl)) (fun e _ => ⟨fun h => ?_, fun h => ?_⟩)
    · by_cases c : e = e0
      · exact Or.inr c
      · exact Or.inl ⟨h.1, fun d => d.elim h.2.1 c, h.2.2⟩
    · rcases h with h | h
      · exact ⟨h.1, fun d => h.2.1 (Or.inl d), h.2.2⟩
      · rw [h]
        exact ⟨by rw [hs]; exact (k1 u hu).1, hD, hG⟩
  refine ⟨nv, by omega, ?_, ?_, ?_, ?_, ?_, ?_, ?_⟩
  · intro x hx
    rcases hx with hx | ⟨hx, -⟩
    · exact k1 x hx
    · rw [hx]; exact ⟨hUv, hv⟩
  · intro x hx
    by_cases c : x = v
    · rw [c, updN_eq]
      exact (by omega : into v - 1 = cP (fun e => U (e / 24) ∧ ¬ (D e ∨ e = e0) ∧ G e v) (24 * N))
    · rw [updN_ne c, k2 x hx]
      exact cP_cg _ (fun e _ => ⟨fun h => ⟨h.1, fun d => d.elim h.2.1 (fun y => c (hfun e x v h.2.2 (by rw [y]; exact hG))), h.2.2⟩, fun h => ⟨h.1, fun d => h.2.1 (Or.inl d), h.2.2⟩⟩)
  · intro x e hx he2 hU2 hG2
    rcases hx with hx | ⟨hx, h1⟩
    · exact Or.inl (k3 x e hx he2 hU2 hG2)
    · refine Classical.byContradiction (fun c => ?_)
      exact cP_z (24 * N) (show cP (fun e => U (e / 24) ∧ ¬ (D e ∨ e = e0) ∧ G e v) (24 * N) = 0 by omega) e he2 ⟨hU2, c, by rw [← hx]; exact hG2⟩
  · intro x hx hU2 hn
    by_cases c : x = v
    · rw [c, updN_eq]
      have : ¬ into v = 1 := fun d => hn (Or.inr ⟨c, d⟩)
      omega
    · rw [updN_ne c]
      exact k4 x hx hU2 (fun d => hn (Or.inl d))
  · intro e x he2 hx hd hG2
    rcases hd with hd | hd
    · have h1 := k5 e x he2 hx hd hG2
      have h2 : e / 24 ≠ v := fun q => nv (by rw [← q]; exact k7 e hd)
      rw [updN_ne h2]
      by_cases c : x = v
      · rw [c, updN_eq]; rw [c] at h1; split <;> omega
      · rw [updN_ne c]; exact h1
    · subst hd
      have : x = v := hfun e x v hG2 hG
      subst this
      rw [updN_eq, hs, updN_ne huv]
      split <;> omega
  · intro x hx h
    by_cases c : x = v
    · rw [c, updN_eq]
      by_cases d : far v < far u + 1
      · rw [if_pos d]
        exact ⟨e0, he, by rw [hs]; exact (k1 u hu).1, hG, by rw [hs]; exact k6 u (k1 u hu).2 (Or.inl hu)⟩
      · rw [if_neg d]
        exact k6 v hv (Or.inr (by omega))
    · rw [updN_ne c] at h ⊢
      exact k6 x hx (h.elim (fun y => Or.inl (y.elim id (fun q => absurd q.1 c))) Or.inr)
  · intro e hd
    rcases hd with hd | hd
    · exact Or.inl (k7 e hd)
    · rw [hd, hs]; exact Or.inl hu
theorem KI.first {N : Nat} {G : Nat → Nat → Prop} {U : Nat → Prop} {into : Nat → Nat} (hN : 0 < N) (hU : U 0) (hi : ∀ v, v < N → into v = cP (fun e => U (e / 24) ∧ G e v) (24 * N)) (hp : ∀ v, v < N → U v → v ≠ 0 → ∃ e, e < 24 * N ∧ U (e / 24) ∧ G e v) : KI N G U (fun _ => False) (fun v => v = 0 ∧ into 0 = 0) into (fun _ => 0) := by
  refine ⟨fun v h => by rw [h.1]; exact ⟨hU, hN⟩, fun v hv => ?_, fun v e h he hu hg => ?_, fun v hv hu hn => ?_, fun e v _ _ h => h.elim, fun v _ h => ?_, fun e h => h.elim⟩
  · rw [hi v hv]
    exact cP_cg _ (fun e _ => ⟨fun h => ⟨h.1, id, h.2⟩, fun h => ⟨h.1, h.2.2⟩⟩)
  · have h0 := h.2
    rw [hi 0 hN] at h0
    exact cP_z _ h0 e he ⟨hu, by rw [← h.1]; exact hg⟩
  · by_cases c : v = 0
    · subst c
      exact fun h => hn ⟨rfl, h⟩
    · intro h
      obtain ⟨e, he, h1, h2⟩ := hp v hv hu c
      rw [hi v hv] at h
      exact cP_z _ h e he ⟨h1, h2⟩
  · rcases h with h | h
    · exact h.1
    · exact absurd h (Nat.lt_irrefl 0)
/-- none left out: the ways' greatest lengths -/
theorem KI.all {N : Nat} {G : Nat → Nat → Prop} {U D Lv : Nat → Prop} {into far : Nat → Nat} (k : KI N G U D Lv into far) (hd : ∀ e, e < 24 * N → Lv (e / 24) → D e) (hc : cP U N ≤ cP Lv N) (hG : ∀ e v, G e v → v < N) (hU : ∀ v, U v → v < N) : (∀ v, U v → pt N U G (far v) v) ∧ ∀ L v, pt N U G L v → L ≤ far v := by
  have hall := cP_all (fun e _ h => (k.1 e h).1) hc
  refine ⟨fun v h => k.2.2.2.2.2.1 v (hU v h) (Or.inl (hall v (hU v h) h)), ?_⟩
  intro L
  induction L with
  | zero => intro v _; exact Nat.zero_le _
  | succ L ih =>
    intro v h
    obtain ⟨e, he, hu, hg, hp⟩ := h
    have h1 := ih _ hp
    have h2 := k.2.2.2.2.1 e v he (hG e v hg) (hd e he (hall _ (by omega) hu)) hg
    omega
/-- some left out: ways without end -/
theorem KI.some {N : Nat} {G : Nat → Nat → Prop} {U D Lv : Nat → Prop} {into far : Nat → Nat} (k : KI N G U D Lv into far) (hd : ∀ e, e < 24 * N → Lv (e / 24) → D e) (hc : cP Lv N < cP U N) (hr : ∀ v, v < N → U v → ∃ L, pt N U G L v) : ∀ B, ∃ L v, B ≤ L ∧ v < N ∧ U v ∧ pt N U G L v := by
  have key : ∀ B v, v < N → U v → ¬ Lv v → ∃ L, B ≤ L ∧ pt N U G L v := by
    intro B
    induction B with
    | zero => intro v hv hu _; obtain ⟨L, h⟩ := hr v hv hu; exact ⟨L, Nat.zero_le _, h⟩
    | succ B ih =>
      intro v hv hu hn
      have h := k.2.2.2.1 v hv hu hn
      rw [k.2.1 v hv] at h
      obtain ⟨e, he, h1, h2, h3⟩ := cP_nz h
      have hne : ¬ Lv (e / 24) := fun q => h2 (hd e he q)
      obtain ⟨L, hL, hp⟩ := ih (e / 24) (by omega) h1 hne
      exact ⟨L + 1, by omega, e, he, h1, h3, hp⟩
  intro B
  have : ∃ v, v < N ∧ U v ∧ ¬ Lv v := Classical.byContradiction (fun c => by
    have := cP_le (p := U) (q := Lv) N (fun e he hu => Classical.byContradiction (fun d => c ⟨e, he, hu, d⟩))
    omega)
  obtain ⟨v, hv, hu, hn⟩ := this
  obtain ⟨L, hL, hp⟩ := key B v hv hu hn
  exact ⟨L, v, hL, hv, hu, hp⟩
theorem bfs_edge (sc : Int64 → Nat → Option Int64) : ∀ E s key e, (bfs sc E)[s]? = some (key, e) → 0 < s → ∃ q, e < E ∧ (bfs sc E)[e / 24]? = some q ∧ sc q.1 (e % 24) = some key := by
  intro E
  induction E with
  | zero =>
    intro s key e h hs
    have h1 := (List.getElem?_eq_some_iff.mp h).1
    have : (bfs sc 0).length = 1 := rfl
    omega
  | succ E ih =>
    intro s key e h hs
    rcases Nat.lt_or_ge s (bfs sc E).length with c | c
    · obtain ⟨q, hq⟩ : ∃ q, (bfs sc E)[s]? = some q := ⟨_, List.getElem?_eq_getElem c⟩
      have hq2 := bfs_stay hq 1
      rw [h] at hq2
      injection hq2 with hq2
      subst hq2
      obtain ⟨p, h1, h2, h3⟩ := ih s key e hq hs
      exact ⟨p, by omega, bfs_stay h2 1, h3⟩
    · have hst : bfs sc (E + 1) = bstep sc (bfs sc E) E := rfl
      rcases hl : (bfs sc E)[E / 24]? with _ | q
      · rw [hst] at h
        simp only [bstep, hl] at h
        rw [List.getElem?_eq_none c] at h
        cases h
      · rcases hk : sc q.1 (E % 24) with _ | k
        · rw [hst, bstep_none hl hk, List.getElem?_eq_none c] at h
          cases h
        · by_cases hm : k ∈ (bfs sc E).map (·.1)
          · rw [hst, bstep_old hl hk hm, List.getElem?_eq_none c] at h
            cases h
          · rw [hst, bstep_new hl hk hm] at h
            have hls := (List.getElem?_eq_some_iff.mp h).1
            rw [List.length_append] at hls
            have e0 : s = (bfs sc E).length := by simp only [List.length_cons, List.length_nil] at hls; omega
            rw [e0, List.getElem?_append_right (Nat.le_refl _), Nat.sub_self] at h
            injection h with h
            injection h with h1 h2
            subst h1 h2
            exact ⟨q, by omega, bfs_stay hl 1, hk⟩
/-- each state but the first has an edge into it, from an earlier one -/
theorem LD.par {P : kP} {m N s : Nat} {h : HS} (l : LD P m h N) (hs : s < N) (h0 : 0 < s) : ∃ e, e < 24 * N ∧ e / 24 < s ∧ hI h (m + 7) e = nI s := by
  obtain ⟨l1, l2, l3, l4, l5, l6⟩ := l
  obtain ⟨⟨key, e⟩, hq⟩ : ∃ q, (bfs (kSc P) (24 * N))[s]? = some q := ⟨_, List.getElem?_eq_getElem (by omega)⟩
  obtain ⟨p, h1, h2, h3⟩ := bfs_edge _ _ _ _ _ hq h0
  have hlt := ((l3.2.2 s _ hq).2.2.2.2 h0).1
  refine ⟨e, h1, hlt, ?_⟩
  obtain ⟨q, g1, g2⟩ := l5 e h1
  rw [h2] at g1
  injection g1 with g1
  subst g1
  rcases g2 with ⟨g2, -⟩ | ⟨k, j, v, g2, g3, g4⟩
  · rw [h3] at g2; cases g2
  · rw [h3] at g2
    injection g2 with g2
    subst g2
    rw [g4, bfs_nd _ _ _ _ _ _ g3 hq rfl]
