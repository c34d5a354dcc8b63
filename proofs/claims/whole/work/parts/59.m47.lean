/-! greatest -/
def gH (m : Nat) (h : HS) (I F L : Nat → Int32) : HS := sF (sF (sF h (m + 17) I) (m + 18) F) (m + 19) L
section GH
variable {m i : Nat} {h : HS} {I F L : Nat → Int32} {v : Int32}
theorem gH_19 : hI (gH m h I F L) (m + 19) = L := by rw [gH, hI_sF_eq]
theorem gH_18 : hI (gH m h I F L) (m + 18) = F := by rw [gH, hI_sF_ne (by omega), hI_sF_eq]
theorem gH_17 : hI (gH m h I F L) (m + 17) = I := by rw [gH, hI_sF_ne (by omega), hI_sF_ne (by omega), hI_sF_eq]
theorem gH_ne {b : Nat} (h1 : b ≠ m + 17) (h2 : b ≠ m + 18) (h3 : b ≠ m + 19) : hI (gH m h I F L) b = hI h b := by rw [gH, hI_sF_ne h3, hI_sF_ne h2, hI_sF_ne h1]
theorem gH_s19 : sI (gH m h I F L) (m + 19) i v = gH m h I F (upd L i v) := by rw [gH, sI_sF_same]; rfl
theorem gH_s18 : sI (gH m h I F L) (m + 18) i v = gH m h I (upd F i v) L := by rw [gH, sI_sF_other (by omega), sI_sF_same]; rfl
theorem gH_s17 : sI (gH m h I F L) (m + 17) i v = gH m h (upd I i v) F L := by rw [gH, sI_sF_other (by omega), sI_sF_other (by omega), sI_sF_same]; rfl
theorem gH_self : gH m h (hI h (m + 17)) (hI h (m + 18)) (hI h (m + 19)) = h := by
  unfold gH
  rw [sF_self]
  rw [sF_self]
  rw [sF_self]
theorem gH_u {e : Nat} : uNx m (gH m h I F L) e = uNx m h e := by
  unfold uNx
  rw [gH_ne (by omega) (by omega) (by omega), gH_ne (by omega) (by omega) (by omega)]
theorem mKp_gH : mKp m h (gH m h I F L) := ((mKp_sF I (by omega) (by omega)).tr (mKp_sF F (by omega) (by omega))).tr (mKp_sF L (by omega) (by omega))
end GH
/-- ways in the states' graph, and the lengths of what is accepted -/
def rp (N : Nat) (go : Nat → Int32) : Nat → Nat → Prop
  | 0, v => v = 0
  | L + 1, v => ∃ u k, u < N ∧ k < 24 ∧ go (24 * u + k) = nI v ∧ rp N go L u
def lenP (m : Nat) (h : HS) (N L : Nat) : Prop := ∃ v, v < N ∧ rp N (hI h (m + 7)) L v ∧ ¬ hI h (m + 8) v = 0
def gU (m : Nat) (h : HS) (N v : Nat) : Prop := v < N ∧ hI h (m + 13) v = 1
def gG (m : Nat) (h : HS) (N e v : Nat) : Prop := v < N ∧ uNx m h e = nI v
section GG
variable {m N : Nat} {h : HS}
theorem gG_1 (g : GOk m h N) (u1 : ∀ s, s < N → hI h (m + 13) s = 0 ∨ hI h (m + 13) s = 1) {e v : Nat} (he : e < 24 * N) (hg : gG m h N e v) : gU m h N v ∧ hI h (m + 7) e = nI v := by
  have g1 := g.1
  have hu := uNx_cases g (s := e / 24) (k := e % 24) (by omega) (by omega)
  rw [show 24 * (e / 24) + e % 24 = e by omega, hg.2] at hu
  rcases hu with q | ⟨j, hj, q1, q2, q3⟩
  · exact absurd q (nI_m1 (by have := hg.1; omega))
  · have e1 : v = j := (nI_eq (by have := hg.1; omega) (by omega)).mp q1
    rw [e1]
    exact ⟨⟨hj, (u1 j hj).elim (fun x => absurd x q3) id⟩, q2⟩
theorem gG_2 (g : GOk m h N) {e v : Nat} (hv : gU m h N v) (hg : hI h (m + 7) e = nI v) : gG m h N e v := by
  have g1 := g.1
  have hv1 := hv.1
  refine ⟨hv.1, ?_⟩
  unfold uNx
  rw [hg, if_neg (nI_m1 (by omega)), nI_clamp (by omega), hv.2, if_neg (by decide)]
theorem gG_f (hN : N ≤ 16400) {e a b : Nat} (h1 : gG m h N e a) (h2 : gG m h N e b) : a = b := (nI_eq (by have := h1.1; omega) (by have := h2.1; omega)).mp (h1.2.symm.trans h2.2)
theorem pt_rp (g : GOk m h N) (u1 : ∀ s, s < N → hI h (m + 13) s = 0 ∨ hI h (m + 13) s = 1) : ∀ L v, pt N (gU m h N) (gG m h N) L v → rp N (hI h (m + 7)) L v := by
  intro L
  induction L with
  | zero => intro v h; exact h
  | succ L ih =>
    intro v hp
    obtain ⟨e, he, hu, hg, hp⟩ := hp
    exact ⟨e / 24, e % 24, by omega, by omega, by rw [show 24 * (e / 24) + e % 24 = e by omega]; exact (gG_1 g u1 he hg).2, ih _ hp⟩
theorem gU_us (l : LU m h N) (h9 : ∀ s, s < N → hI h (m + 9) s = 0) {v : Nat} : gU m h N v ↔ v < N ∧ Us (hI h (m + 7)) (fun s => hI h (m + 8) s ||| hI h (m + 9) s) v := by
  constructor
  · intro x
    rcases l v x.1 with q | q
    · exact ⟨x.1, q.2⟩
    · rw [x.2] at q; exact absurd q.1 (by decide)
  · intro x
    rcases l v x.1 with q | q
    · exact ⟨x.1, q.1⟩
    · exact absurd x.2 q.2
theorem rp_pt (g : GOk m h N) (l : LU m h N) (h9 : ∀ s, s < N → hI h (m + 9) s = 0) : ∀ L v, gU m h N v → rp N (hI h (m + 7)) L v → pt N (gU m h N) (gG m h N) L v := by
  have g1 := g.1
  intro L
  induction L with
  | zero => intro v _ h; exact h
  | succ L ih =>
    intro v hv hp
    obtain ⟨u, k, hu, hk, hg, hp⟩ := hp
    have hv1 := hv.1
    have uu : gU m h N u := (gU_us l h9).mpr ⟨hu, Us_step hk (by omega) hg ((gU_us l h9).mp hv).2⟩
    refine ⟨24 * u + k, by omega, by rw [show (24 * u + k) / 24 = u by omega]; exact uu, gG_2 g hv hg, ?_⟩
    rw [show (24 * u + k) / 24 = u by omega]
    exact ih u uu hp
theorem rp_us (g : GOk m h N) {en : Nat → Int32} : ∀ L v, v < N → rp N (hI h (m + 7)) L v → Us (hI h (m + 7)) en v → Us (hI h (m + 7)) en 0 := by
  have g1 := g.1
  intro L
  induction L with
  | zero => intro v _ h hu; rw [show v = 0 from h] at hu; exact hu
  | succ L ih =>
    intro v hv hp hus
    obtain ⟨u, k, hu, hk, hg, hp⟩ := hp
    exact ih u hu hp (Us_step hk (by omega) hg hus)
theorem rp_end (g : GOk m h N) (h9 : ∀ s, s < N → hI h (m + 9) s = 0) : ∀ d L v, v < N → rp N (hI h (m + 7)) L v → rch (hI h (m + 7)) (fun s => hI h (m + 8) s ||| hI h (m + 9) s) d v → ∃ L', L ≤ L' ∧ lenP m h N L' := by
  intro d
  induction d with
  | zero =>
    intro L v hv hp hr
    refine ⟨L, Nat.le_refl _, v, hv, hp, fun q => hr ?_⟩
    show hI h (m + 8) v ||| hI h (m + 9) v = 0
    rw [q, h9 v hv]; rfl
  | succ d ih =>
    intro L v hv hp hr
    rcases hr with hr | ⟨k, j, hk, hg, hj, hr⟩
    · exact ih L v hv hp hr
    · have hjN : j < N := by
        have g1 := g.1
        rcases g.2.2 (24 * v + k) (by omega) with q | ⟨i, hi, q⟩
        · rw [hg] at q; exact absurd q (nI_m1 (by omega))
        · rw [hg] at q
          have := (nI_eq (by omega) (by omega)).mp q
          omega
      obtain ⟨L', h1, h2⟩ := ih (L + 1) j hjN ⟨v, k, hv, hk, hg, hp⟩ hr
      exact ⟨L', by omega, h2⟩
end GG
/-- edges that are done with: those of the first i of the line, and k of the next -/
def Dk (ln : Nat → Nat) (i k e : Nat) : Prop := (∃ j, j < i ∧ ln j = e / 24) ∨ (ln i = e / 24 ∧ e % 24 < k)
def KS (N : Nat) (G : Nat → Nat → Prop) (U D : Nat → Prop) (I F Ln : Nat → Int32) (ln into far : Nat → Nat) (n : Nat) : Prop := KI N G U D (fun v => ∃ j, j < n ∧ ln j = v) into far ∧ (∀ v, v < N → I v = nI (into v)) ∧ (∀ v, v < N → F v = nI (far v)) ∧ (∀ j, j < n → Ln j = nI (ln j)) ∧ ∀ i j, i < n → j < n → ln i = ln j → i = j
section KSS
variable {N n i kk v : Nat} {G : Nat → Nat → Prop} {U D : Nat → Prop} {I F Ln : Nat → Int32} {ln into far : Nat → Nat}
theorem KS.len (k : KS N G U D I F Ln ln into far n) : cP (fun v => ∃ j, j < n ∧ ln j = v) N = n ∧ n ≤ N := by
  have h := cP_ln (ln := ln) (N := N) n (fun j hj => (k.1.1 (ln j) ⟨j, hj, rfl⟩).2) k.2.2.2.2
  exact ⟨h, by rw [← h]; exact cP_bd N⟩
theorem Dk_s {e : Nat} (hk : kk < 24) : Dk ln i (kk + 1) e ↔ Dk ln i kk e ∨ e = 24 * ln i + kk := by
  unfold Dk
  constructor
  · intro h
    rcases h with h | ⟨h1, h2⟩
    · exact Or.inl (Or.inl h)
    · by_cases c : e % 24 = kk
      · exact Or.inr (by omega)
      · exact Or.inl (Or.inr ⟨h1, by omega⟩)
  · intro h
    rcases h with (h | ⟨h1, h2⟩) | h
    · exact Or.inl h
    · exact Or.inr ⟨h1, by omega⟩
    · exact Or.inr ⟨by omega, by omega⟩
theorem KS.next (k : KS N G U (Dk ln i 24) I F Ln ln into far n) : KS N G U (Dk ln (i + 1) 0) I F Ln ln into far n := by
  have e : Dk ln (i + 1) 0 = Dk ln i 24 := by
    funext e
    refine propext ⟨fun h => ?_, fun h => ?_⟩
    · rcases h with ⟨j, hj, h⟩ | ⟨-, h⟩
      · by_cases c : j = i
        · exact Or.inr ⟨by rw [← c]; exact h, by omega⟩
        · exact Or.inl ⟨j, by omega, h⟩
      · omega
    · rcases h with ⟨j, hj, h⟩ | ⟨h, -⟩
      · exact Or.inl ⟨j, by omega, h⟩
      · exact Or.inl ⟨i, by omega, h⟩
  rw [e]
  exact k
theorem KS.skip (k : KS N G U (Dk ln i kk) I F Ln ln into far n) (hi : i < n) (hk : kk < 24) (hG : ∀ v, ¬ G (24 * ln i + kk) v) : KS N G U (Dk ln i (kk + 1)) I F Ln ln into far n := by
  obtain ⟨⟨k1, k2, k3, k4, k5, k6, k7⟩, k8⟩ := k
  refine ⟨⟨k1, fun v hv => ?_, fun v e h1 h2 h3 h4 => (Dk_s hk).mpr (Or.inl (k3 v e h1 h2 h3 h4)), k4, fun e v h1 h2 h3 h4 => ?_, k6, fun e h => ?_⟩, k8⟩
  · rw [k2 v hv]
    exact cP_cg _ (fun e _ => ⟨fun h => ⟨h.1, fun d => ((Dk_s hk).mp d).elim h.2.1 (fun y => hG v (by rw [← y]; exact h.2.2)), h.2.2⟩, fun h => ⟨h.1, fun d => h.2.1 ((Dk_s hk).mpr (Or.inl d)), h.2.2⟩⟩)
  · rcases (Dk_s hk).mp h3 with q | q
    · exact k5 e v h1 h2 q h4
    · exact absurd (by rw [← q]; exact h4) (hG v)
  · rcases (Dk_s hk).mp h with q | q
    · exact k7 e q
    · exact ⟨i, hi, by omega⟩
theorem KS.step (k : KS N G U (Dk ln i kk) I F Ln ln into far n) (hi : i < n) (hk : kk < 24) (hG : G (24 * ln i + kk) v) (hv : v < N) (hUv : U v) (hfun : ∀ e a b, G e a → G e b → a = b) {X : Nat} (hX : X = if far v < far (ln i) + 1 then far (ln i) + 1 else far v) :
    0 < into v ∧ into v ≤ 24 * N ∧ (∀ j, j < n → ln j ≠ v) ∧ (into v = 1 → n + 1 ≤ N ∧ KS N G U (Dk (updN ln n v) i (kk + 1)) (upd I v (nI (into v - 1))) (upd F v (nI X)) (upd Ln n (nI v)) (updN ln n v) (updN into v (into v - 1)) (updN far v X) (n + 1)) ∧ (¬ into v = 1 → KS N G U (Dk ln i (kk + 1)) (upd I v (nI (into v - 1))) (upd F v (nI X)) Ln ln (updN into v (into v - 1)) (updN far v X) n) := by
  have hn := k.len
  obtain ⟨kI, kA, kB, kC, kD⟩ := k
  have hlt := (kI.1 (ln i) ⟨i, hi, rfl⟩).2
  have hnd : ¬ Dk ln i kk (24 * ln i + kk) := by
    intro h
    rcases h with ⟨j, hj, h⟩ | ⟨-, h⟩
    · have := kD j i (by omega) hi (by omega); omega
    · omega
  obtain ⟨s1, s2, s3⟩ := kI.step (u := ln i) ⟨i, hi, rfl⟩ (by omega) (by omega) hnd hG hv hUv hfun
  rw [← hX] at s3
  have hI2 : ∀ x, x < N → upd I v (nI (into v - 1)) x = nI (updN into v (into v - 1) x) := fun x hx => by
    unfold upd updN
    split
    · rfl
    · exact kA x hx
  have hF2 : ∀ x, x < N → upd F v (nI X) x = nI (updN far v X x) := fun x hx => by
    unfold upd updN
    split
    · rfl
    · exact kB x hx
  have hD1 : (fun e => Dk ln i kk e ∨ e = 24 * ln i + kk) = Dk ln i (kk + 1) := funext fun e => propext (Dk_s hk).symm
  rw [hD1] at s3
  have nv : ∀ j, j < n → ln j ≠ v := fun j hj q => s1 ⟨j, hj, q⟩
  refine ⟨s2, by rw [kI.2.1 v hv]; exact cP_bd _, nv, fun h1 => ?_, fun h1 => ⟨?_, hI2, hF2, kC, kD⟩⟩
  · have el : ∀ j, j < n → updN ln n v j = ln j := fun j hj => updN_ne (by omega)
    have hLv : (fun x => (∃ j, j < n ∧ ln j = x) ∨ (x = v ∧ into v = 1)) = fun x => ∃ j, j < n + 1 ∧ updN ln n v j = x := by
      funext x
      refine propext ⟨fun h => ?_, fun h => ?_⟩
      · rcases h with ⟨j, hj, h⟩ | ⟨h, -⟩
        · exact ⟨j, by omega, by rw [el j hj]; exact h⟩
        · exact ⟨n, by omega, by rw [updN_eq]; exact h.symm⟩
      · obtain ⟨j, hj, h⟩ := h
        by_cases c : j = n
        · rw [c, updN_eq] at h; exact Or.inr ⟨h.symm, h1⟩
        · rw [el j (by omega)] at h; exact Or.inl ⟨j, by omega, h⟩
    have hD2 : Dk ln i (kk + 1) = Dk (updN ln n v) i (kk + 1) := by
      funext e
      unfold Dk
      rw [el i hi]
      refine propext ⟨fun h => h.elim (fun ⟨j, hj, q⟩ => Or.inl ⟨j, hj, by rw [el j (by omega)]; exact q⟩) Or.inr, fun h => h.elim (fun ⟨j, hj, q⟩ => Or.inl ⟨j, hj, by rw [el j (by omega)] at q; exact q⟩) Or.inr⟩
    rw [hLv, hD2] at s3
    have hk2 : KS N G U (Dk (updN ln n v) i (kk + 1)) (upd I v (nI (into v - 1))) (upd F v (nI X)) (upd Ln n (nI v)) (updN ln n v) (updN into v (into v - 1)) (updN far v X) (n + 1) := by
      refine ⟨s3, hI2, hF2, fun j hj => ?_, fun a b ha hb hab => ?_⟩
      · unfold upd updN
        by_cases c : j = n
        · rw [if_pos c, if_pos c]
        · rw [if_neg c, if_neg c]; exact kC j (by omega)
      · by_cases c : a = n
        · by_cases d : b = n
          · omega
          · rw [c, updN_eq, el b (by omega)] at hab; exact absurd hab.symm (nv b (by omega))
        · by_cases d : b = n
          · rw [d, updN_eq, el a (by omega)] at hab; exact absurd hab (nv a (by omega))
          · rw [el a (by omega), el b (by omega)] at hab; exact kD a b (by omega) (by omega) hab
    exact ⟨hk2.len.2, hk2⟩
  · have hLv : (fun x => (∃ j, j < n ∧ ln j = x) ∨ (x = v ∧ into v = 1)) = fun x => ∃ j, j < n ∧ ln j = x := by
      funext x
      exact propext ⟨fun h => h.elim id (fun q => absurd q.2 h1), Or.inl⟩
    rw [hLv] at s3
    exact s3
end KSS
/-- the best so far -/
def KB (En : Nat → Prop) (far ln : Nat → Nat) (i b : Nat) : Prop := (b = 0 ∨ ∃ j, j < i ∧ En (ln j) ∧ far (ln j) = b) ∧ ∀ j, j < i → En (ln j) → far (ln j) ≤ b
theorem mx_n {a b : Nat} (ha : a < 2 ^ 31) (hb : b < 2 ^ 31) : (if nI a < nI b then nI b else nI a) = nI (if a < b then b else a) := by
  by_cases c : a < b
  · rw [if_pos c, if_pos (Int32.lt_iff_toInt_lt.mpr (by rw [nI_toInt ha, nI_toInt hb]; omega))]
  · rw [if_neg c, if_neg (fun h => c (by have := Int32.lt_iff_toInt_lt.mp h; rw [nI_toInt ha, nI_toInt hb] at this; omega))]
theorem P1_9 {m nf r N : Nat} {h h1 : HS} (l : LD (P1 m h nf r) m h1 N) : ∀ s, s < N → hI h1 (m + 9) s = 0 := by
  intro s hs
  obtain ⟨l1, l2, l3, l4, l5, l6⟩ := l
  rw [(l6 s _ (List.getElem?_eq_getElem (by omega))).2]
  have hw : wt (rPlain 0) = 0 := wt_of (a := 0) rfl (by omega)
  unfold kE2
  show endF (rPlain 0) _ (if _ then 0 else rPlain 0 1) (wt (rPlain 0)) &&& _ = 0
  rw [hw, show endF (rPlain 0) (kIt _) (if kbg _ = 0 then 0 else rPlain 0 1) 0 = (if kbg _ = 0 then 0 else rPlain 0 1) from rfl, show rPlain 0 1 = 0 from rfl, ite_self, Int32.zero_and]
