/-! pairs of records without the heap: records as far as they reach, what facts forbid, the states' number -/
/-- a record as far as it reaches -/
def tr (R : Nat → Int32) : Nat → Int32 := fun k => if k < 307 then R k else 0
def Ag (R R' : Nat → Int32) : Prop := ∀ k, k < 307 → R k = R' k
theorem Ag.rf (R : Nat → Int32) : Ag R R := fun _ _ => rfl
theorem Ag.sy {R R' : Nat → Int32} (h : Ag R R') : Ag R' R := fun k hk => (h k hk).symm
theorem Ag.tr {R R' R2 : Nat → Int32} (h : Ag R R') (h2 : Ag R' R2) : Ag R R2 := fun k hk => (h k hk).trans (h2 k hk)
theorem ag_tr (R : Nat → Int32) : Ag R (tr R) := fun k hk => (if_pos hk).symm
theorem tr_ag {R R' : Nat → Int32} (h : Ag R R') : tr R = tr R' := by
  funext k
  unfold tr
  by_cases e : k < 307
  · rw [if_pos e, if_pos e, h k e]
  · rw [if_neg e, if_neg e]
theorem wt_ag {R R' : Nat → Int32} (h : Ag R R') : wt R = wt R' := by rw [wt, wt, h 0 (by omega)]
theorem rSel_ag {X X' Y Y' : Nat → Int32} (hX : Ag X X') (hY : Ag Y Y') {a o p : Nat} (ho : o ≤ 34) (hp : p < 16) : rSel X Y a o p = rSel X' Y' a o p := by
  unfold rSel
  split
  · exact hX _ (by omega)
  · exact hY _ (by omega)
theorem rBet_ag {X X' Y Y' : Nat → Int32} (hX : Ag X X') (hY : Ag Y Y') {a b p q : Nat} (hp : p < 16) (hq : q < 16) : rBet X Y a b p q = rBet X' Y' a b p q := by
  unfold rBet
  split
  · split
    · exact hX _ (by omega)
    · rfl
  · split
    · exact hY _ (by omega)
    · rfl
theorem besF_ag {X X' Y Y' : Nat → Int32} (hX : Ag X X') (hY : Ag Y Y') {a b P : Nat} (hP : P ≤ 16) (k : Nat) : besF X Y a b P k = besF X' Y' a b P k := by
  simp only [besF]
  (repeat' split) <;> first | rfl | exact rSel_ag hX hY (by omega) (by omega) | exact rBet_ag hX hY (by omega) (by omega)
theorem rBes_ag {X X' Y Y' : Nat → Int32} (hX : Ag X X') (hY : Ag Y Y') (a b : Nat) : rBes X Y a b = rBes X' Y' a b := by
  unfold rBes
  split
  · exact funext fun k => besF_ag hX hY (by omega) k
  · rfl
theorem rSum_ag {X X' Y Y' : Nat → Int32} (hX : Ag X X') (hY : Ag Y Y') (a b : Nat) : rSum X Y a b = rSum X' Y' a b := by
  unfold rSum
  rw [rBes_ag hX hY, hX 1 (by omega), hY 1 (by omega)]
theorem rJoin_ag {X X' Y Y' : Nat → Int32} (hX : Ag X X') (hY : Ag Y Y') (a b : Nat) : rJoin X Y a b = rJoin X' Y' a b := by
  unfold rJoin
  rw [rBes_ag hX hY]
  split
  · funext k
    simp only [joQ, joP]
    rw [hX 1 (by omega), hY 1 (by omega)]
    (repeat' split) <;> first | rfl | (rw [hY _ (by omega)]; done) | (rw [hX _ (by omega)]; done) | (rw [hX _ (by omega), hY _ (by omega)]; done)
  · rfl
theorem endF_ag {R R' : Nat → Int32} (h : Ag R R') (s e : Int32) : ∀ n, n ≤ 16 → endF R s e n = endF R' s e n := by
  intro n
  induction n with
  | zero => intro _; rfl
  | succ n ih => intro hn; rw [endF, endF, ih (by omega), h (34 + n) (by omega)]
theorem goC_ag {R R' : Nat → Int32} (h : Ag R R') {a : Nat} (ha : a ≤ 16) (set atom act : Int32) (beg : Prop) {q : Nat} (hq : q < 16) : goC R a set atom act beg q = goC R' a set atom act beg q := by
  unfold goC
  rw [h (2 + q) (by omega), h (18 + q) (by omega)]
  refine propext ⟨fun x => ⟨x.1, ?_⟩, fun x => ⟨x.1, ?_⟩⟩
  · rcases x.2 with y | ⟨p, y1, y2, y3⟩
    · exact Or.inl y
    · exact Or.inr ⟨p, y1, y2, by rw [← h _ (by omega)]; exact y3⟩
  · rcases x.2 with y | ⟨p, y1, y2, y3⟩
    · exact Or.inl y
    · exact Or.inr ⟨p, y1, y2, by rw [h _ (by omega)]; exact y3⟩
theorem goF_ag {R R' : Nat → Int32} (h : Ag R R') {a : Nat} (ha : a ≤ 16) (set atom act : Int32) (beg : Prop) : ∀ n, n ≤ 16 → goF R a set atom act beg n = goF R' a set atom act beg n := by
  intro n
  induction n with
  | zero => intro _; rfl
  | succ n ih => intro hn; rw [goF, goF, ih (by omega), goC_ag h ha set atom act beg (by omega)]
/-- two pairs that say the same -/
def kAg (P P' : kP) : Prop := P.1 = P'.1 ∧ P.2.1 = P'.2.1 ∧ Ag P.2.2.1 P'.2.2.1 ∧ Ag P.2.2.2.1 P'.2.2.2.1 ∧ Ag P.2.2.2.2.1 P'.2.2.2.2.1 ∧ P.2.2.2.2.2 = P'.2.2.2.2.2 ∧ P.2.2.2.2.2.1 ≤ 16 ∧ P.2.2.2.2.2.2.1 ≤ 16 ∧ P.2.2.2.2.2.2.2 ≤ 16
theorem kAg.gd {P P' : kP} (g : kAg P P') : kGd P = kGd P' := by
  obtain ⟨g1, g2, g3, g4, g5, g6, g7, g8, g9⟩ := g
  funext key
  unfold kGd
  rw [g1, g5 1 (by omega), endF_ag g5 _ _ _ g9, g6]
theorem kAg.e1 {P P' : kP} (g : kAg P P') : kE1 P = kE1 P' := by
  have hg := g.gd
  obtain ⟨g1, g2, g3, g4, g5, g6, g7, g8, g9⟩ := g
  funext key
  unfold kE1
  rw [hg, g3 1 (by omega), endF_ag g3 _ _ _ g7, g6]
theorem kAg.e2 {P P' : kP} (g : kAg P P') : kE2 P = kE2 P' := by
  have hg := g.gd
  obtain ⟨g1, g2, g3, g4, g5, g6, g7, g8, g9⟩ := g
  funext key
  unfold kE2
  rw [hg, g4 1 (by omega), endF_ag g4 _ _ _ g8, g6]
theorem kAg.sc {P P' : kP} (g : kAg P P') : kSc P = kSc P' := by
  have hg := g.gd
  obtain ⟨g1, g2, g3, g4, g5, g6, g7, g8, g9⟩ := g
  funext key j
  have eA : kA P key j = kA P' key j := by
    unfold kA
    rw [goF_ag g3 g7 _ _ _ _ _ g7, g6]
  have eB : kB P key j = kB P' key j := by
    unfold kB
    rw [goF_ag g4 g8 _ _ _ _ _ g8, g6]
  have eF : kF P key j = kF P' key j := by
    unfold kF
    rw [goF_ag g5 g9 _ _ _ _ _ g9, g6]
  unfold kSc
  rw [hg, eA, eB, eF, g1, g2]
theorem LD.ag {P P' : kP} (g : kAg P P') {m N : Nat} {h : HS} (l : LD P m h N) : LD P' m h N := by
  unfold LD at l ⊢
  rw [← g.sc, ← g.e1, ← g.e2]
  exact l
/-- what the facts of a set forbid, without the heap -/
def fbA (s : Int32) (F : Nat → Nat → Int32) : Nat → Nat → Int32
  | 0 => rPlain 0
  | f + 1 => if s >>> (nI f &&& 31) &&& 1 = 1 then rSum (fbA s F f) (F f) (wt (fbA s F f)) (wt (F f)) else fbA s F f
theorem fbR_A (s : Int32) (ρ : Nat → Int32) : ∀ f, f ≤ 2 → Ag (gRec (fbR s ρ f) 90) (fbA s (fun f => tr (gRec ρ (8 + f))) f) := by
  intro f
  induction f with
  | zero => intro _ k hk; rw [fbR, fbA, gRec_pRec hk]
  | succ f ih =>
    intro hf
    have ih := ih (by omega)
    have h8 : Ag (gRec (fbR s ρ f) (8 + f)) (tr (gRec ρ (8 + f))) := fun k hk => by rw [fbR_other hk (by omega) (by omega)]; exact ag_tr _ k hk
    unfold fbR fbA
    split
    · intro k hk
      rw [gRec_pRec hk, gRec_pRec hk, rSum_ag ih h8, wt_ag ih, wt_ag h8]
    · exact ih
/-- the pair of two records, facts F of which those of the set s are assumed -/
def pP (t a s : Int32) (F : Nat → Nat → Int32) (nf : Nat) (R R' : Nat → Int32) : kP := (t, a, R, R', fbA s F nf, wt R, wt R', wt (fbA s F nf))
/-- a record of the reference -/
def mPr (m : Nat) (h : HS) (r : Nat) : Nat → Int32 := tr (gRec (hI h (m + 1)) r)
def mFc (m : Nat) (h : HS) (f : Nat) : Nat → Int32 := mPr m h (8 + f)
theorem kOf_ag {m : Nat} {h : HS} {nf : Nat} {fw : Nat → Nat} (hF : mFa m h nf fw) (s : Int32) {r o wr wo : Nat} (hr1 : r ≠ 90) (hr2 : r ≠ 93) (ho1 : o ≠ 90) (ho2 : o ≠ 93) (lr : wr ≤ 6) (lo : wo ≤ 6) (hwr : gRec (hI h (m + 1)) r 0 = nI wr) (hwo : gRec (hI h (m + 1)) o 0 = nI wo) : kAg (kOf m h nf s r o) (pP (hI h m 2) (hI h m 3) s (mFc m h) nf (mPr m h r) (mPr m h o)) := by
  obtain ⟨wf, lf, hwf⟩ := hF.w s
  have h90 := fbR_A s (hI h (m + 1)) nf hF.1
  refine ⟨rfl, rfl, fun k hk => ?_, fun k hk => ?_, h90, ?_, ?_, ?_, ?_⟩
  · show gRec (fbR s (hI h (m + 1)) nf) r k = mPr m h r k
    rw [fbR_other hk hr1 hr2]
    exact ag_tr _ k hk
  · show gRec (fbR s (hI h (m + 1)) nf) o k = mPr m h o k
    rw [fbR_other hk ho1 ho2]
    exact ag_tr _ k hk
  · show (wt _, wt _, wt _) = (wt (mPr m h r), wt (mPr m h o), wt (fbA s (mFc m h) nf))
    rw [wt_ag (ag_tr (gRec (hI h (m + 1)) r)), wt_ag (ag_tr (gRec (hI h (m + 1)) o)), wt_ag h90]
    rfl
  · show wt _ ≤ 16
    rw [wt_of hwr (by omega)]; omega
  · show wt _ ≤ 16
    rw [wt_of hwo (by omega)]; omega
  · show wt _ ≤ 16
    rw [wt_of hwf (by omega)]; omega
theorem mPr_kp {m : Nat} {h h' : HS} (k : mKp m h h') {r : Nat} (hr : r < 11) : mPr m h' r = mPr m h r := tr_ag (fun j hj => k.2.2.2.1 r j hr hj)
theorem mFc_kp {m : Nat} {h h' : HS} (k : mKp m h h') {f : Nat} (hf : f < 3) : mFc m h' f = mFc m h f := mPr_kp k (by omega)
theorem fbA_cg {s : Int32} {F F' : Nat → Nat → Int32} {n : Nat} (h : ∀ f, f < n → F f = F' f) : ∀ f, f ≤ n → fbA s F f = fbA s F' f := by
  intro f
  induction f with
  | zero => intro _; rfl
  | succ f ih => intro hf; rw [fbA, fbA, ih (by omega), h f (by omega)]
/-- the pairs that questions ask for -/
def P1 (m : Nat) (h : HS) (nf r : Nat) : kP := pP (hI h m 2) (hI h m 3) (hI h m 6) (mFc m h) nf (mPr m h r) (rPlain 0)
def P2s (m : Nat) (h : HS) (nf : Nat) (s : Int32) (r q : Nat) : kP := pP (hI h m 2) (hI h m 3) s (mFc m h) nf (mPr m h r) (mPr m h q)
def P2 (m : Nat) (h : HS) (nf r q : Nat) : kP := P2s m h nf (hI h m 6) r q
theorem P2s_kp {m nf : Nat} {h h' : HS} (k : mKp m h h') (hf : nf ≤ 2) (s : Int32) {r q : Nat} (hr : r < 8) (hq : q < 8) : P2s m h' nf s r q = P2s m h nf s r q := by
  unfold P2s pP
  rw [k.2.1 2 (by omega) (by omega) (by omega), k.2.1 3 (by omega) (by omega) (by omega), mPr_kp k (by omega), mPr_kp k (by omega), fbA_cg (fun f hf => mFc_kp k (by omega)) nf (Nat.le_refl _)]
theorem P2_kp {m nf : Nat} {h h' : HS} (k : mKp m h h') (hf : nf ≤ 2) {r q : Nat} (hr : r < 8) (hq : q < 8) : P2 m h' nf r q = P2 m h nf r q := by
  unfold P2
  rw [P2s_kp k hf _ hr hq, k.2.1 6 (by omega) (by omega) (by omega)]
/-- the states of a pair as the reference laid them -/
def LDU (P : kP) (m : Nat) (h : HS) (N : Nat) : Prop := LD P m h N ∧ LU m h N
theorem lay_1 {m nf : Nat} {fw : Nat → Nat} {h h1 : HS} (hF : mFa m h nf fw) {r wr : Nat} (hr : r < 8) (lr : wr ≤ 6) (hwr : gRec (hI h (m + 1)) r 0 = nI wr) (hp : layP m (hs92 m h) nf (hI h m 6) r 92 h1) : ∃ N, LDU (P1 m h nf r) m h1 N ∧ mKp m h h1 := by
  have k9 := mKp_92 m h
  have hk := k9.tr (mKp_lay hp)
  obtain ⟨N, hL, hU, -⟩ := hp
  refine ⟨N, ⟨hL.ag ?_, hU⟩, hk⟩
  have e92 : Ag (gRec (hI (hs92 m h) (m + 1)) 92) (rPlain 0) := fun k hk => by
    unfold hs92
    rw [hI_sF_eq, gRec_pRec hk]
  have a := kOf_ag (hF.kp k9) (hI h m 6) (r := r) (o := 92) (wr := wr) (wo := 0) (by omega) (by omega) (by omega) (by omega) lr (by omega) (by rw [k9.2.2.2.1 r 0 (by omega) (by omega)]; exact hwr) (by rw [e92 0 (by omega)]; rfl)
  obtain ⟨a1, a2, a3, a4, a5, a6, a7, a8, a9⟩ := a
  unfold P1 pP
  refine ⟨a1.trans (k9.2.1 2 (by omega) (by omega) (by omega)), a2.trans (k9.2.1 3 (by omega) (by omega) (by omega)), ?_, ?_, ?_, ?_, a7, a8, a9⟩
  · exact a3.tr (by show Ag (mPr m (hs92 m h) r) _; rw [mPr_kp k9 (by omega)]; exact Ag.rf _)
  · exact a4.tr ((ag_tr _).sy.tr e92)
  · exact a5.tr (by show Ag (fbA _ (mFc m (hs92 m h)) nf) _; rw [fbA_cg (fun f hf => mFc_kp k9 (by have := hF.1; omega)) nf (Nat.le_refl _)]; exact Ag.rf _)
  · rw [a6]
    show (wt (mPr m (hs92 m h) r), wt (mPr m (hs92 m h) 92), wt (fbA _ (mFc m (hs92 m h)) nf)) = _
    rw [mPr_kp k9 (by omega), fbA_cg (fun f hf => mFc_kp k9 (by have := hF.1; omega)) nf (Nat.le_refl _), ← wt_ag (R' := mPr m (hs92 m h) 92) (ag_tr _), wt_ag e92]
theorem lay_2s {m nf : Nat} {fw : Nat → Nat} {h h1 : HS} (hF : mFa m h nf fw) {s : Int32} {r q wr wq : Nat} (hr : r < 8) (hq : q < 8) (lr : wr ≤ 6) (lq : wq ≤ 6) (hwr : gRec (hI h (m + 1)) r 0 = nI wr) (hwq : gRec (hI h (m + 1)) q 0 = nI wq) (hp : layP m h nf s r q h1) : ∃ N, LDU (P2s m h nf s r q) m h1 N ∧ mKp m h h1 := by
  have hk := mKp_lay hp
  obtain ⟨N, hL, hU, -⟩ := hp
  exact ⟨N, ⟨hL.ag (kOf_ag hF s (by omega) (by omega) (by omega) (by omega) lr lq hwr hwq), hU⟩, hk⟩
theorem lay_2 {m nf : Nat} {fw : Nat → Nat} {h h1 : HS} (hF : mFa m h nf fw) {r q wr wq : Nat} (hr : r < 8) (hq : q < 8) (lr : wr ≤ 6) (lq : wq ≤ 6) (hwr : gRec (hI h (m + 1)) r 0 = nI wr) (hwq : gRec (hI h (m + 1)) q 0 = nI wq) (hp : layP m h nf (hI h m 6) r q h1) : ∃ N, LDU (P2 m h nf r q) m h1 N ∧ mKp m h h1 := lay_2s hF hr hq lr lq hwr hwq hp
/-- how many states: one number alone -/
theorem bfs_fix {sc : Int64 → Nat → Option Int64} {N : Nat} (h : (bfs sc (24 * N)).length = N) : ∀ d, bfs sc (24 * N + d) = bfs sc (24 * N) := by
  intro d
  induction d with
  | zero => rfl
  | succ d ih =>
    show bstep sc (bfs sc (24 * N + d)) (24 * N + d) = _
    rw [ih]
    have e : (bfs sc (24 * N))[(24 * N + d) / 24]? = none := List.getElem?_eq_none (by omega)
    simp only [bstep, e]
theorem bfs_one {sc : Int64 → Nat → Option Int64} {N N' : Nat} (h : (bfs sc (24 * N)).length = N) (h' : (bfs sc (24 * N')).length = N') : N = N' := by
  rcases Nat.le_total N N' with q | q
  · have e := bfs_fix h (24 * N' - 24 * N)
    rw [show 24 * N + (24 * N' - 24 * N) = 24 * N' by omega] at e
    rw [e, h] at h'
    exact h'
  · have e := bfs_fix h' (24 * N - 24 * N')
    rw [show 24 * N' + (24 * N - 24 * N') = 24 * N by omega] at e
    rw [e, h'] at h
    exact h.symm
/-- the pair's records have the same strings -/
def kEq (P : kP) : Prop := ∃ N, (bfs (kSc P) (24 * N)).length = N ∧ ∀ (s : Nat) (q : Int64 × Nat), (bfs (kSc P) (24 * N))[s]? = some q → kE1 P q.1 = kE2 P q.1
theorem LD.eq_iff {P : kP} {m N : Nat} {h : HS} (l : LD P m h N) : kEq P ↔ ∀ t, t < N → hI h (m + 8) t = hI h (m + 9) t := by
  obtain ⟨l1, l2, l3, l4, l5, l6⟩ := l
  constructor
  · rintro ⟨N', e, a⟩ t ht
    have := bfs_one l4 e
    subst this
    obtain ⟨q, hq⟩ : ∃ q, (bfs (kSc P) (24 * N))[t]? = some q := ⟨_, List.getElem?_eq_getElem (by omega)⟩
    rw [(l6 t q hq).1, (l6 t q hq).2]
    exact a t q hq
  · intro a
    refine ⟨N, l4, fun s q hq => ?_⟩
    have hs := (List.getElem?_eq_some_iff.mp hq).1
    have := a s (by omega)
    rw [(l6 s q hq).1, (l6 s q hq).2] at this
    exact this
