/-! The class: a search begun over two pieces; tabulate, alike -/
theorem wt_pl0 : wt (rPlain 0) = 0 := wt_of (a := 0) rfl (by omega)
section X2
variable {w : gD} {x W : Nat} {h : HS} {V : aV} {RC : Nat → Nat → Int32}
/-- the search alone has changed -/
theorem qKp_sfr {h1 : HS} (a : sfr (x + 17) h h1) : qKp x h h1 := by
  obtain ⟨a1, a2⟩ := a
  have e1 : h1.2.1 = h.2.1 := by rw [a1]
  have e2 : h1.2.2.1 = h.2.2.1 := by rw [a1]
  have e3 : h1.2.2.2.1 = h.2.2.2.1 := by rw [a1]
  have e4 : h1.2.2.2.2.1 = h.2.2.2.2.1 := by rw [a1]
  have e5 : h1.2.2.2.2.2 = h.2.2.2.2.2 := by rw [a1]
  exact ⟨e5, e3, e4, fun b k _ => by show h1.2.2.1 b k = h.2.2.1 b k; rw [e2], fun b b1 b2 => a2 b (by omega), fun k _ => by rw [a2 x (by omega)], fun b _ _ => by show h1.2.1 b = h.2.1 b; rw [e1]⟩
theorem qKp_hS {F BH NU SI CA : Nat → Int32} : qKp x h (hS (x + 17) h F BH NU SI CA) := qKp_sfr (sfr_hS _ _ _ _ _ _ _)
theorem kvT.e {h1 : HS} (t : kvT x h V RC) (e1 : hR h1 (x + 36) 5 = hR h (x + 36) 5) (e2 : hT h1 = hT h) (e3 : ∀ i, i ≤ 10 → hI h1 (x + 36 + i) = hI h (x + 36 + i)) : kvT x h1 V RC := by
  rcases t with t | ⟨a, f, t1, t2, t3, t4, t5⟩
  · exact Or.inl (e1.trans t)
  · refine Or.inr ⟨a, f, e1.trans t1, by rw [e2]; exact t2, t3, by rw [show hI h1 (x + 36) = hI h (x + 36) from e3 0 (by omega)]; exact t4, ?_⟩
    obtain ⟨v, N, R, o1, o2, o3, o4, o5, o6, o7, o8⟩ := t5
    have g : ∀ i, i ≤ 10 → (fun i => hI h1 (x + 36 + i)) i = (fun i => hI h (x + 36 + i)) i := e3
    refine ⟨v, N, R, o1, o2, o3, by rw [g 0 (by omega)]; exact o4, fun i q hq => ?_, ?_, ?_, ?_⟩
    · rw [g 1 (by omega), g 2 (by omega), g 3 (by omega)]; exact o5 i q hq
    · rw [g 1 (by omega), g 3 (by omega), g 4 (by omega)]; exact o6
    · rw [g 1 (by omega)]; exact o7
    · rw [g 4 (by omega)]; exact o8
/-- behind a search -/
theorem K0.sr (K : K0 x W h V RC) {h1 : HS} (a : sfr (x + 17) h h1) (s : sId (x + 17) h1) : K0 x W h1 V RC := by
  have k := qKp_sfr a
  refine K.q k (K.2.2.2.2.1.e (by show h1.2.2.1 (x + 36) 5 = h.2.2.1 (x + 36) 5; rw [a.1]) k.1 (fun i hi => a.2 _ (by omega))) ⟨s, ?_⟩
  · have e1 : h1.2.1 = h.2.1 := by rw [a.1]
    intro j hj
    show h1.2.1 (x + 35) j = 0
    rw [e1]
    exact K.2.2.2.2.2.2 j hj
/-- a piece with which a search can begin -/
def qPc (x : Nat) (h : HS) (a : Nat) (R : Nat → Int32) : Prop := x + 35 < a ∧ wt R ≤ 6 ∧ pcS h a (wt R) R
theorem K0.nothing (K : K0 x W h V RC) : qPc x h (x + 49) (rPlain 0) := ⟨by omega, by rw [wt_pl0]; omega, by rw [wt_pl0]; exact K.1.2.2.2.2.2.2.2.2.1.2⟩
theorem K0.pc (K : K0 x W h V RC) {r : Nat} (hr : r < vNp V) : ∃ a, hR h (W + 1) r = some a ∧ RC a = vPR V r ∧ qPc x h a (vPR V r) ∧ x + 49 < a ∧ a < hT h ∧ hI h (W + 2) r = vPR V r 306 := by
  obtain ⟨a, a1, a2, ⟨⟨a3, a4⟩, ⟨a5, a6⟩, a7⟩, a8⟩ := K.2.2.1.2.1 r hr
  have : wt (vPR V r) ≤ 5 := ((K.2.1.2.1 (vA V) (Nat.le_refl _)).2.2 r hr).1
  exact ⟨a, a1, a2, ⟨by omega, by omega, a7⟩, a3, a5, a8⟩
/-- the pair of two pieces -/
def xP (V : aV) (s : Nat) (R R' : Nat → Int32) : kP := pP (nI (vNt V)) (nI (vNa V)) (nI s) (vFR V) (vNf V) R R'
theorem xP_sm {s : Nat} (hs : s < 4) (hV : vOK V) {R R' : Nat → Int32} (h1 : wt R ≤ 6) (h2 : wt R' ≤ 6) : kSm (xP V s R R') := ⟨h1, h2, hV.2.2.1 s hs⟩
/-- a search that has begun over a pair -/
def xBg (x : Nat) (V : aV) (h : HS) (P : kP) (h' : HS) : Prop := ∃ h1 F BH NU SI CA, h' = hS (x + 17) h1 F BH NU SI CA ∧ sRd P (x + 17) h1 ∧ sFl P (vNt V) (vNa V) F ∧ sQ [(BEG, 0)] F NU SI CA ∧ sfr (x + 17) h h1
theorem e_x_begin (K : K0 x W h V RC) {s : Nat} (hs : s < 4) {xa ya : Nat} {R1 R2 : Nat → Int32} (px : qPc x h xa R1) (py : qPc x h ya R2) : Ev w 2 0 0 yX5_begin cX5_begin 6 none [.ref (x + 17), .ref W, .int (nI s), .ref xa, .ref ya] h (fun r' h' => r' = none ∧ xBg x V h (xP V s R1 R2) h') := by
  obtain ⟨hx, hV, ⟨⟨w0, w1, -⟩, -, -, w4⟩, -, -, s1, -⟩ := id K
  obtain ⟨b, b1, ⟨b2, ⟨b3, b4⟩, b5⟩⟩ := w4 s hs
  have hW := hx.2.2.2.2.2.2.2.2.2.1
  exact e_s_begin hx.2.2.2.2.2.1.2 s1 hx.2.2.2.1.2 hV.1.1 hV.1.2.1 w0 w1 hs b1 ⟨px.2.1, py.2.1, hV.2.2.1 s hs⟩ px.2.2 py.2.2 b5 (by omega) (by have := px.1; omega) (by have := py.1; omega) (by omega)
theorem K0.bg (K : K0 x W h V RC) {s : Nat} (hs : s < 4) {R1 R2 : Nat → Int32} (h1 : wt R1 ≤ 6) (h2 : wt R2 ≤ 6) {h' : HS} (b : xBg x V h (xP V s R1 R2) h') : K0 x W h' V RC ∧ qKp x h h' := by
  obtain ⟨g, F, BH, NU, SI, CA, rfl, b1, b2, b3, b4⟩ := b
  have f := b4.tr (sfr_hS (x + 17) g F BH NU SI CA)
  have sm := xP_sm (V := V) hs K.2.1 h1 h2
  exact ⟨K.sr f (sQ.id sm (bfs_ok sm 0) b3), qKp_sfr f⟩
/-- what findApart finds: the situation and where in it -/
def fdP (P : kP) (b : Int32) (i : Nat) (key : Int64) : Prop := (∃ v, (bfs (kSc P) (24 * i))[i]? = some (key, v)) ∧ ¬ apF P b key = 0 ∧ ∀ (j : Nat) (p : Int64 × Nat), (bfs (kSc P) (24 * i))[j]? = some p → j < i → apF P b p.1 = 0
def noP (P : kP) (b : Int32) : Prop := ∃ N, (bfs (kSc P) (24 * N)).length = N ∧ ∀ (j : Nat) (p : Int64 × Nat), (bfs (kSc P) (24 * N))[j]? = some p → apF P b p.1 = 0
theorem fd_lt {P : kP} {b : Int32} {i N : Nat} {key : Int64} (f : fdP P b i key) (hN : (bfs (kSc P) (24 * N)).length = N) : i < N ∧ (∃ v, (bfs (kSc P) (24 * N))[i]? = some (key, v)) ∧ ∀ (j : Nat) (p : Int64 × Nat), (bfs (kSc P) (24 * N))[j]? = some p → j < i → apF P b p.1 = 0 := by
  obtain ⟨⟨v, f1⟩, f2, f3⟩ := f
  have hi : i < N := by
    apply Classical.byContradiction
    intro n
    have e := bfs_fix hN (24 * (i - N))
    rw [show 24 * N + 24 * (i - N) = 24 * i by omega] at e
    rw [e] at f1
    have := (List.getElem?_eq_some_iff.mp f1).1
    omega
  have st := bfs_stay f1 (24 * N - 24 * i)
  rw [show 24 * i + (24 * N - 24 * i) = 24 * N by omega] at st
  refine ⟨hi, ⟨v, st⟩, fun j p hp hj => ?_⟩
  have hl : i < (bfs (kSc P) (24 * i)).length := (List.getElem?_eq_some_iff.mp f1).1
  obtain ⟨q, hq⟩ : ∃ q, (bfs (kSc P) (24 * i))[j]? = some q := ⟨_, List.getElem?_eq_getElem (by omega)⟩
  have st2 := bfs_stay hq (24 * N - 24 * i)
  rw [show 24 * i + (24 * N - 24 * i) = 24 * N by omega, hp] at st2
  cases Option.some.inj st2
  exact f3 j p hq hj
theorem apF0 {P : kP} {key : Int64} : apF P 0 key = 0 ↔ kE1 P key = kE2 P key := by
  unfold apF
  rw [if_pos rfl]
  constructor
  · intro e
    refine hasB_ext fun a ha => ?_
    have n : ¬ hasB (kE1 P key &&& (kE2 P key ^^^ -1) ||| kE2 P key &&& (kE1 P key ^^^ -1)) (nI a) := by rw [e]; exact hasB_0 ha
    rw [hasB_or ha, hasB_and ha, hasB_and ha, hasB_nt ha, hasB_nt ha] at n
    constructor
    · intro q
      apply Classical.byContradiction
      intro r
      exact n (Or.inl ⟨q, r⟩)
    · intro q
      apply Classical.byContradiction
      intro r
      exact n (Or.inr ⟨q, r⟩)
  · intro e
    rw [e]
    refine hasB_ext fun a ha => ?_
    rw [hasB_or ha, hasB_and ha, hasB_nt ha]
    exact ⟨fun q => by rcases q with q | q <;> exact absurd q.1 q.2, fun q => absurd q (hasB_0 ha)⟩
theorem noP_eq {P : kP} : noP P 0 ↔ kEq P := by
  constructor
  · rintro ⟨N, h1, h2⟩
    exact ⟨N, h1, fun s q hq => apF0.mp (h2 s q hq)⟩
  · rintro ⟨N, h1, h2⟩
    exact ⟨N, h1, fun s q hq => apF0.mpr (h2 s q hq)⟩
theorem fd_no {P : kP} {b : Int32} {i : Nat} {key : Int64} (f : fdP P b i key) : ¬ noP P b := by
  intro q
  obtain ⟨N, h1, h2⟩ := q
  obtain ⟨-, st, -⟩ := fd_lt f h1
  obtain ⟨v, st⟩ := st
  have e : apF P b key = 0 := h2 i (key, v) st
  obtain ⟨-, n, -⟩ := f
  exact n e
/-- findApart over a pair -/
theorem e_x_find (K : K0 x W h V RC) {s : Nat} (hs : s < 4) {R1 R2 : Nat → Int32} (h1 : wt R1 ≤ 6) (h2 : wt R2 ≤ 6) {h' : HS} (bg : xBg x V h (xP V s R1 R2) h') {b : Int32} (hb : b = 0 ∨ b = 1) :
    Ev w 4 0 0 yX5_findApart cX5_findApart 4 (some .boolean) [.ref (x + 17), .int b] h' (fun r' g => K0 x W g V RC ∧ qKp x h g ∧ ((r' = some (.int 1) ∧ ∃ i key g1 F BH NU SI CA, g = hS (x + 17) g1 F BH NU SI CA ∧ sSh (x + 17) g1 ∧ sQ (bfs (kSc (xP V s R1 R2)) (24 * i)) F NU SI CA ∧ fdP (xP V s R1 R2) b i key ∧ F 13 = nI i ∧ F 14 = ntzF (apF (xP V s R1 R2) b key) ∧ F 1 = kE1 (xP V s R1 R2) key) ∨ (r' = some (.int 0) ∧ noP (xP V s R1 R2) b))) := by
  obtain ⟨g1, F, BH, NU, SI, CA, rfl, b1, b2, b3, b4⟩ := id bg
  obtain ⟨K1, k1⟩ := K.bg hs h1 h2 bg
  have sm := xP_sm (V := V) hs K.2.1 h1 h2
  have ss : sSh (x + 17) g1 := K.1.2.2.2.2.2.1.2.e b4.1
  refine Ev.to (e_s_findApart ss b1 b2 b3 hb) (fun r' g hp => ?_)
  obtain ⟨i, F', BH', NU', SI', CA', rfl, q1, q2, q3⟩ := hp
  have fr : sfr (x + 17) h (hS (x + 17) g1 F' BH' NU' SI' CA') := b4.tr (sfr_hS _ _ _ _ _ _ _)
  refine ⟨K.sr fr (sQ.id sm (bfs_ok sm _) q1), qKp_sfr fr, ?_⟩
  rcases q3 with ⟨rfl, key, v, e1, e2, e3, e4, e5⟩ | ⟨rfl, e1⟩
  · exact Or.inl ⟨rfl, i, key, g1, F', BH', NU', SI', CA', rfl, ss, q1, ⟨⟨v, e1⟩, e2, q2⟩, e3, e4, e5⟩
  · refine Or.inr ⟨rfl, i, e1, fun j p hp => q2 j p hp ?_⟩
    have := (List.getElem?_eq_some_iff.mp hp).1
    omega
theorem e_x_alike (K : K0 x W h V RC) {s r q : Nat} (hs : s < 4) (hr : r < vNp V) (hq : q < vNp V) : Ev w 5 0 0 yX9_alike cX9_alike 4 (some .boolean) [.ref x, .int (nI s), .int (nI r), .int (nI q)] h (fun r' h' => K0 x W h' V RC ∧ qKp x h h' ∧ ((r' = some (.int 1) ∧ kEq (vP2 V s r q)) ∨ (r' = some (.int 0) ∧ ¬ kEq (vP2 V s r q) ∧ ∃ i key, fdP (vP2 V s r q) 0 i key ∧ hI h' (x + 17) 1 = kE1 (vP2 V s r q) key ∧ hI h' (x + 17) 14 = ntzF (apF (vP2 V s r q) 0 key)))) := by
  refine g_start (by decide) (Nat.le_of_ble_eq_true rfl) [(0, _), (1, _), (2, _), (3, _)] rfl (fun z hfl C => ?_)
  have hx := K.1
  obtain ⟨-, -, w2, -, -⟩ := K.2.2.1.1
  have hnp := (K.2.1.2.1 (vA V) (Nat.le_refl _)).1
  obtain ⟨a, a1, a2, a3, -⟩ := K.pc hr
  obtain ⟨b, b1, b2, b3, -⟩ := K.pc hq
  refine g_aload_n C (gd DX9_alike_0 0 rfl) 0 rfl rfl ?_
  refine g_getr (ci := 9) (k := 8) C rfl (by decide) rfl lf_TestJudge_50 hx.1 hx.2.2.2.2.2.1.1 (gd DX9_alike_0 1 rfl) ?_
  refine g_aload_n C (gd DX9_alike_0 2 rfl) 0 rfl rfl ?_
  refine g_getr (ci := 9) (k := 6) C rfl (by decide) rfl lf_TestJudge_36 hx.1 hx.2.2.2.1.1 (gd DX9_alike_0 3 rfl) ?_
  refine g_iload_n C (gd DX9_alike_0 4 rfl) 1 rfl rfl ?_
  refine g_aload_n C (gd DX9_alike_0 5 rfl) 0 rfl rfl ?_
  refine g_getr (ci := 9) (k := 6) C rfl (by decide) rfl lf_TestJudge_36 hx.1 hx.2.2.2.1.1 (gd DX9_alike_0 6 rfl) ?_
  refine g_iload_n C (gd DX9_alike_0 7 rfl) 2 rfl rfl ?_
  refine g_cV1 (ci := 8) C [_] mX8_piece lm_TestJudge_158 (by exact hx.2.2.2.1.2.1) rfl rfl (e_w_piece hx.2.2.2.1.2 hnp w2 hr a1) hfl (by first | decide | omega) (by decide) (by omega) (by omega) rfl rfl (Nat.le_of_ble_eq_true rfl) (gd DX9_alike_0 8 rfl) ?_
  refine g_aload_n C (gd DX9_alike_0 9 rfl) 0 rfl rfl ?_
  refine g_getr (ci := 9) (k := 6) C rfl (by decide) rfl lf_TestJudge_36 hx.1 hx.2.2.2.1.1 (gd DX9_alike_0 10 rfl) ?_
  refine g_iload_n C (gd DX9_alike_0 11 rfl) 3 rfl rfl ?_
  refine g_cV1 (ci := 8) C [_] mX8_piece lm_TestJudge_158 (by exact hx.2.2.2.1.2.1) rfl rfl (e_w_piece hx.2.2.2.1.2 hnp w2 hq b1) hfl (by first | decide | omega) (by decide) (by omega) (by omega) rfl rfl (Nat.le_of_ble_eq_true rfl) (gd DX9_alike_0 12 rfl) ?_
  refine g_callV (ci := 5) C [_, _, _, _] mX5_begin lm_TestJudge_197 (by exact hx.2.2.2.2.2.1.2.1) rfl rfl (e_x_begin K hs a3 b3) hfl (by first | decide | omega) (by decide) (by omega) (by omega) rfl rfl (Nat.le_of_ble_eq_true rfl) (gd DX9_alike_0 13 rfl) (fun r g1 hp => ?_)
  obtain ⟨rfl, bg⟩ := hp
  show GW z w 4 _ _ _ _ _ [] _
  obtain ⟨K1, k1⟩ := K.bg hs a3.2.1 b3.2.1 bg
  have hx1 := K1.1
  refine g_aload_n C (gd DX9_alike_0 14 rfl) 0 rfl rfl ?_
  refine g_getr (ci := 9) (k := 8) C rfl (by decide) rfl lf_TestJudge_50 hx1.1 hx1.2.2.2.2.2.1.1 (gd DX9_alike_0 15 rfl) ?_
  refine g_iconst (v := 0) C (gd DX9_alike_0 16 rfl) (by decide) ?_
  refine g_callV (ci := 5) C [_] mX5_findApart lm_TestJudge_204 (by exact hx1.2.2.2.2.2.1.2.1) rfl rfl (e_x_find K hs a3.2.1 b3.2.1 bg (Or.inl rfl)) hfl (by first | decide | omega) (by decide) (by omega) (by omega) rfl rfl (Nat.le_of_ble_eq_true rfl) (gd DX9_alike_0 17 rfl) (fun r g2 hp => ?_)
  obtain ⟨K2, k2, hp⟩ := hp
  have hx2 := K2.1
  rcases hp with ⟨rfl, i, key, h9, F9, BH9, NU9, SI9, CA9, rfl, -, -, fd, -, f14, f1⟩ | ⟨rfl, no⟩
  · show GW z w 4 _ _ _ _ _ [.int 1] _
    refine g_if_ne C 43 (gd DX9_alike_0 18 rfl) (by decide) (fun c36 => ?_) (fun c36 => ?_)
    · refine g_iconst (v := 0) C (gd DX9_alike_0 21 rfl) (by decide) ?_
      exact g_zret C (Or.inl rfl) (by omega) (by omega) ⟨K2, k2, Or.inr ⟨rfl, fun q => fd_no fd (noP_eq.mpr q), i, key, fd, by rw [hS_0]; exact f1, by rw [hS_0]; exact f14⟩⟩ (gd DX9_alike_0 22 rfl)
    · exact absurd c36 (by decide)
  · show GW z w 4 _ _ _ _ _ [.int 0] _
    refine g_if_ne C 43 (gd DX9_alike_0 18 rfl) (by decide) (fun c36 => ?_) (fun c36 => ?_)
    · exact absurd rfl c36
    · refine g_iconst (v := 1) C (gd DX9_alike_0 19 rfl) (by decide) ?_
      refine g_goto (tgt := 44) C (gd DX9_alike_0 20 rfl) (by decide) ?_
      exact g_zret C (Or.inr rfl) (by omega) (by omega) ⟨K2, k2, Or.inl ⟨rfl, noP_eq.mp no⟩⟩ (gd DX9_alike_0 22 rfl)
end X2
