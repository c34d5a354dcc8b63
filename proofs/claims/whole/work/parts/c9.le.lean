/-! The class's load -/
theorem pcW.fr {h g : HS} {a n : Nat} {R : Nat → Int32} (p : pcW h a n R) (ft : hT h ≤ hT g) (f : ∀ b, a ≤ b → b < hT h → hI g b = hI h b ∧ hR g b = hR h b ∧ hK g b = hK h b ∧ hN g b = hN h b) : pcW g a n R := by
  obtain ⟨⟨w0, w1⟩, lt, ⟨⟨t1, t2⟩, t3⟩, r⟩ := p
  obtain ⟨a1, a3, a4, a5⟩ := f a (Nat.le_refl _) lt
  refine ⟨⟨by rw [a1]; exact w0, fun hn => by rw [a1]; exact w1 hn⟩, Nat.lt_of_lt_of_le lt ft, ⟨⟨by rw [a4]; exact t1, by rw [a1]; exact t2⟩, fun q => ?_⟩, fun q hq => ?_⟩
  · obtain ⟨⟨r1, r2, r3⟩, b⟩ := t3 q
    obtain ⟨-, -, c1, d1⟩ := f (a + 1) (by omega) (by omega)
    obtain ⟨-, -, c2, d2⟩ := f (a + 2) (by omega) (by omega)
    obtain ⟨-, -, c3, d3⟩ := f (a + 3) (by omega) (by omega)
    obtain ⟨-, -, c4, d4⟩ := f (a + 4) (by omega) (by omega)
    refine ⟨⟨?_, ?_, ?_⟩, Nat.lt_of_lt_of_le b ft⟩
    · rw [a3]; exact r1
    · rw [c1, c2, c3, c4]; exact r2
    · rw [d1, d2, d3, d4]; exact r3
  · obtain ⟨_, b⟩ := t3 (by omega)
    obtain ⟨c1, -⟩ := f (a + 1) (by omega) (by omega)
    obtain ⟨c2, -⟩ := f (a + 2) (by omega) (by omega)
    obtain ⟨c3, -⟩ := f (a + 3) (by omega) (by omega)
    obtain ⟨c4, -⟩ := f (a + 4) (by omega) (by omega)
    rw [c1, c2, c3, c4]
    exact r q hq
/-- which row holds a piece -/
def fdR (r : Nat → Option Nat) (a : Nat) : Nat → Nat
  | 0 => 0
  | k + 1 => if r k = some a then k else fdR r a k
theorem fdR_eq {r : Nat → Option Nat} {a k : Nat} (hr : r k = some a) : ∀ n, k < n → (∀ j, j < n → ∀ i, i < j → r i ≠ r j) → fdR r a n = k := by
  intro n
  induction n with
  | zero => intro hk; omega
  | succ n ih =>
    intro hk inj
    rw [fdR]
    by_cases e : r n = some a
    · rw [if_pos e]
      by_cases e2 : k = n
      · exact e2.symm
      · exact absurd (hr.trans e.symm) (inj n (by omega) k (by omega))
    · rw [if_neg e]
      have : k ≠ n := fun q => e (by rw [← q]; exact hr)
      exact ih (by omega) (fun j hj => inj j (by omega))
section LE
variable {w : gD} {x W : Nat} {h : HS} {V : aV} {RC : Nat → Nat → Int32} {M : aM}
theorem kvX_ld {U : Nat} {h4 g : HS} (hx : kvX x W h4) (hU : x + 49 < U) (wsh : wSh (U + 1) h4) (lW : U + 1 + 5 < hT h4) (fT : hT h4 ≤ hT g) (fK : ∀ b, b < hT h4 → hK g b = hK h4 b ∧ hN g b = hN h4 b ∧ hL g b = hL h4 b) (e49 : hI g (x + 49) = hI h4 (x + 49)) (fR : ∀ b, b < hT h4 → b ≠ x → b ≠ x + 36 → b ≠ U + 1 + 4 → hR g b = hR h4 b)
    (rX : ∀ k, k ≠ 6 → hR g x k = hR h4 x k) (r6 : hR g x 6 = some (U + 1)) (rT : ∀ k, k ≠ 5 → hR g (x + 36) k = hR h4 (x + 36) k) (pN : pcW g (U + 1 + 5) 0 (rPlain 0)) : kvX x (U + 1) g := by
  obtain ⟨x0, x1, x2, x3, x4, x5, x6, x7, ⟨x8, x9⟩, xW, ⟨xa, xb⟩, xc⟩ := hx
  have eK : ∀ b, b < hT h4 → hK g b = hK h4 b := fun b hb => (fK b hb).1
  have eN : ∀ b, b < hT h4 → hN g b = hN h4 b := fun b hb => (fK b hb).2.1
  have eR : ∀ b k, b < hT h4 → b ≠ x → b ≠ x + 36 → b ≠ U + 1 + 4 → hR g b k = hR h4 b k := fun b k a1 a2 a3 a4 => by rw [fR b a1 a2 a3 a4]
  have p9 : pcS g (x + 49) 0 (rPlain 0) := by
    obtain ⟨p1, p2, p3, p4, p5, p6⟩ := x9
    exact ⟨by rw [eK _ xa]; exact p1, by rw [e49]; exact p2, by rw [e49]; exact p3, by rw [e49]; exact p4, fun q => absurd q (Nat.lt_irrefl 0), fun p hp => absurd hp (Nat.not_lt_zero _)⟩
  unfold kvX kSh wSh dSh sSh rSh tSh ppSh
  unfold kSh at x2
  unfold wSh at wsh
  unfold dSh at x4
  unfold sSh rSh at x5
  unfold tSh at x6
  unfold ppSh at x7
  simp (disch := omega) only [eK, eN, eR, rX, rT]
  exact ⟨x0, x1, x2, ⟨r6, wsh⟩, x4, x5, x6, x7, ⟨x8, p9⟩, Or.inr (by omega), ⟨by omega, by omega⟩, pN.s (by omega)⟩
theorem K0_ld {U N n c j : Nat} {h4 g : HS} {tx : Nat → Nat} {S : pS} (K : K0 x W h4 V RC) (hU : x + 49 < U) (L : cLn U (U + 1) (x + 2) N h4 tx n c j S)
    (fT : hT h4 ≤ hT g) (fK : ∀ b, b < hT h4 → hK g b = hK h4 b ∧ hN g b = hN h4 b ∧ hL g b = hL h4 b)
    (fI : ∀ b, b < hT h4 → b ≠ x → b ≠ x + 12 → b ≠ U + 1 → hI g b = hI h4 b) (fR : ∀ b, b < hT h4 → b ≠ x → b ≠ x + 36 → b ≠ U + 1 + 4 → hR g b = hR h4 b)
    (rX : ∀ k, k ≠ 6 → hR g x k = hR h4 x k) (r6 : hR g x 6 = some (U + 1)) (rT : ∀ k, k ≠ 5 → hR g (x + 36) k = hR h4 (x + 36) k) (r5 : hR g (x + 36) 5 = none)
    (d0 : hI g (x + 12) 0 = 0) (wI : ∀ k, k ≠ 4 → hI g (U + 1) k = hI h4 (U + 1) k) (w4 : hI g (U + 1) 4 = 1 <<< (nI S.1.2.2.2 &&& 31) - 1)
    (bars : ∀ s, s < 4 → ∃ a, hR g (U + 1 + 4) s = some a ∧ U + 1 + 5 ≤ a ∧ pcW g a (wt (fbA (nI s) (vFR (vLd S)) S.1.2.2.2)) (fbA (nI s) (vFR (vLd S)) S.1.2.2.2)) (pN : pcW g (U + 1 + 5) 0 (rPlain 0)) : ∃ RC', K0 x (U + 1) g (vLd S) RC' := by
  obtain ⟨hx4, -, -, -, -, s1, s2⟩ := K
  have xa := hx4.2.2.2.2.2.2.2.2.2.2.1.1
  obtain ⟨⟨⟨-, -, -, wsh, l1, l2, l3, l4⟩, -, -, ⟨-, ⟨n0, n1, n2⟩, -, -, cp⟩⟩, ⟨f1, f2⟩, ly, -, pk⟩ := L
  have ok := vLd_ok pk
  have eK : ∀ b, b < hT h4 → hK g b = hK h4 b := fun b hb => (fK b hb).1
  have eN : ∀ b, b < hT h4 → hN g b = hN h4 b := fun b hb => (fK b hb).2.1
  have nn : ∀ a, U + 1 + 5 < a → ∀ b, a ≤ b → b < hT h4 → hI g b = hI h4 b ∧ hR g b = hR h4 b ∧ hK g b = hK h4 b ∧ hN g b = hN h4 b := fun a ha b b1 b2 => ⟨fI b b2 (by omega) (by omega) (by omega), fR b b2 (by omega) (by omega) (by omega), eK b b2, eN b b2⟩
  have hx : kvX x (U + 1) g := kvX_ld hx4 hU wsh l3 fT fK (fI _ xa (by omega) (by omega) (by omega)) fR rX r6 rT pN
  have pcs : ∀ a (R : pR), pcW h4 a R.1 R.2 → U + 1 + 5 < a → R.1 ≤ 5 → R.2 0 = nI R.1 → okP x (U + 1) g a (tr R.2) ∧ pcW g a (wt (tr R.2)) (tr R.2) := by
    intro a R p la l5 e0
    have q := (p.fr fT (nn a la)).cg (rq_tr _ _)
    have ew : wt (tr R.2) = R.1 := by rw [wt_tr]; exact wt_of e0 (by omega)
    rw [ew]
    refine ⟨⟨⟨by omega, by omega⟩, ⟨q.2.1, fun e => (q.2.2.1.2 (by rw [szP_s (by omega)]; rw [ew] at e; exact e)).2⟩, ?_⟩, q⟩
    rw [ew]
    exact q.s (by omega)
  have prg : ∀ k, k < S.1.2.2.1 → ∃ a, hR g (U + 1 + 1) k = some a ∧ okP x (U + 1) g a (tr (S.2.2.1 k).2) ∧ hI g (U + 1 + 2) k = 0 := by
    intro k hk
    obtain ⟨⟨a, a1, a2⟩, a3, a4⟩ := cp k hk
    obtain ⟨y1, ⟨a', y2, y3⟩, -⟩ := ly k hk
    rw [a1] at y2
    cases y2
    exact ⟨a, by rw [fR _ (by omega) (by omega) (by omega) (by omega)]; exact a1, (pcs a _ a2 y3 a3 a4.1).1, by rw [fI _ (by omega) (by omega) (by omega) (by omega)]; exact y1⟩
  have inj : ∀ j, j < S.1.2.2.1 → ∀ i, i < j → hR g (U + 1 + 1) i ≠ hR g (U + 1 + 1) j := by
    intro j hj
    rw [fR _ (by omega) (by omega) (by omega) (by omega)]
    exact (ly j hj).2.2
  refine ⟨fun a => tr (S.2.2.1 (fdR (hR g (U + 1 + 1)) a S.1.2.2.1)).2, hx, ok, ⟨⟨by rw [wI _ (by omega)]; exact n0, by rw [wI _ (by omega)]; exact n1, by rw [wI _ (by omega)]; exact n2, by rw [wI _ (by omega)]; exact f1, ?_⟩, fun k hk => ?_, fun f hf => ?_, fun s hs => ?_⟩, ⟨d0, fun i hi => absurd hi (Nat.not_lt_zero _)⟩, Or.inl r5, ?_, fun i hi => ?_⟩
  · rw [w4]
    have : S.1.2.2.2 ≤ 2 := pk.1.2.2.2
    show (1 : Int32) <<< (nI S.1.2.2.2 &&& 31) - 1 = nI (2 ^ S.1.2.2.2 - 1)
    rcases (show S.1.2.2.2 = 0 ∨ S.1.2.2.2 = 1 ∨ S.1.2.2.2 = 2 by omega) with e | e | e <;> rw [e] <;> decide
  · obtain ⟨a, a1, a2, a3⟩ := prg k hk
    refine ⟨a, a1, ?_, a2, ?_⟩
    · show tr (S.2.2.1 (fdR (hR g (U + 1 + 1)) a S.1.2.2.1)).2 = tr (S.2.2.1 k).2
      rw [fdR_eq a1 S.1.2.2.1 hk inj]
    · rw [a3]
      show 0 = tr (S.2.2.1 k).2 306
      unfold tr
      rw [if_pos (by omega)]
      exact (pk.2.2.1 k hk).2.2.1.symm
  · obtain ⟨b, b1, b2, b3⟩ := f2 f hf
    have l2 := fsP_ge S.2.2.2 S.1.2.2.2 f hf
    have := pk.2.2.2.2
    obtain ⟨c1, c2⟩ := pcs b _ b2 b3 (by omega) (pk.2.2.2.1 f hf).1
    exact ⟨b, by rw [fR _ (by omega) (by omega) (by omega) (by omega)]; exact b1, b3, by omega, c2.2.1, c2.2.2.1.1.1, c2.1.1⟩
  · obtain ⟨a, a1, a2, a3⟩ := bars s hs
    have w2 : wt (fbA (nI s) (vFR (vLd S)) S.1.2.2.2) ≤ 2 := ok.2.2.1 s hs
    refine ⟨a, Or.inl a1, ?_, ⟨a3.2.1, fun e => (a3.2.2.1.2 (by rw [szP_s (by omega)]; exact e)).2⟩, a3.s (by omega)⟩
    by_cases e : a = U + 1 + 5
    · refine Or.inl ⟨e, ?_⟩
      have z1 := a3.1.1
      rw [e, pN.1.1] at z1
      exact ((nI_eq (by omega) (by omega)).mp z1).symm
    · exact Or.inr ⟨by omega, by omega⟩
  · have e : ∀ i, i ≤ 18 → hI g (x + 17 + i) = hI h4 (x + 17 + i) := fun i hi => fI _ (by omega) (by omega) (by omega) (by omega)
    unfold sId
    rw [show hI g (x + 17) = hI h4 (x + 17) from e 0 (by omega), e 15 (by omega), e 14 (by omega)]
    exact s1
  · rw [(fK (x + 35) (by omega)).2.2]
    exact s2 i hi
theorem e_t_forget {t : Nat} (ht : tSh t h) : EvF w 0 0 0 yX6_forget cX6_forget 1 none [.ref t] h none (sR h t 5 none) := by
  refine g_start (by decide) (Nat.le_of_ble_eq_true rfl) [(0, _)] rfl (fun z hfl C => ?_)
  refine g_aload_n C (gd DX6_forget_0 0 rfl) 0 rfl rfl ?_
  refine g_null C (gd DX6_forget_0 1 rfl) ?_
  refine g_putn (ci := 6) (k := 5) (ty := .object "TestJudge$Piece") C rfl (by decide) rfl lf_TestJudge_Table_28 ht.1 (Or.inl rfl) rfl rfl rfl (gd DX6_forget_0 2 rfl) ?_
  exact g_vret C (by omega) (by omega) ⟨rfl, rfl⟩ (gd DX6_forget_0 3 rfl)
theorem e_x_load (K : K0 x W h V RC) (hM : kvM x h M) (v : Int32) : Ev w 21 (20 * M.1.1 + 400) (244 * M.1.1 + 4200) yX9_load cX9_load 3 (some .int) [.ref x, .int v] h (aQ x (qLod V M v)) := by
  refine g_start (by decide) (Nat.le_of_ble_eq_true rfl) [(0, _), (1, _)] rfl (fun z hfl C => ?_)
  have hx := K.1
  have h5 := hM.1.2.1
  have xa := hx.2.2.2.2.2.2.2.2.2.2.1.1
  have k12 : ¬ (0 ≤ v ∧ v ≤ nI M.1.1) → GW z w 3 (gQ z w (20 * M.1.1 + 400) (244 * M.1.1 + 4200) (fun r' h'' => aQ x (qLod V M v) r' h'')) 0 0 12 [(0, .ref x), (1, .int v)] [] h := by
    intro q
    refine g_aload_n C (gd DX9_load_0 6 rfl) 0 rfl rfl ?_
    refine g_iconst (v := 1) C (gd DX9_load_0 7 rfl) (by decide) ?_
    refine g_cV1 (ci := 9) C [_] mX9_refuse lm_TestJudge_90 (by exact hx.1) rfl rfl (e_x_refuse hx 1) hfl (by first | decide | omega) (by decide) (by omega) (by omega) rfl rfl (Nat.le_of_ble_eq_true rfl) (gd DX9_load_0 8 rfl) ?_
    exact g_iret C (by omega) (by omega) ⟨_, V, mSt M 1, rfl, K.st K (qKp.rf x h) hM 1, Or.inl ⟨q, rfl, rfl, rfl⟩⟩ (gd DX9_load_0 9 rfl)
  refine g_iload_n C (gd DX9_load_0 0 rfl) 1 rfl rfl ?_
  refine g_if_lt C 12 (gd DX9_load_0 1 rfl) (by decide) (fun c1 => ?_) (fun c1 => ?_)
  · exact k12 (fun q => absurd q.1 (Int32.not_le.mpr c1))
  refine g_iload_n C (gd DX9_load_0 2 rfl) 1 rfl rfl ?_
  refine g_aload_n C (gd DX9_load_0 3 rfl) 0 rfl rfl ?_
  refine g_geti (ci := 9) (k := 2) C rfl (by decide) rfl lf_TestJudge_20 hx.1 (gd DX9_load_0 4 rfl) ?_
  rw [hM.1.1]
  refine g_icmp_le C 18 (gd DX9_load_0 5 rfl) (by decide) (fun c9 => ?_) (fun c9 => ?_)
  rotate_left
  · exact k12 (fun q => c9 q.2)
  have hv : 0 ≤ v ∧ v ≤ nI M.1.1 := ⟨Int32.not_lt.mp c1, c9⟩
  obtain ⟨n, hn, rfl⟩ : ∃ n, n ≤ M.1.1 ∧ v = nI n := by
    obtain ⟨n, hn, rfl⟩ := nI_of c1
    exact ⟨n, (nI_leI hn (by omega)).mp c9, rfl⟩
  refine g_aload_n C (gd DX9_load_0 10 rfl) 0 rfl rfl ?_
  refine g_iconst (v := 0) C (gd DX9_load_0 11 rfl) (by decide) ?_
  refine g_puti (ci := 9) (k := 2) C rfl (by decide) rfl lf_TestJudge_20 hx.1 (Or.inl rfl) rfl (gd DX9_load_0 12 rfl) ?_
  have t1 : xTp x h (sI h x 2 0) := ⟨rfl, fun b hb => hI_sI_ne (by omega)⟩
  have rx1 : ∀ k, hI (sI h x 2 0) x k = if k = 2 then 0 else hI h x k := fun k => by
    rw [hI_sI]
    by_cases e : k = 2
    · rw [if_pos ⟨rfl, e⟩, if_pos e]
    · rw [if_neg (fun q => e q.2), if_neg e]
  have tp1 : hI (sI h x 2 0) (x + 1) = hI h (x + 1) := hI_sI_ne (by omega)
  generalize sI h x 2 0 = h1 at t1 rx1 tp1 ⊢
  have hx1 := hx.tp t1
  have ec := e_k_cut (w := w) (h := h1) (T := x + 2) (tp := x + 1) hx1.2.2.1.2 hx1.2.1.2.1 hx1.2.1.2.2 (Or.inl (by omega)) (tx := M.1.2) (n := n) (by omega) (fun k hk => by rw [tp1]; exact hM.1.2.2 k (by omega)) (hI h1 (x + 2)) (hI h1 (x + 2 + 1)) (hI h1 (x + 2 + 2)) (hI h1 (x + 2 + 3))
  rw [hTk_self] at ec
  refine g_aload_n C (gd DX9_load_0 13 rfl) 0 rfl rfl ?_
  refine g_getr (ci := 9) (k := 1) C rfl (by decide) rfl lf_TestJudge_16 hx1.1 hx1.2.2.1.1 (gd DX9_load_0 14 rfl) ?_
  refine g_aload_n C (gd DX9_load_0 15 rfl) 0 rfl rfl ?_
  refine g_getr (ci := 9) (k := 0) C rfl (by decide) rfl lf_TestJudge_9 hx1.1 hx1.2.1.1 (gd DX9_load_0 16 rfl) ?_
  refine g_iload_n C (gd DX9_load_0 17 rfl) 1 rfl rfl ?_
  refine g_callV (ci := 7) C [_, _] mX7_cut lm_TestJudge_94 (by exact hx1.2.2.1.2.1) rfl rfl ec hfl (by first | decide | omega) (by decide) (by omega) (by omega) rfl rfl (Nat.le_of_ble_eq_true rfl) (gd DX9_load_0 18 rfl) (fun r h2 hp => ?_)
  obtain ⟨rfl, c, F, A, B, E, rfl, tk1, tk2⟩ := hp
  show GW z w 3 _ _ _ _ _ [] _
  have t2 : xTp x h (hTk (x + 2) h1 F A B E) := t1.tr ⟨rfl, fun b hb => hTk_ne (by omega)⟩
  have ct2 : cT (x + 2) (hTk (x + 2) h1 F A B E) M.1.2 n c 0 := by
    unfold cT
    rw [hTk_0, hTk_1, hTk_2, hTk_3]
    exact ⟨tk1, tk2⟩
  have rx2 : ∀ k, hI (hTk (x + 2) h1 F A B E) x k = if k = 2 then 0 else hI h x k := fun k => by rw [hTk_ne (by omega)]; exact rx1 k
  generalize hTk (x + 2) h1 F A B E = h2 at t2 ct2 rx2 ⊢
  have K2 := K.tp t2
  have hx2 := K2.1
  have eT2 : hT h2 = hT h := congrArg (fun q => q.2.2.2.2) t2.1
  refine g_new (ci := 3) C rfl lc_TestJudge_98 lI_TestJudge_Reader li_TestJudge_Reader (by omega) (by omega) (gd DX9_load_0 19 rfl) (gdv3) ?_
  refine g_dup C (gd DX9_load_0 20 rfl) rfl ?_
  have exS := hExt_sN h2 4 0
  have hxS : kvX x W (sN h2 4 0) := hx2.a exS.a
  refine g_aload_n C (gd DX9_load_0 21 rfl) 0 rfl rfl ?_
  refine g_getr (ci := 9) (k := 1) C rfl (by decide) rfl lf_TestJudge_16 hxS.1 hxS.2.2.1.1 (gd DX9_load_0 22 rfl) ?_
  refine g_cI C [_] mX3_init lm_TestJudge_100 (e_X3_init (h := h2) (T := x + 2)) hfl (by first | decide | omega) (by decide) (by omega) (by omega) rfl rfl (Nat.le_of_ble_eq_true rfl) (gd DX9_load_0 23 rfl) ?_
  obtain ⟨L3, pl3, pn3⟩ := cLn_0 (np := w.2.2.2) hx2.2.2.1.2 (by omega) ct2
  have ex3 : hExt h2 (hC h2 (hT h2) (cX3 (hT h2) (x + 2) w.2.2.2)) := hC_ext
  have lT3 : hT (hC h2 (hT h2) (cX3 (hT h2) (x + 2) w.2.2.2)) = hT h2 + 8 := rfl
  generalize hC h2 (hT h2) (cX3 (hT h2) (x + 2) w.2.2.2) = h3 at L3 pl3 pn3 ex3 lT3 ⊢
  generalize hU : hT h2 = U at L3 pl3 pn3 lT3 ⊢
  obtain ⟨r, hr, hk⟩ := pTx_k (tx := M.1.2) (n := n) ct2.hc tk1.2.1.2 502 0 pSz (by have := tk1.2.1.1; omega) (by have := tk1.2.1.2; omega) pSz_k
  have cn : c ≤ n + 1 := by
    obtain ⟨c', p1, p2, p3, p4⟩ := tok_c M.1.2 n
    apply Classical.byContradiction
    intro q
    exact tk1.2.2.2.2 (c' - 1) (by omega) p3
  have hKb : jL 0 r ≤ 4 * n + 55 := by
    rcases r with y | y
    · have := hk.2.1
      show 4 * (y.2 - 0) + 55 ≤ 4 * n + 55
      omega
    · have := hk.2.1
      show 4 * (y.1 - 0) ≤ 4 * n + 55
      omega
  have kU3 := L3.1.1.1.1
  refine g_astore_n (lv' := [(0, _), (1, _), (2, _)]) C (gd DX9_load_0 24 rfl) [1, 2, 0] rfl (by decide) rfl ?_
  refine g_aload_n C (gd DX9_load_0 25 rfl) 2 rfl rfl ?_
  refine g_callV (ci := 3) C [] mX3_readText lm_TestJudge_103 (by exact kU3) rfl rfl (e_r_text L3 hr (K := 4 * n + 55) hKb) hfl (by first | decide | omega) (by decide) (by omega) (by omega) rfl rfl (Nat.le_of_ble_eq_true rfl) (gd DX9_load_0 26 rfl) (fun r h4 hp => ?_)
  obtain ⟨rfl, hp⟩ := hp
  show GW z w 3 _ _ _ _ _ [] _
  have lf : lF U (U + 1) (x + 2) (U + 7) h3 h4 := by
    rcases r with y | y
    · exact hp.1
    · exact hp.1
  have hq4 := L3.1.1.l lf
  have e24 : xE x h2 h4 := ⟨by have := lf.1; omega, fun b hb => by
    obtain ⟨⟨a1, a2, a3, -⟩, a4, a5⟩ := lf.2 b (by omega)
    obtain ⟨b1, b2, b3, b4, b5⟩ := ex3.2 b hb
    refine ⟨⟨a1.trans b2, (a4 (by omega) (by omega)).trans b3, a2.trans b4, a3.trans b5⟩, fun hb' => ?_⟩
    rw [← b1]
    funext k
    exact a5 k (fun q => by omega) (fun q => by omega) (fun q => by omega) (by omega) (by omega)⟩
  have K4 := K2.xe e24
  have hx4 := K4.1
  have rx4 : ∀ k, hI h4 x k = if k = 2 then 0 else hI h x k := fun k => by
    rw [(lf.2 x (by omega)).2.2 k (fun q => by omega) (fun q => by omega) (fun q => by omega) (by omega) (by omega), (ex3.2 x (by omega)).1]
    exact rx2 k
  have o4 : ∀ b, b = x + 47 ∨ b = x + 48 → hI h4 b = hI h b := fun b hb => ((e24.2 b (by omega)).2 (by omega)).trans (t2.2 b (by omega))
  have lT4 := e24.1
  obtain ⟨m4, m5, m6⟩ := hM.2.1
  obtain ⟨m7, m8, m9⟩ := hM.2.2.1
  obtain ⟨ma, mb, mc⟩ := hM.2.2.2
  have Ux : U ≠ x := by omega
  have kU := hq4.1.1
  rcases r with y | ⟨j', S⟩
  · obtain ⟨-, -, f1, f2, f3⟩ := (show bdL U (U + 1) (x + 2) (U + 7) h3 h4 M.1.2 n c y.1 y.2 from hp)
    refine g_aload_n C (gd DX9_load_0 27 rfl) 0 rfl rfl ?_
    refine g_aload_n C (gd DX9_load_0 28 rfl) 2 rfl rfl ?_
    refine g_geti (ci := 3) (k := 1) C rfl (by decide) rfl lf_TestJudge_106 kU (gd DX9_load_0 29 rfl) ?_
    rw [f1]
    refine g_puti (ci := 9) (k := 4) C rfl (by decide) rfl lf_TestJudge_27 hx4.1 (Or.inl rfl) rfl (gd DX9_load_0 30 rfl) ?_
    refine g_aload_n C (gd DX9_load_0 31 rfl) 0 rfl rfl ?_
    refine g_aload_n C (gd DX9_load_0 32 rfl) 2 rfl rfl ?_
    refine g_geti (ci := 3) (k := 2) C rfl (by decide) rfl lf_TestJudge_109 kU (gd DX9_load_0 33 rfl) ?_
    rw [show hI (sI h4 x 4 (nI y.1)) U 2 = nI (plT M.1.2 n y.2) from (congrFun (hI_sI_ne Ux) 2).trans f2]
    refine g_puti (ci := 9) (k := 5) C rfl (by decide) rfl lf_TestJudge_30 hx4.1 (Or.inl rfl) rfl (gd DX9_load_0 34 rfl) ?_
    refine g_aload_n C (gd DX9_load_0 35 rfl) 2 rfl rfl ?_
    refine g_geti (ci := 3) (k := 1) C rfl (by decide) rfl lf_TestJudge_106 kU (gd DX9_load_0 36 rfl) ?_
    rw [show hI (sI (sI h4 x 4 (nI y.1)) x 5 (nI (plT M.1.2 n y.2))) U 1 = nI y.1 from (congrFun (hI_sI_ne Ux) 1).trans ((congrFun (hI_sI_ne Ux) 1).trans f1)]
    refine g_if_eq C 81 (gd DX9_load_0 37 rfl) (by decide) (fun c71 => ?_) (fun c71 => ?_)
    rotate_left
    · have K5 := K4.xi ((((xIn.rf x h4).i (k := 4) (v := nI y.1)).i (k := 5) (v := nI (plT M.1.2 n y.2))).i (k := 3) (v := 9))
      have hx5 : kvX x W (sI (sI h4 x 4 (nI y.1)) x 5 (nI (plT M.1.2 n y.2))) := (K4.xi (((xIn.rf x h4).i (k := 4) (v := nI y.1)).i (k := 5) (v := nI (plT M.1.2 n y.2)))).1
      refine g_aload_n C (gd DX9_load_0 38 rfl) 0 rfl rfl ?_
      refine g_bipush (v := 9) C (gd DX9_load_0 39 rfl) (by decide) ?_
      refine g_cV1 (ci := 9) C [_] mX9_refuse lm_TestJudge_90 (by exact hx5.1) rfl rfl (e_x_refuse hx5 9) hfl (by first | decide | omega) (by decide) (by omega) (by omega) rfl rfl (Nat.le_of_ble_eq_true rfl) (gd DX9_load_0 40 rfl) ?_
      have xx : ∀ k, hI (sI (sI (sI h4 x 4 (nI y.1)) x 5 (nI (plT M.1.2 n y.2))) x 3 9) x k = if k = 3 then 9 else if k = 5 then nI (plT M.1.2 n y.2) else if k = 4 then nI y.1 else if k = 2 then 0 else hI h x k := fun k => by
        simp only [hI_sI, rx4, true_and]
      have ne : ∀ b, b ≠ x → hI (sI (sI (sI h4 x 4 (nI y.1)) x 5 (nI (plT M.1.2 n y.2))) x 3 9) b = hI h4 b := fun b hb => (hI_sI_ne hb).trans ((hI_sI_ne hb).trans (hI_sI_ne hb))
      exact g_iret C (by omega) (by omega) ⟨.int (-1), V, ((0, M.1.2), (9, nI y.1, nI (plT M.1.2 n y.2)), M.2.2), rfl, ⟨W, RC, K5, ⟨(xx 2).trans rfl, Nat.zero_le _, fun k hk => absurd hk (Nat.not_lt_zero _)⟩, ⟨(xx 3).trans rfl, (xx 4).trans rfl, (xx 5).trans rfl⟩, ⟨(xx 12).trans m7, (xx 13).trans m8, (xx 14).trans m9⟩, by rw [ne _ (by omega), o4 _ (Or.inl rfl)]; exact ma, mb, by rw [ne _ (by omega), o4 _ (Or.inr rfl)]; exact mc⟩, Or.inr ⟨n, hn, rfl, _, hr, rfl, rfl, rfl⟩⟩ (gd DX9_load_0 41 rfl)
    · exact absurd (f1.trans (by first | exact c71 | exact Decidable.of_not_not c71)) f3
  obtain ⟨-, L4⟩ := (show lF U (U + 1) (x + 2) (U + 7) h3 h4 ∧ cLn U (U + 1) (x + 2) (U + 7) h4 M.1.2 n c j' S from hp)
  have f0 := L4.1.2.2.1
  have fp : hI h4 U 2 = -1 := (lf.2 U (by omega)).1.2.2.2 rfl (by omega) (fun _ => pl3) f0
  have nfp := L4.2.1.1
  have npp := L4.1.2.2.2.2.1.2.2
  have pk := L4.2.2.2.2
  refine g_aload_n C (gd DX9_load_0 27 rfl) 0 rfl rfl ?_
  refine g_aload_n C (gd DX9_load_0 28 rfl) 2 rfl rfl ?_
  refine g_geti (ci := 3) (k := 1) C rfl (by decide) rfl lf_TestJudge_106 kU (gd DX9_load_0 29 rfl) ?_
  rw [f0]
  refine g_puti (ci := 9) (k := 4) C rfl (by decide) rfl lf_TestJudge_27 hx4.1 (Or.inl rfl) rfl (gd DX9_load_0 30 rfl) ?_
  refine g_aload_n C (gd DX9_load_0 31 rfl) 0 rfl rfl ?_
  refine g_aload_n C (gd DX9_load_0 32 rfl) 2 rfl rfl ?_
  refine g_geti (ci := 3) (k := 2) C rfl (by decide) rfl lf_TestJudge_109 kU (gd DX9_load_0 33 rfl) ?_
  rw [show hI (sI h4 x 4 0) U 2 = -1 from (congrFun (hI_sI_ne Ux) 2).trans fp]
  refine g_puti (ci := 9) (k := 5) C rfl (by decide) rfl lf_TestJudge_30 hx4.1 (Or.inl rfl) rfl (gd DX9_load_0 34 rfl) ?_
  refine g_aload_n C (gd DX9_load_0 35 rfl) 2 rfl rfl ?_
  refine g_geti (ci := 3) (k := 1) C rfl (by decide) rfl lf_TestJudge_106 kU (gd DX9_load_0 36 rfl) ?_
  rw [show hI (sI (sI h4 x 4 0) x 5 (-1)) U 1 = 0 from (congrFun (hI_sI_ne Ux) 1).trans ((congrFun (hI_sI_ne Ux) 1).trans f0)]
  refine g_if_eq C 81 (gd DX9_load_0 37 rfl) (by decide) (fun c71 => ?_) (fun c71 => ?_)
  rotate_left
  · exact absurd rfl c71
  refine g_aload_n C (gd DX9_load_0 42 rfl) 0 rfl rfl ?_
  refine g_aload_n C (gd DX9_load_0 43 rfl) 2 rfl rfl ?_
  refine g_getr (ci := 3) (k := 0) C rfl (by decide) rfl lf_TestJudge_112 kU hq4.1.2.1 (gd DX9_load_0 44 rfl) ?_
  refine g_putr (ci := 9) (k := 6) (ty := .object "TestJudge$World") C rfl (by decide) rfl lf_TestJudge_36 hx4.1 (Or.inl rfl) rfl rfl rfl (gd DX9_load_0 45 rfl) ?_
  generalize hg1 : sI (sI h4 x 4 0) x 5 (-1) = g1
  have g1I : ∀ b, b ≠ x → hI g1 b = hI h4 b := fun b hb => by rw [← hg1]; exact (hI_sI_ne hb).trans (hI_sI_ne hb)
  have g1x : ∀ k, hI g1 x k = if k = 5 then -1 else if k = 4 then 0 else if k = 2 then 0 else hI h x k := fun k => by
    rw [← hg1]
    simp only [hI_sI, rx4, true_and]
  have g12 : g1.2 = h4.2 := by rw [← hg1]; rfl
  clear hg1
  have kR : hR g1 = hR h4 := congrArg (fun z => z.2.1) g12
  have kK : hK g1 = hK h4 := congrArg (fun z => z.2.2.1) g12
  have kN : hN g1 = hN h4 := congrArg (fun z => z.2.2.2.1) g12
  have kL : hL g1 = hL h4 := congrArg (fun z => z.1) g12
  have kT : hT g1 = hT h4 := congrArg (fun z => z.2.2.2.2) g12
  have wsh : wSh (U + 1) h4 := L4.1.1.2.2.2.1
  have l3 : U + 1 + 5 < hT h4 := L4.1.1.2.2.2.2.2.2.1
  have pN4 : pcW h4 (U + 1 + 5) 0 (rPlain 0) := pn3.l L3.1.1 lf
  generalize hg2 : sR g1 x 6 (some (U + 1)) = g2
  have g2R : ∀ b k, ¬ (b = x ∧ k = 6) → hR g2 b k = hR h4 b k := fun b k q => by rw [← hg2, hR_sR, if_neg q, kR]
  have g2r : hR g2 x 6 = some (U + 1) := by rw [← hg2, hR_sR, if_pos ⟨rfl, rfl⟩]
  have g2K : ∀ b, hK g2 b = hK h4 b ∧ hN g2 b = hN h4 b ∧ hL g2 b = hL h4 b := fun b => by rw [← hg2]; exact ⟨congrFun kK b, congrFun kN b, congrFun kL b⟩
  have g2T : hT g2 = hT h4 := by rw [← hg2]; exact kT
  have g2I : hI g2 = hI g1 := by rw [← hg2]; rfl
  clear hg2
  have fr2 : ∀ a R m, pcW h4 a m R → U + 1 + 5 ≤ a → pcW g2 a m R := fun a R m p la => p.fr (by omega) (fun b b1 b2 => ⟨by rw [g2I]; exact g1I b (by omega), funext fun k => g2R b k (fun q => by omega), (g2K b).1, (g2K b).2.1⟩)
  have hxg2 : kvX x (U + 1) g2 := kvX_ld hx4 (by omega) wsh l3 (by omega) (fun b _ => g2K b) (by rw [g2I]; exact g1I _ (by omega)) (fun b _ b1 _ _ => funext fun k => g2R b k (fun q => b1 q.1)) (fun k hk => g2R x k (fun q => hk q.2)) g2r (fun k _ => g2R _ k (fun q => by omega)) (fr2 _ _ _ pN4 (Nat.le_refl _))
  have fws : ∀ f, f < S.1.2.2.2 → wt (vFR (vLd S) f) = (S.2.2.2 f).1 := fun f hf => by
    have l2 := fsP_ge S.2.2.2 S.1.2.2.2 f hf
    have := pk.2.2.2.2
    show wt (tr (S.2.2.2 f).2) = (S.2.2.2 f).1
    rw [wt_tr]
    exact wt_of (pk.2.2.2.1 f hf).1 (by omega)
  refine g_aload_n C (gd DX9_load_0 46 rfl) 0 rfl rfl ?_
  refine g_getr (ci := 9) (k := 6) C rfl (by decide) rfl lf_TestJudge_36 hxg2.1 hxg2.2.2.2.1.1 (gd DX9_load_0 47 rfl) ?_
  refine g_callV (ci := 8) C [] mX8_sealFacts lm_TestJudge_113 (by exact hxg2.2.2.2.1.2.1) rfl rfl (e_w_seal (h := g2) hxg2.2.2.2.1.2 (by omega) pk.1.2.2.2 (by rw [g2I, g1I _ (by omega)]; exact nfp) (F := vFR (vLd S)) (fun f hf => (vLd_ok pk).2.2.2 f hf) (fun f hf => by obtain ⟨b, b1, b2, b3⟩ := L4.2.1.2 f hf; exact ⟨b, (g2R _ _ (fun q => by omega)).trans b1, by omega, by rw [fws f hf]; exact (fr2 b _ _ b2 (by omega)).cg (rq_tr _ _)⟩) (fr2 _ _ _ pN4 (Nat.le_refl _))) hfl (by first | decide | omega) (by decide) (by omega) (by omega) rfl rfl (Nat.le_of_ble_eq_true rfl) (gd DX9_load_0 48 rfl) (fun r g3 hp => ?_)
  obtain ⟨rfl, sf, -, bars⟩ := hp
  show GW z w 3 _ _ _ _ _ [] _
  obtain ⟨zT, zK, zI, zR, zW, zw4⟩ := id sf
  have pN3 : pcW g3 (U + 1 + 5) 0 (rPlain 0) := (fr2 _ _ _ pN4 (Nat.le_refl _)).sf (Nat.le_refl _) sf
  have fT3 : hT h4 ≤ hT g3 := by omega
  have fK3 : ∀ b, b < hT h4 → hK g3 b = hK h4 b ∧ hN g3 b = hN h4 b ∧ hL g3 b = hL h4 b := fun b hb => ⟨(zK b (by omega)).1.trans (g2K b).1, (zK b (by omega)).2.1.trans (g2K b).2.1, (zK b (by omega)).2.2.trans (g2K b).2.2⟩
  have fI3 : ∀ b, b < hT h4 → b ≠ x → b ≠ U + 1 → hI g3 b = hI h4 b := fun b hb b1 b2 => (zI b (by omega) b2).trans (by rw [g2I]; exact g1I b b1)
  have fR3 : ∀ b k, b < hT h4 → ¬ (b = x ∧ k = 6) → b ≠ U + 1 + 4 → hR g3 b k = hR h4 b k := fun b k hb b1 b2 => (congrFun (zR b (by omega) b2) k).trans (g2R b k b1)
  have r63 : hR g3 x 6 = some (U + 1) := (congrFun (zR x (by omega) (by omega)) 6).trans g2r
  have x3 : ∀ k, hI g3 x k = if k = 5 then -1 else if k = 4 then 0 else if k = 2 then 0 else hI h x k := fun k => by rw [zI x (by omega) (by omega), g2I]; exact g1x k
  have w3' : ∀ k, k ≠ 4 → hI g3 (U + 1) k = hI h4 (U + 1) k := fun k hk => by rw [zW k hk, g2I, g1I _ (by omega)]
  have hxg3 : kvX x (U + 1) g3 := kvX_ld hx4 (by omega) wsh l3 fT3 fK3 (fI3 _ (by omega) (by omega) (by omega)) (fun b hb b1 _ b2 => funext fun k => fR3 b k hb (fun q => b1 q.1) b2) (fun k hk => fR3 x k (by omega) (fun q => hk q.2) (by omega)) r63 (fun k _ => fR3 _ k (by omega) (fun q => by omega) (by omega)) pN3
  refine g_aload_n C (gd DX9_load_0 49 rfl) 0 rfl rfl ?_
  refine g_getr (ci := 9) (k := 9) C rfl (by decide) rfl lf_TestJudge_57 hxg3.1 hxg3.2.2.2.2.2.2.1.1 (gd DX9_load_0 50 rfl) ?_
  refine g_cV0 (v := .null) (ci := 6) C [] mX6_forget lm_TestJudge_116 (by exact hxg3.2.2.2.2.2.2.1.2.1) rfl rfl (e_t_forget hxg3.2.2.2.2.2.2.1.2) hfl (by first | decide | omega) (by decide) (by omega) (by omega) rfl rfl (Nat.le_of_ble_eq_true rfl) (gd DX9_load_0 51 rfl) ?_
  generalize hg4 : sR g3 (x + 36) 5 none = g4
  have g4R : ∀ b k, ¬ (b = x + 36 ∧ k = 5) → hR g4 b k = hR g3 b k := fun b k q => by rw [← hg4, hR_sR, if_neg q]
  have g4r : hR g4 (x + 36) 5 = none := by rw [← hg4, hR_sR, if_pos ⟨rfl, rfl⟩]
  have g4I : hI g4 = hI g3 := by rw [← hg4]; rfl
  have g4K : hK g4 = hK g3 := by rw [← hg4]; rfl
  have g4N : hN g4 = hN g3 := by rw [← hg4]; rfl
  have g4L : hL g4 = hL g3 := by rw [← hg4]; rfl
  have g4T : hT g4 = hT g3 := by rw [← hg4]; rfl
  clear hg4
  have pN4' : pcW g4 (U + 1 + 5) 0 (rPlain 0) := pN3.fr (by omega) (fun b b1 _ => ⟨by rw [g4I], funext fun k => g4R b k (fun q => by omega), by rw [g4K], by rw [g4N]⟩)
  have fK4 : ∀ b, b < hT h4 → hK g4 b = hK h4 b ∧ hN g4 b = hN h4 b ∧ hL g4 b = hL h4 b := fun b hb => by rw [g4K, g4N, g4L]; exact fK3 b hb
  have fR4 : ∀ b k, b < hT h4 → ¬ (b = x ∧ k = 6) → ¬ (b = x + 36 ∧ k = 5) → b ≠ U + 1 + 4 → hR g4 b k = hR h4 b k := fun b k hb b1 b2 b3 => (g4R b k b2).trans (fR3 b k hb b1 b3)
  have r64 : hR g4 x 6 = some (U + 1) := (g4R x 6 (fun q => by omega)).trans r63
  have hxg4 : kvX x (U + 1) g4 := kvX_ld hx4 (by omega) wsh l3 (by omega) fK4 (by rw [g4I]; exact fI3 _ (by omega) (by omega) (by omega)) (fun b hb b1 b3 b2 => funext fun k => fR4 b k hb (fun q => b1 q.1) (fun q => b3 q.1) b2) (fun k hk => fR4 x k (by omega) (fun q => hk q.2) (fun q => by omega) (by omega)) r64 (fun k hk => fR4 _ k (by omega) (fun q => by omega) (fun q => hk q.2) (by omega)) pN4'
  have bars4 : ∀ s, s < 4 → ∃ a, hR g4 (U + 1 + 4) s = some a ∧ U + 1 + 5 ≤ a ∧ pcW g4 a (wt (fbA (nI s) (vFR (vLd S)) S.1.2.2.2)) (fbA (nI s) (vFR (vLd S)) S.1.2.2.2) := fun s hs => by
    obtain ⟨a, a1, a2, a3⟩ := bars s hs
    exact ⟨a, (g4R _ _ (fun q => by omega)).trans a1, a2, a3.fr (by omega) (fun b b1 _ => ⟨by rw [g4I], funext fun k => g4R b k (fun q => by omega), by rw [g4K], by rw [g4N]⟩)⟩
  refine g_aload_n C (gd DX9_load_0 52 rfl) 0 rfl rfl ?_
  refine g_getr (ci := 9) (k := 7) C rfl (by decide) rfl lf_TestJudge_43 hxg4.1 hxg4.2.2.2.2.1.1 (gd DX9_load_0 53 rfl) ?_
  refine g_iconst (v := 0) C (gd DX9_load_0 54 rfl) (by decide) ?_
  refine g_puti (ci := 0) (k := 0) C rfl (by decide) rfl lf_TestJudge_119 hxg4.2.2.2.2.1.2.1 (Or.inl rfl) rfl (gd DX9_load_0 55 rfl) ?_
  have hxg5 : kvX x (U + 1) (sI g4 (x + 12) 0 0) := hxg4.a ⟨Nat.le_refl _, fun b _ => ⟨⟨rfl, rfl, rfl⟩, fun _ _ => rfl, fun _ q _ _ => hI_sI_ne (by omega)⟩⟩
  refine g_aload_n C (gd DX9_load_0 56 rfl) 0 rfl rfl ?_
  refine g_cV0 (v := .null) (ci := 9) C [] mX9_endWalk lm_TestJudge_122 (by exact hxg5.1) rfl rfl (e_x_endWalk hxg5) hfl (by first | decide | omega) (by decide) (by omega) (by omega) rfl rfl (Nat.le_of_ble_eq_true rfl) (gd DX9_load_0 57 rfl) ?_
  have hxg6 : kvX x (U + 1) (sI (sI g4 (x + 12) 0 0) x 12 (-1)) := hxg5.a aFr_x
  refine g_aload_n C (gd DX9_load_0 58 rfl) 0 rfl rfl ?_
  refine g_aload_n C (gd DX9_load_0 59 rfl) 0 rfl rfl ?_
  refine g_getr (ci := 9) (k := 6) C rfl (by decide) rfl lf_TestJudge_36 hxg6.1 hxg6.2.2.2.1.1 (gd DX9_load_1 0 rfl) ?_
  refine g_geti (ci := 8) (k := 2) C rfl (by decide) rfl lf_TestJudge_125 hxg6.2.2.2.1.2.1 (gd DX9_load_1 1 rfl) ?_
  have g7I : ∀ b, b ≠ x → b ≠ x + 12 → hI (sI (sI (sI g4 (x + 12) 0 0) x 12 (-1)) x 3 0) b = hI g3 b := fun b b1 b2 => by rw [hI_sI_ne b1, hI_sI_ne b1, hI_sI_ne b2, g4I]
  have g7x : ∀ k, hI (sI (sI (sI g4 (x + 12) 0 0) x 12 (-1)) x 3 0) x k = if k = 3 then 0 else if k = 12 then -1 else if k = 5 then -1 else if k = 4 then 0 else if k = 2 then 0 else hI h x k := fun k => by
    simp only [hI_sI, true_and]
    rw [if_neg (show ¬ (x = x + 12 ∧ k = 0) by omega), g4I, x3]
  rw [show hI (sI (sI g4 (x + 12) 0 0) x 12 (-1)) (U + 1) 2 = nI S.1.2.2.1 by rw [hI_sI_ne (by omega), hI_sI_ne (by omega), g4I, w3' 2 (by omega)]; exact npp]
  refine g_cV1 (ci := 9) C [_] mX9_allow lm_TestJudge_128 (by exact hxg6.1) rfl rfl (e_x_allow hxg6 _) hfl (by first | decide | omega) (by decide) (by omega) (by omega) rfl rfl (Nat.le_of_ble_eq_true rfl) (gd DX9_load_1 2 rfl) ?_
  obtain ⟨RC', K7⟩ := K0_ld (g := sI (sI (sI g4 (x + 12) 0 0) x 12 (-1)) x 3 0) K4 (by omega) L4 (by show hT h4 ≤ hT g4; omega) fK4 (fun b hb b1 b2 b3 => (g7I b b1 b2).trans (fI3 b hb b1 b3)) (fun b hb b1 b3 b2 => funext fun k => fR4 b k hb (fun q => b1 q.1) (fun q => b3 q.1) b2) (fun k hk => fR4 x k (by omega) (fun q => hk q.2) (fun q => by omega) (by omega)) r64 (fun k hk => fR4 _ k (by omega) (fun q => by omega) (fun q => hk q.2) (by omega)) g4r (by rw [hI_sI_ne (by omega), hI_sI_ne (by omega), hI_sI, if_pos ⟨rfl, rfl⟩]) (fun k hk => by rw [g7I _ (by omega) (by omega)]; exact w3' k hk) (by rw [g7I _ (by omega) (by omega)]; exact zw4) (fun s hs => by
    obtain ⟨a, a1, a2, a3⟩ := bars4 s hs
    exact ⟨a, a1, a2, a3.fr (Nat.le_refl _) (fun b b1 _ => ⟨by rw [g7I b (by omega) (by omega), g4I], rfl, rfl, rfl⟩)⟩) (pN4'.fr (Nat.le_refl _) (fun b b1 _ => ⟨by rw [g7I b (by omega) (by omega), g4I], rfl, rfl, rfl⟩))
  have e47 : ∀ b, b = x + 47 ∨ b = x + 48 → hI (sI (sI (sI g4 (x + 12) 0 0) x 12 (-1)) x 3 0) b = hI h b := fun b hb => (g7I b (by omega) (by omega)).trans ((fI3 b (by omega) (by omega) (by omega)).trans (o4 b hb))
  exact g_iret C (by omega) (by omega) ⟨.int (nI S.1.2.2.1), vLd S, ((0, M.1.2), (0, 0, -1), (-1, M.2.2.1.2), M.2.2.2), rfl, ⟨U + 1, RC', K7, ⟨(g7x 2).trans rfl, Nat.zero_le _, fun k hk => absurd hk (Nat.not_lt_zero _)⟩, ⟨(g7x 3).trans rfl, (g7x 4).trans rfl, (g7x 5).trans rfl⟩, ⟨(g7x 12).trans rfl, (g7x 13).trans m8, (g7x 14).trans m9⟩, by rw [e47 _ (Or.inl rfl)]; exact ma, mb, by rw [e47 _ (Or.inr rfl)]; exact mc⟩, Or.inr ⟨n, hn, rfl, _, hr, rfl, rfl, rfl⟩⟩ (gd DX9_load_1 3 rfl)
end LE
