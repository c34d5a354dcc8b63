/-! The class's print -/
def oBY (L : List Nat) (j : Nat) : Int32 := (nI (L.getD j 0)).toInt8.toInt32
def mOu (M : aM) (L : List Nat) : aM := (M.1, M.2.1, M.2.2.1, (L.length, oBY L))
def qPri (V : aV) (M : aM) (p : Int32) (v : Value) (V' : aV) (M' : aM) : Prop := (¬ inP (vNp V) p ∧ v = .int (-1) ∧ V' = V ∧ M' = mSt M 2) ∨ ∃ r, r < vNp V ∧ p = nI r ∧ ∃ ρ n, tbO (vP1 V (vS V) (vPR V r)) ρ ∧ tbN n ρ ∧ ((60 < n ∧ v = .int (-1) ∧ V' = V ∧ M' = mSt M 3) ∨ (n ≤ 60 ∧ v = .int (nI (pxA (ρ 1) (fun i k => ρ 3 (24 * i + k)) n).length) ∧ V' = V ∧ M' = mOu (mSt M 0) (pxA (ρ 1) (fun i k => ρ 3 (24 * i + k)) n)))
theorem byL_lo : ∀ (L : List Nat) (B : Nat → Int32) (a b : Nat), b < a → byL B a L b = B b := by
  intro L
  induction L with
  | nil => intro B a b _; rfl
  | cons d ds ih2 =>
    intro B a b hb
    show byL (upd B a (nI d).toInt8.toInt32) (a + 1) ds b = B b
    rw [ih2 _ _ _ (by omega), upd, if_neg (by omega)]
theorem byL_get (BY : Nat → Int32) : ∀ (L : List Nat) (k j : Nat), j < L.length → byL BY k L (k + j) = oBY L j := by
  intro L
  induction L generalizing BY with
  | nil => intro k j hj; exact absurd hj (Nat.not_lt_zero _)
  | cons c cs ih =>
    intro k j hj
    show byL (upd BY k (nI c).toInt8.toInt32) (k + 1) cs (k + j) = _
    cases j with
    | zero =>
      rw [byL_lo _ _ _ _ (by omega), upd, if_pos (by omega)]
      rfl
    | succ j =>
      have := ih (upd BY k (nI c).toInt8.toInt32) (k + 1) j (by simp at hj; omega)
      rw [show k + (j + 1) = k + 1 + j by omega, this]
      rfl
/-- rests have ends that are sets of atoms -/
theorem tbO_e {P : kP} {t : Nat} (ht : t ≤ 3) (hP : P.1 = nI t) {ρ : Nat → Nat → Int32} {n : Nat} (o : tbO P ρ) (on : tbN n ρ) : ∀ i, i < n → ∃ e, e < 256 ∧ ρ 1 i = nI e := by
  intro i hi
  obtain ⟨v, N, R, l, -, l3, l4, l5, -⟩ := o
  have en : n = R.length := (nI_eq (by have := on.1; omega) (by omega)).mp (on.2.1.symm.trans l4)
  obtain ⟨q, hq⟩ : ∃ q, R[i]? = some q := ⟨_, List.getElem?_eq_getElem (by omega)⟩
  obtain ⟨h1, h2, -⟩ := l5 i q hq
  obtain ⟨g1, g2, g3, g4, g5, g6⟩ := l
  obtain ⟨k, hk⟩ : ∃ k, (bfs (kSc P) (24 * N))[q.1]? = some k := ⟨_, List.getElem?_eq_getElem (by omega)⟩
  rw [h2, (g5 q.1 k hk).1]
  exact (kE_n ht hP k.1).1
section XA
variable {w : gD} {x W : Nat} {h : HS} {V : aV} {RC : Nat → Nat → Int32} {M : aM}
/-- the paper alone has changed -/
theorem K0.pp (K : K0 x W h V RC) {h1 : HS} (e2 : h1.2 = h.2) (e : ∀ b, b ≠ x + 47 → b ≠ x + 48 → hI h1 b = hI h b) : K0 x W h1 V RC := by
  obtain ⟨hx, hV, ⟨w1, w2, w3, w4⟩, ⟨d1, d2⟩, t, s1, s2⟩ := id K
  have eT : hT h1 = hT h := by show h1.2.2.2.2.2 = h.2.2.2.2.2; rw [e2]
  have eK : hK h1 = hK h := by show h1.2.2.2.1 = h.2.2.2.1; rw [e2]
  have eN : hN h1 = hN h := by show h1.2.2.2.2.1 = h.2.2.2.2.1; rw [e2]
  have eR : hR h1 = hR h := by show h1.2.2.1 = h.2.2.1; rw [e2]
  have xW := hx.2.2.2.2.2.2.2.2.2.1
  have pe : ∀ {a n : Nat} {R : Nat → Int32}, pcS h a n R → (x + 48 < a ∨ a + 4 < x + 47) → pcS h1 a n R := fun p ha => p.e e2 (fun b h1 h2 => e b (by omega) (by omega))
  have okp : ∀ {a : Nat} {R : Nat → Int32}, okP x W h a R → okP x W h1 a R := fun p => ⟨p.1, by rw [eT]; exact p.2.1, pe p.2.2 (by have := p.1; omega)⟩
  refine ⟨?_, hV, ⟨by rw [e W (by omega) (by omega)]; exact w1, fun i hi => ?_, fun f hf => ?_, fun f hf => ?_⟩, ⟨by rw [e _ (by omega) (by omega)]; exact d1, fun i hi => ?_⟩, ?_, ?_, fun j hj => by show h1.2.1 (x + 35) j = 0; rw [e2]; exact s2 j hj⟩
  · obtain ⟨x0, x1, x2, x3, x4, x5, x6, x7, ⟨x8, x9⟩, xW, ⟨xa, xb⟩, xc⟩ := hx
    unfold kvX kSh wSh dSh sSh rSh tSh ppSh
    rw [eR, eK, eN, eT]
    exact ⟨x0, x1, x2, x3, x4, x5, x6, x7, ⟨x8, pe x9 (by omega)⟩, xW, ⟨xa, xb⟩, pe xc (by omega)⟩
  · obtain ⟨a, a1, a2, a3, a4⟩ := w2 i hi
    exact ⟨a, by rw [eR]; exact a1, a2, okp a3, by rw [e (W + 2) (by omega) (by omega)]; exact a4⟩
  · obtain ⟨b, b1, b2, b3, b4, b5, b6⟩ := w3 f hf
    exact ⟨b, by rw [eR]; exact b1, b2, b3, by rw [eT]; exact b4, by rw [eK]; exact b5, by rw [e b (by omega) (by omega)]; exact b6⟩
  · obtain ⟨b, b1, b2, b3, b4⟩ := w4 f hf
    exact ⟨b, by rw [eR]; exact b1, b2, by rw [eT]; exact b3, pe b4 (by omega)⟩
  · obtain ⟨⟨b, b1, b2, b3, b4⟩, l⟩ := d2 i hi
    rw [e (x + 13) (by omega) (by omega), e (x + 14) (by omega) (by omega), e (x + 16) (by omega) (by omega), eR]
    refine ⟨⟨b, b1, by rw [eK]; exact b2, b3, by rw [eT]; exact b4⟩, ?_⟩
    rcases l with l | ⟨l1, q, a, l2, l3, l4, l5, l6, l7, l8, l9, l10, l11⟩ | l
    · exact Or.inl l
    · exact Or.inr (Or.inl ⟨l1, q, a, l2, l3, l4, l5, l6, l7, l8, l9, l10, okp l11⟩)
    · exact Or.inr (Or.inr l)
  · exact t.e (by rw [eR]) eT (fun i hi => e _ (by omega) (by omega))
  · unfold sId
    rw [e _ (by omega) (by omega), e _ (by omega) (by omega), e _ (by omega) (by omega)]
    exact s1
theorem e_x_print (K : K0 x W h V RC) (hM : kvM x h M) (p : Int32) : Ev w 7 0 0 yX9_print cX9_print 3 (some .int) [.ref x, .int p] h (aQ x (qPri V M p)) := by
  refine g_start (by decide) (Nat.le_of_ble_eq_true rfl) [(0, _), (1, _)] rfl (fun z hfl C => ?_)
  have hx := K.1
  obtain ⟨w0, w1, w2, w3, w4⟩ := K.2.2.1.1
  have hnp := K.2.1.np
  refine g_aload_n C (gd DX9_print_0 0 rfl) 0 rfl rfl ?_
  refine g_iload_n C (gd DX9_print_0 1 rfl) 1 rfl rfl ?_
  refine g_cV1 (ci := 9) C [_] mX9_lacks lm_TestJudge_154 (by exact hx.1) rfl rfl (e_x_lacks hx (by omega) w2 p) hfl (by first | decide | omega) (by decide) (by omega) (by omega) rfl rfl (Nat.le_of_ble_eq_true rfl) (gd DX9_print_0 2 rfl) ?_
  by_cases n1 : 0 ≤ p ∧ p ≤ nI (vNp V) - 1
  rotate_left
  · rw [b1_t (show ¬ (0 ≤ p ∧ p ≤ nI (vNp V) - 1) from n1)]
    refine g_if_eq C 14 (gd DX9_print_0 3 rfl) (by decide) (fun c5 => ?_) (fun c5 => ?_)
    · exact absurd c5 (by decide)
    · refine g_aload_n C (gd DX9_print_0 4 rfl) 0 rfl rfl ?_
      refine g_iconst (v := 2) C (gd DX9_print_0 5 rfl) (by decide) ?_
      refine g_cV1 (ci := 9) C [_] mX9_refuse lm_TestJudge_90 (by exact hx.1) rfl rfl (e_x_refuse hx 2) hfl (by first | decide | omega) (by decide) (by omega) (by omega) rfl rfl (Nat.le_of_ble_eq_true rfl) (gd DX9_print_0 6 rfl) ?_
      exact g_iret C (by omega) (by omega) ⟨_, V, mSt M 2, rfl, K.st K (qKp.rf x h) hM 2, Or.inl ⟨n1, rfl, rfl, rfl⟩⟩ (gd DX9_print_0 7 rfl)
  rw [b1_f (show ¬ ¬ (0 ≤ p ∧ p ≤ nI (vNp V) - 1) from fun q => q n1)]
  refine g_if_eq C 14 (gd DX9_print_0 3 rfl) (by decide) (fun c5 => ?_) (fun c5 => ?_)
  rotate_left
  · exact absurd rfl c5
  obtain ⟨r, hr, rfl⟩ := below_of (by omega) n1
  refine g_aload_n C (gd DX9_print_0 8 rfl) 0 rfl rfl ?_
  refine g_iload_n C (gd DX9_print_0 9 rfl) 1 rfl rfl ?_
  refine g_callV (ci := 9) C [_] mX9_tabulate lm_TestJudge_174 (by exact hx.1) rfl rfl (e_x_tabulate K hr) hfl (by first | decide | omega) (by decide) (by omega) (by omega) rfl rfl (Nat.le_of_ble_eq_true rfl) (gd DX9_print_0 10 rfl) (fun r g hp => ?_)
  obtain ⟨rfl, K1, k1, tb⟩ := hp
  show GW z w 3 _ _ _ _ _ [] _
  have hx1 := K1.1
  obtain ⟨n, o⟩ := tb.n
  have hn := o.1
  have o0 : hI g (x + 36) 0 = nI n := o.2.1
  generalize hρ : (fun i => hI g (x + 36 + i)) = ρ at tb o
  have ee := tbO_e K.2.1.1.1 rfl tb o
  refine g_aload_n C (gd DX9_print_0 11 rfl) 0 rfl rfl ?_
  refine g_getr (ci := 9) (k := 9) C rfl (by decide) rfl lf_TestJudge_57 hx1.1 hx1.2.2.2.2.2.2.1.1 (gd DX9_print_0 12 rfl) ?_
  refine g_geti (ci := 6) (k := 0) C rfl (by decide) rfl lf_TestJudge_233 hx1.2.2.2.2.2.2.1.2.1 (gd DX9_print_0 13 rfl) ?_
  rw [o0]
  refine g_bipush (v := 60) C (gd DX9_print_0 14 rfl) (by decide) ?_
  refine g_icmp_le C 37 (gd DX9_print_0 15 rfl) (by decide) (fun c28 => ?_) (fun c28 => ?_)
  rotate_left
  · have n60 : 60 < n := by
      apply Nat.lt_of_not_le
      intro q
      exact c28 (nI_le (a := n) (b := 60) q (by omega))
    refine g_aload_n C (gd DX9_print_0 16 rfl) 0 rfl rfl ?_
    refine g_iconst (v := 3) C (gd DX9_print_0 17 rfl) (by decide) ?_
    refine g_cV1 (ci := 9) C [_] mX9_refuse lm_TestJudge_90 (by exact hx1.1) rfl rfl (e_x_refuse hx1 3) hfl (by first | decide | omega) (by decide) (by omega) (by omega) rfl rfl (Nat.le_of_ble_eq_true rfl) (gd DX9_print_0 18 rfl) ?_
    exact g_iret C (by omega) (by omega) ⟨_, V, mSt M 3, rfl, K.st K1 k1 hM 3, Or.inr ⟨r, hr, rfl, ρ, n, tb, o, Or.inl ⟨n60, rfl, rfl, rfl⟩⟩⟩ (gd DX9_print_0 19 rfl)
  have n60 : n ≤ 60 := (nI_leI (a := n) (b := 60) (by omega) (by omega)).mp c28
  have ps : ppSh (x + 47) g := hx1.2.2.2.2.2.2.2.1.2
  have ts : tSh (x + 36) g := hx1.2.2.2.2.2.2.1.2
  have gT : tR (x + 36) g ρ = g := by rw [← hρ]; exact tR_self
  generalize hB : hI g (x + 48) = B
  have hpp : ∀ BY k, K0 x W (pH (x + 47) g BY k) V RC := fun BY k => K1.pp rfl (fun b b1 b2 => pH_ne b1 b2)
  have loop : ∀ y i BY, i + y = n → (∀ j, j < (pxA (ρ 1) (fun i k => ρ 3 (24 * i + k)) i).length → BY j = oBY (pxA (ρ 1) (fun i k => ρ 3 (24 * i + k)) i) j) → (pxA (ρ 1) (fun i k => ρ 3 (24 * i + k)) i).length ≤ 127 * i → GW z w 3 (gQ z w 0 0 (fun r' h'' => aQ x (qPri V M (nI r)) r' h'')) 0 0 47 [(0, .ref x), (1, .int (nI r)), (2, .int (nI i))] [] (pH (x + 47) g BY (pxA (ρ 1) (fun i k => ρ 3 (24 * i + k)) i).length) := by
    intro y
    induction y with
    | zero =>
      intro i BY hi hb hl
      have ei : i = n := by omega
      have K2 := hpp BY (pxA (ρ 1) (fun i k => ρ 3 (24 * i + k)) i).length
      have hx2 := K2.1
      refine g_iload_n C (gd DX9_print_0 26 rfl) 2 rfl rfl ?_
      refine g_aload_n C (gd DX9_print_0 27 rfl) 0 rfl rfl ?_
      refine g_getr (ci := 9) (k := 9) C rfl (by decide) rfl lf_TestJudge_57 hx2.1 hx2.2.2.2.2.2.2.1.1 (gd DX9_print_0 28 rfl) ?_
      refine g_geti (ci := 6) (k := 0) C rfl (by decide) rfl lf_TestJudge_233 hx2.2.2.2.2.2.2.1.2.1 (gd DX9_print_0 29 rfl) ?_
      rw [pH_ne (by omega) (by omega), o0]
      refine g_icmp_ge C 76 (gd DX9_print_0 30 rfl) (by decide) (fun c55 => ?_) (fun c55 => ?_)
      · refine g_aload_n C (gd DX9_print_0 39 rfl) 0 rfl rfl ?_
        refine g_aload_n C (gd DX9_print_0 40 rfl) 0 rfl rfl ?_
        refine g_getr (ci := 9) (k := 10) C rfl (by decide) rfl lf_TestJudge_64 hx2.1 hx2.2.2.2.2.2.2.2.1.1 (gd DX9_print_0 41 rfl) ?_
        refine g_geti (ci := 1) (k := 1) C rfl (by decide) rfl lf_TestJudge_311 hx2.2.2.2.2.2.2.2.1.2.1 (gd DX9_print_0 42 rfl) ?_
        rw [pH_1]
        refine g_cV1 (ci := 9) C [_] mX9_allow lm_TestJudge_128 (by exact hx2.1) rfl rfl (e_x_allow hx2 _) hfl (by first | decide | omega) (by decide) (by omega) (by omega) rfl rfl (Nat.le_of_ble_eq_true rfl) (gd DX9_print_0 43 rfl) ?_
        have K3 := K2.xi ((xIn.rf x _).i (k := 3) (v := 0))
        have m3 : kvM x (sI (pH (x + 47) g BY (pxA (ρ 1) (fun i k => ρ 3 (24 * i + k)) i).length) x 3 0) (mOu (mSt M 0) (pxA (ρ 1) (fun i k => ρ 3 (24 * i + k)) i)) := by
          obtain ⟨⟨m1, m2, m3⟩, ⟨m4, m5, m6⟩, ⟨m7, m8, m9⟩, -⟩ := hM
          have e : ∀ j, j ≠ 3 → hI (sI (pH (x + 47) g BY (pxA (ρ 1) (fun i k => ρ 3 (24 * i + k)) i).length) x 3 0) x j = hI h x j := fun j hj => by rw [xI_ne hj, pH_ne (by omega) (by omega)]; exact k1.2.2.2.2.2.1 j hj
          have ne : ∀ b, b ≠ x → hI (sI (pH (x + 47) g BY (pxA (ρ 1) (fun i k => ρ 3 (24 * i + k)) i).length) x 3 0) b = hI (pH (x + 47) g BY (pxA (ρ 1) (fun i k => ρ 3 (24 * i + k)) i).length) b := fun b hb => hI_sI_ne hb
          refine ⟨⟨by rw [e _ (by omega)]; exact m1, m2, ?_⟩, ⟨xI_eq, by rw [e _ (by omega)]; exact m5, by rw [e _ (by omega)]; exact m6⟩, ⟨by rw [e _ (by omega)]; exact m7, by rw [e _ (by omega)]; exact m8, by rw [e _ (by omega)]; exact m9⟩, ?_, ?_, ?_⟩
          · rw [ne _ (by omega), pH_ne (by omega) (by omega), k1.2.2.2.2.1 (x + 1) (by omega) (by omega)]; exact m3
          · rw [ne _ (by omega), pH_1]; rfl
          · show (pxA (ρ 1) (fun i k => ρ 3 (24 * i + k)) i).length ≤ 7620
            omega
          · intro j hj
            rw [ne _ (by omega)]
            exact (congrFun (pH_b (p := x + 47)) j).trans (hb j hj)
        exact g_iret C (by omega) (by omega) ⟨_, V, _, rfl, ⟨W, RC, K3, m3⟩, Or.inr ⟨r, hr, rfl, ρ, n, tb, o, Or.inr ⟨n60, by rw [ei], rfl, by rw [ei]⟩⟩⟩ (gd DX9_print_0 44 rfl)
      · exact absurd (by rw [ei]; exact nI_le (Nat.le_refl _) (by omega)) c55
    | succ y ih =>
      intro i BY hi hb hl
      have K2 := hpp BY (pxA (ρ 1) (fun i k => ρ 3 (24 * i + k)) i).length
      have hx2 := K2.1
      obtain ⟨e, he, ei⟩ := ee i (by omega)
      have ps2 : ppSh (x + 47) g := ps
      refine g_iload_n C (gd DX9_print_0 26 rfl) 2 rfl rfl ?_
      refine g_aload_n C (gd DX9_print_0 27 rfl) 0 rfl rfl ?_
      refine g_getr (ci := 9) (k := 9) C rfl (by decide) rfl lf_TestJudge_57 hx2.1 hx2.2.2.2.2.2.2.1.1 (gd DX9_print_0 28 rfl) ?_
      refine g_geti (ci := 6) (k := 0) C rfl (by decide) rfl lf_TestJudge_233 hx2.2.2.2.2.2.2.1.2.1 (gd DX9_print_0 29 rfl) ?_
      rw [pH_ne (by omega) (by omega), o0]
      refine g_icmp_ge C 76 (gd DX9_print_0 30 rfl) (by decide) (fun c55 => ?_) (fun c55 => ?_)
      · exact absurd c55 (nI_ge (a := i) (b := n) (by omega) (by omega))
      · refine g_aload_n C (gd DX9_print_0 31 rfl) 0 rfl rfl ?_
        refine g_getr (ci := 9) (k := 10) C rfl (by decide) rfl lf_TestJudge_64 hx2.1 hx2.2.2.2.2.2.2.2.1.1 (gd DX9_print_0 32 rfl) ?_
        refine g_aload_n C (gd DX9_print_0 33 rfl) 0 rfl rfl ?_
        refine g_getr (ci := 9) (k := 9) C rfl (by decide) rfl lf_TestJudge_57 hx2.1 hx2.2.2.2.2.2.2.1.1 (gd DX9_print_0 34 rfl) ?_
        refine g_iload_n C (gd DX9_print_0 35 rfl) 2 rfl rfl ?_
        refine GW.cast rfl rfl (congrArg (fun y => pH (x + 47) y BY (pxA (ρ 1) (fun i k => ρ 3 (24 * i + k)) i).length) gT.symm) ?_
        refine g_cV0 (v := .null) (ci := 1) C [_, _] mX1_putRest lm_TestJudge_312 (by exact hx2.2.2.2.2.2.2.2.1.2.1) rfl rfl (e_p_putRest ps ts (Or.inr (by omega)) o n60 (show i < n by omega) ei he (by omega)) hfl (by first | decide | omega) (by decide) (by omega) (by omega) rfl rfl (Nat.le_of_ble_eq_true rfl) (gd DX9_print_0 36 rfl) ?_
        rw [gT]
        refine g_iinc (lv' := [(0, _), (1, _), (2, _)]) C (gd DX9_print_0 37 rfl) 2 [1, 2, 0] rfl rfl (by decide) rfl ?_
        refine g_goto (tgt := 47) C (gd DX9_print_0 38 rfl) (by decide) ?_
        have el : (pxA (ρ 1) (fun i k => ρ 3 (24 * i + k)) (i + 1)).length = (pxA (ρ 1) (fun i k => ρ 3 (24 * i + k)) i).length + (pxR (ρ 1) (fun i k => ρ 3 (24 * i + k)) i).length := by rw [pxA, List.length_append]
        have e127 : (pxR (ρ 1) (fun i k => ρ 3 (24 * i + k)) i).length ≤ 127 := by
          have d1 := digs_2 (x := i) (by omega)
          have d2 := digs_3 (ρ 1 i).toNatClampNeg
          have d3 := pxK_5 (T := fun i k => ρ 3 (24 * i + k)) (i := i) n60 (fun k hk => o.2.2.2 (24 * i + k) (by omega)) 24 (by omega)
          unfold pxR
          simp only [List.length_append, List.length_cons, List.length_nil]
          omega
        refine GW.cast (by rw [inc1]) rfl (by rw [el]) (ih (i + 1) _ (by omega) (fun j hj => ?_) (by omega))
        rw [el] at hj
        rw [pxA]
        unfold oBY
        by_cases e : j < (pxA (ρ 1) (fun i k => ρ 3 (24 * i + k)) i).length
        · rw [byL_lo _ _ _ _ e, hb j e]
          unfold oBY
          rw [List.getD_eq_getElem?_getD, List.getD_eq_getElem?_getD, List.getElem?_append_left e]
        · obtain ⟨d, hd⟩ : ∃ d, j = (pxA (ρ 1) (fun i k => ρ 3 (24 * i + k)) i).length + d := ⟨j - (pxA (ρ 1) (fun i k => ρ 3 (24 * i + k)) i).length, by omega⟩
          rw [hd, byL_get _ _ _ _ (by omega)]
          unfold oBY
          rw [List.getD_eq_getElem?_getD, List.getD_eq_getElem?_getD, List.getElem?_append_right (by omega), Nat.add_sub_cancel_left]
  refine g_aload_n C (gd DX9_print_0 20 rfl) 0 rfl rfl ?_
  refine g_getr (ci := 9) (k := 10) C rfl (by decide) rfl lf_TestJudge_64 hx1.1 hx1.2.2.2.2.2.2.2.1.1 (gd DX9_print_0 21 rfl) ?_
  refine g_iconst (v := 0) C (gd DX9_print_0 22 rfl) (by decide) ?_
  refine g_puti (ci := 1) (k := 1) C rfl (by decide) rfl lf_TestJudge_311 hx1.2.2.2.2.2.2.2.1.2.1 (Or.inl rfl) rfl (gd DX9_print_0 23 rfl) ?_
  refine GW.cast rfl rfl (show sI g (x + 47) 1 0 = pH (x + 47) g B 0 from by rw [← hB]; unfold pH; rw [sF_self]; rfl) ?_
  refine g_iconst (v := 0) C (gd DX9_print_0 24 rfl) (by decide) ?_
  refine g_istore_n (lv' := [(0, _), (1, _), (2, _)]) C (gd DX9_print_0 25 rfl) [1, 2, 0] rfl (by decide) rfl ?_
  exact loop n 0 B (by omega) (fun j hj => absurd hj (Nat.not_lt_zero _)) (Nat.le_refl _)
end XA
