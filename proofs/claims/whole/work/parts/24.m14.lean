/-! laysOne, laysTwo, parted, firstEnd, least of a set, usefulNext -/
/-- the facts: how many, their weights -/
def mFa (m : Nat) (h : HS) (nf : Nat) (fw : Nat → Nat) : Prop := nf ≤ 2 ∧ hI h m 5 = nI nf ∧ (∀ f, f < nf → gRec (hI h (m + 1)) (8 + f) 0 = nI (fw f)) ∧ fw 0 + fw 1 ≤ 2
def fsum (fw : Nat → Nat) : Nat → Nat
  | 0 => 0
  | f + 1 => fsum fw f + fw f
theorem fbR_w2 {s : Int32} {ρ : Nat → Int32} {nf : Nat} {fw : Nat → Nat} (hw : ∀ f, f < nf → gRec ρ (8 + f) 0 = nI (fw f)) (hfw : ∀ f, f < nf → fw f ≤ 2) (hnf : nf ≤ 2) : ∀ f, f ≤ nf → ∃ a, a ≤ fsum fw f ∧ gRec (fbR s ρ f) 90 0 = nI a := by
  intro f
  induction f with
  | zero => intro _; exact ⟨0, Nat.le_refl _, by rw [fbR, gRec_pRec (by omega)]; rfl⟩
  | succ f ih =>
    intro hf
    obtain ⟨a, ha1, ha2⟩ := ih (by omega)
    have hb2 := hw f (by omega)
    have hb3 : gRec (fbR s ρ f) (8 + f) 0 = nI (fw f) := by rw [fbR_other (by omega) (by omega) (by omega), hb2]
    have hfs : fsum fw f ≤ 2 * f := by
      clear ha1 ha2 hb2 hb3
      have : ∀ g, g ≤ f → fsum fw g ≤ 2 * g := by
        intro g
        induction g with
        | zero => intro _; exact Nat.le_refl _
        | succ g ihg => intro hg; have a1 := ihg (by omega); have a2 := hfw g (by omega); unfold fsum; omega
      exact this f (Nat.le_refl _)
    have hff := hfw f (by omega)
    unfold fbR
    split
    · refine ⟨a + fw f, by unfold fsum; omega, ?_⟩
      rw [gRec_pRec (by omega), gRec_pRec (by omega), rSum_0, wt_of ha2 (by omega), wt_of hb3 (by omega)]
    · exact ⟨a, by unfold fsum; omega, ha2⟩
theorem mFa.w {m : Nat} {h : HS} {nf : Nat} {fw : Nat → Nat} (hF : mFa m h nf fw) (s : Int32) : ∃ a, a ≤ 2 ∧ gRec (fbR s (hI h (m + 1)) nf) 90 0 = nI a := by
  obtain ⟨h1, h2, h3, h4⟩ := hF
  have hle : ∀ f, f < nf → fw f ≤ 2 := fun f hf => by
    rcases (show f = 0 ∨ f = 1 by omega) with rfl | rfl <;> omega
  obtain ⟨a, ha, e⟩ := fbR_w2 (s := s) h3 hle h1 nf (Nat.le_refl _)
  refine ⟨a, ?_, e⟩
  rcases (show nf = 0 ∨ nf = 1 ∨ nf = 2 by omega) with rfl | rfl | rfl <;> simp [fsum] at ha <;> omega
/-- the pair that the reference lays out of its records r and o, some facts assumed -/
noncomputable def kOf (m : Nat) (h : HS) (nf : Nat) (s : Int32) (r o : Nat) : kP := (hI h m 2, hI h m 3, gRec (fbR s (hI h (m + 1)) nf) r, gRec (fbR s (hI h (m + 1)) nf) o, gRec (fbR s (hI h (m + 1)) nf) 90, wt (gRec (hI h (m + 1)) r), wt (gRec (hI h (m + 1)) o), wt (gRec (fbR s (hI h (m + 1)) nf) 90))
/-- behind lays -/
def layP (m : Nat) (h : HS) (nf : Nat) (s : Int32) (r o : Nat) (h' : HS) : Prop := ∃ N, LD (kOf m h nf s r o) m h' N ∧ LU m h' N ∧ Fr3 h h' ∧ hI h' (m + 1) = fbR s (hI h (m + 1)) nf ∧ (∀ b j, ¬ layW m b j → hI h' b j = hI h b j) ∧ (∀ b j, b ≠ m + 5 → hL h' b j = hL h b j)
section M14
variable {w : gD} {m : Nat} {h : HS}
theorem r_lays (hm : mSh m h) {r o nf : Nat} {fw : Nat → Nat} (hF : mFa m h nf fw) (hr : r < 102) (hr1 : r ≠ 90) (hr2 : r ≠ 93) (ho : o < 102) (ho1 : o ≠ 90) (ho2 : o ≠ 93) (s : Int32) {wr wo : Nat} (lr : wr ≤ 6) (lo : wo ≤ 6) (hwr : gRec (hI h (m + 1)) r 0 = nI wr) (hwo : gRec (hI h (m + 1)) o 0 = nI wo) :
    Ev w 5 0 0 yX10_lays cX10_lays 5 none [.ref m, .int (nI r), .int (nI o), .int s] h (fun r' h' => r' = none ∧ layP m h nf s r o h') := by
  obtain ⟨wf, lf, hwf⟩ := hF.w s
  have e1 : wt (gRec (hI h (m + 1)) r) = wr := wt_of hwr (by omega)
  have e2 : wt (gRec (hI h (m + 1)) o) = wo := wt_of hwo (by omega)
  have e3 : wt (gRec (fbR s (hI h (m + 1)) nf) 90) = wf := wt_of hwf (by omega)
  have hfa : ∀ f, f < nf → ∃ a, a ≤ 16 ∧ gRec (hI h (m + 1)) (8 + f) 0 = nI a := fun f hf => by
    refine ⟨fw f, ?_, hF.2.2.1 f hf⟩
    have := hF.2.2.2
    have := hF.1
    rcases (show f = 0 ∨ f = 1 by omega) with rfl | rfl <;> omega
  refine (e_m_lays (w := w) (P := kOf m h nf s r o) hm hr hr1 hr2 ho ho1 ho2 hF.1 hF.2.1 hfa s hwr hwo hwf (by omega) (by omega) (by omega) ?_ ?_).to (fun r' h' q => q)
  · unfold kOf; rw [e1, e2, e3]
  · intro e
    exact kSc_cap (P := kOf m h nf s r o) (by show wt _ ≤ 6; rw [e1]; exact lr) (by show wt _ ≤ 6; rw [e2]; exact lo) (by show wt _ ≤ 2; rw [e3]; exact lf) e
theorem e_m_laysTwo (hm : mSh m h) {r o nf : Nat} {fw : Nat → Nat} (hF : mFa m h nf fw) (hr : r < 8) (ho : o < 8) {wr wo : Nat} (lr : wr ≤ 6) (lo : wo ≤ 6) (hwr : gRec (hI h (m + 1)) r 0 = nI wr) (hwo : gRec (hI h (m + 1)) o 0 = nI wo) :
    Ev w 6 0 0 yX10_laysTwo cX10_laysTwo 3 none [.ref m, .int (nI r), .int (nI o)] h (fun r' h' => r' = none ∧ layP m h nf (hI h m 6) r o h') := by
  refine g_start (by decide) (Nat.le_of_ble_eq_true rfl) [(0, _), (1, _), (2, _)] rfl (fun z hfl C => ?_)
  refine g_aload_n C (gd DX10_laysTwo_0 0 rfl) 0 rfl rfl ?_
  refine g_iconst (v := 0) C (gd DX10_laysTwo_0 1 rfl) (by decide) ?_
  refine g_iload_n C (gd DX10_laysTwo_0 2 rfl) 1 rfl rfl ?_
  refine g_iadd C (gd DX10_laysTwo_0 3 rfl) ?_
  refine g_iconst (v := 0) C (gd DX10_laysTwo_0 4 rfl) (by decide) ?_
  refine g_iload_n C (gd DX10_laysTwo_0 5 rfl) 2 rfl rfl ?_
  refine g_iadd C (gd DX10_laysTwo_0 6 rfl) ?_
  refine g_aload_n C (gd DX10_laysTwo_0 7 rfl) 0 rfl rfl ?_
  refine g_geti (ci := 10) (k := 6) C rfl (by decide) rfl lf_TestJudgeModel_343 hm.1 (gd DX10_laysTwo_0 8 rfl) ?_
  rw [show (0 : Int32) + nI r = nI r from by simp, show (0 : Int32) + nI o = nI o from by simp]
  refine g_callV (ci := 10) C [_, _, _] mX10_lays lm_TestJudgeModel_390 (by exact hm.1) rfl rfl (r_lays hm hF (by omega) (by omega) (by omega) (by omega) (by omega) (by omega) _ lr lo hwr hwo) hfl (by decide) (by decide) (by omega) (by omega) rfl rfl (Nat.le_of_ble_eq_true rfl) (gd DX10_laysTwo_0 9 rfl) (fun r h2 hp => ?_)
  obtain ⟨rfl, hp⟩ := hp
  show GW z w 3 _ 0 0 _ _ [] _
  exact g_vret C (by omega) (by omega) ⟨rfl, hp⟩ (gd DX10_laysTwo_0 10 rfl)
theorem e_m_laysOne (hm : mSh m h) {r nf : Nat} {fw : Nat → Nat} (hF : mFa m h nf fw) (hr : r < 8) {wr : Nat} (lr : wr ≤ 6) (hwr : gRec (hI h (m + 1)) r 0 = nI wr) :
    Ev w 6 0 0 yX10_laysOne cX10_laysOne 2 none [.ref m, .int (nI r)] h (fun r' h' => r' = none ∧ layP m (sF h (m + 1) (pRec (hI h (m + 1)) 92 (rPlain 0))) nf (hI h m 6) r 92 h') := by
  refine g_start (by decide) (Nat.le_of_ble_eq_true rfl) [(0, _), (1, _)] rfl (fun z hfl C => ?_)
  refine g_aload_n C (gd DX10_laysOne_0 0 rfl) 0 rfl rfl ?_
  refine g_bipush (v := 92) C (gd DX10_laysOne_0 1 rfl) (by decide) ?_
  refine g_iconst (v := 0) C (gd DX10_laysOne_0 2 rfl) (by decide) ?_
  refine g_cV0 (v := .null) (ci := 10) C [_, _] mX10_plain lm_TestJudgeModel_127 (by exact hm.1) rfl rfl (e_m_plain hm (t := 92) (by omega) _) hfl (by decide) (by decide) (by omega) (by omega) rfl rfl (Nat.le_of_ble_eq_true rfl) (gd DX10_laysOne_0 3 rfl) ?_
  refine g_aload_n C (gd DX10_laysOne_0 4 rfl) 0 rfl rfl ?_
  refine g_iconst (v := 0) C (gd DX10_laysOne_0 5 rfl) (by decide) ?_
  refine g_iload_n C (gd DX10_laysOne_0 6 rfl) 1 rfl rfl ?_
  refine g_iadd C (gd DX10_laysOne_0 7 rfl) ?_
  refine g_bipush (v := 92) C (gd DX10_laysOne_0 8 rfl) (by decide) ?_
  refine g_aload_n C (gd DX10_laysOne_0 9 rfl) 0 rfl rfl ?_
  refine g_geti (ci := 10) (k := 6) C rfl (by decide) rfl lf_TestJudgeModel_343 hm.1 (gd DX10_laysOne_0 10 rfl) ?_
  rw [show (0 : Int32) + nI r = nI r from by simp, show hI (sF h (m + 1) (pRec (hI h (m + 1)) 92 (rPlain 0))) m 6 = hI h m 6 from by rw [hI_sF_ne (by omega)]]
  have hF2 : mFa m (sF h (m + 1) (pRec (hI h (m + 1)) 92 (rPlain 0))) nf fw := by
    obtain ⟨a1, a2, a3, a4⟩ := hF
    refine ⟨a1, by rw [hI_sF_ne (by omega)]; exact a2, fun f hf => ?_, a4⟩
    rw [hI_sF_eq, gRec_pRec_ne (by omega) (by omega)]
    exact a3 f hf
  refine g_callV (ci := 10) C [_, _, _] mX10_lays lm_TestJudgeModel_390 (by exact hm.1) rfl rfl (r_lays (r := r) (o := 92) (by exact hm) hF2 (by omega) (by omega) (by omega) (by omega) (by omega) (by omega) _ lr (wo := 0) (by omega) (by rw [hI_sF_eq, gRec_pRec_ne (by omega) (by omega)]; exact hwr) (by rw [hI_sF_eq, gRec_pRec (by omega)]; rfl)) hfl (by decide) (by decide) (by omega) (by omega) rfl rfl (Nat.le_of_ble_eq_true rfl) (gd DX10_laysOne_0 11 rfl) (fun r h2 hp => ?_)
  obtain ⟨rfl, hp⟩ := hp
  show GW z w 2 _ 0 0 _ _ [] _
  exact g_vret C (by omega) (by omega) ⟨rfl, hp⟩ (gd DX10_laysOne_0 12 rfl)
/-- the first below N with p; none: N -/
theorem e_m_parted (hm : mSh m h) {N : Nat} (hN0 : N ≤ 16400) (hst : hI h m 42 = nI N) : Ev w 0 0 0 yX10_parted cX10_parted 2 (some .int) [.ref m] h (fun r' h' => h' = h ∧ ((∃ s, s < N ∧ r' = some (.int (nI s)) ∧ ¬ hI h (m + 8) s = hI h (m + 9) s ∧ ∀ t, t < s → hI h (m + 8) t = hI h (m + 9) t) ∨ (r' = some (.int (-1)) ∧ ∀ t, t < N → hI h (m + 8) t = hI h (m + 9) t))) := by
  refine g_start (by decide) (Nat.le_of_ble_eq_true rfl) [(0, _)] rfl (fun z hfl C => ?_)
  have key : ∀ n s, s + n = N → (∀ t, t < s → hI h (m + 8) t = hI h (m + 9) t) → GW z w 2 (gQ z w 0 0 (fun r' h'' => h'' = h ∧ ((∃ s, s < N ∧ r' = some (.int (nI s)) ∧ ¬ hI h (m + 8) s = hI h (m + 9) s ∧ ∀ t, t < s → hI h (m + 8) t = hI h (m + 9) t) ∨ (r' = some (.int (-1)) ∧ ∀ t, t < N → hI h (m + 8) t = hI h (m + 9) t)))) 0 0 2 [(0, .ref m), (1, .int (nI s))] [] h := by
    intro n
    induction n with
    | zero =>
      intro s hs ha
      refine g_iload_n C (gd DX10_parted_0 2 rfl) 1 rfl rfl ?_
      refine g_aload_n C (gd DX10_parted_0 3 rfl) 0 rfl rfl ?_
      refine g_geti (ci := 10) (k := 42) C rfl (by decide) rfl lf_TestJudgeModel_357 hm.1 (gd DX10_parted_0 4 rfl) ?_
      rw [hst]
      refine g_icmp_ge C 33 (gd DX10_parted_0 5 rfl) (by decide) (fun c7 => ?_) (fun c7 => ?_)
      · refine g_iconst (v := -1) C (gd DX10_parted_0 19 rfl) (by decide) ?_
        exact g_iret C (by omega) (by omega) ⟨rfl, Or.inr ⟨rfl, fun t ht => ha t (by omega)⟩⟩ (gd DX10_parted_0 20 rfl)
      · exact absurd (nI_le (by omega) (by omega)) c7
    | succ n ih =>
      intro s hs ha
      refine g_iload_n C (gd DX10_parted_0 2 rfl) 1 rfl rfl ?_
      refine g_aload_n C (gd DX10_parted_0 3 rfl) 0 rfl rfl ?_
      refine g_geti (ci := 10) (k := 42) C rfl (by decide) rfl lf_TestJudgeModel_357 hm.1 (gd DX10_parted_0 4 rfl) ?_
      rw [hst]
      refine g_icmp_ge C 33 (gd DX10_parted_0 5 rfl) (by decide) (fun c7 => ?_) (fun c7 => ?_)
      · exact absurd c7 (nI_ge (by omega) (by omega))
      · refine g_aload_n C (gd DX10_parted_0 6 rfl) 0 rfl rfl ?_
        refine g_getr (ci := 10) (k := 36) C rfl (by decide) rfl lf_TestJudgeModel_44 hm.1 (hm.2 36 8 12 16500 rfl).1 (gd DX10_parted_0 7 rfl) ?_
        refine g_iload_n C (gd DX10_parted_0 8 rfl) 1 rfl rfl ?_
        refine g_iaj (j := s) C (hm.2 36 8 12 16500 rfl).2.1 (hm.2 36 8 12 16500 rfl).2.2 (by decide) rfl (by omega) (gd DX10_parted_0 9 rfl) ?_
        refine g_aload_n C (gd DX10_parted_0 10 rfl) 0 rfl rfl ?_
        refine g_getr (ci := 10) (k := 37) C rfl (by decide) rfl lf_TestJudgeModel_47 hm.1 (hm.2 37 9 12 16500 rfl).1 (gd DX10_parted_0 11 rfl) ?_
        refine g_iload_n C (gd DX10_parted_0 12 rfl) 1 rfl rfl ?_
        refine g_iaj (j := s) C (hm.2 37 9 12 16500 rfl).2.1 (hm.2 37 9 12 16500 rfl).2.2 (by decide) rfl (by omega) (gd DX10_parted_0 13 rfl) ?_
        refine g_icmp_eq C 27 (gd DX10_parted_0 14 rfl) (by decide) (fun c22 => ?_) (fun c22 => ?_)
        · refine g_iinc (lv' := [(0, _), (1, _)]) C (gd DX10_parted_0 17 rfl) 1 [1, 0] rfl rfl (by decide) rfl ?_
          refine g_goto (tgt := 2) C (gd DX10_parted_0 18 rfl) (by decide) ?_
          refine GW.cast (by rw [inc1]) rfl rfl (ih (s + 1) (by omega) (fun t ht => ?_))
          by_cases e : t = s
          · subst e; exact c22
          · exact ha t (by omega)
        · refine g_iload_n C (gd DX10_parted_0 15 rfl) 1 rfl rfl ?_
          exact g_iret C (by omega) (by omega) ⟨rfl, Or.inl ⟨s, by omega, rfl, c22, ha⟩⟩ (gd DX10_parted_0 16 rfl)
  refine g_iconst (v := 0) C (gd DX10_parted_0 0 rfl) (by decide) ?_
  refine g_istore_n (lv' := [(0, _), (1, _)]) C (gd DX10_parted_0 1 rfl) [1, 0] rfl (by decide) rfl ?_
  exact key N 0 (by omega) (fun t ht => by omega)
theorem e_m_firstEnd (hm : mSh m h) {N : Nat} (hN0 : N ≤ 16400) (hst : hI h m 42 = nI N) : Ev w 0 0 0 yX10_firstEnd cX10_firstEnd 2 (some .int) [.ref m] h (fun r' h' => h' = h ∧ ((∃ s, s < N ∧ r' = some (.int (nI s)) ∧ ¬ hI h (m + 8) s = 0 ∧ ∀ t, t < s → hI h (m + 8) t = 0) ∨ (r' = some (.int (-1)) ∧ ∀ t, t < N → hI h (m + 8) t = 0))) := by
  refine g_start (by decide) (Nat.le_of_ble_eq_true rfl) [(0, _)] rfl (fun z hfl C => ?_)
  have key : ∀ n s, s + n = N → (∀ t, t < s → hI h (m + 8) t = 0) → GW z w 2 (gQ z w 0 0 (fun r' h'' => h'' = h ∧ ((∃ s, s < N ∧ r' = some (.int (nI s)) ∧ ¬ hI h (m + 8) s = 0 ∧ ∀ t, t < s → hI h (m + 8) t = 0) ∨ (r' = some (.int (-1)) ∧ ∀ t, t < N → hI h (m + 8) t = 0)))) 0 0 2 [(0, .ref m), (1, .int (nI s))] [] h := by
    intro n
    induction n with
    | zero =>
      intro s hs ha
      refine g_iload_n C (gd DX10_firstEnd_0 2 rfl) 1 rfl rfl ?_
      refine g_aload_n C (gd DX10_firstEnd_0 3 rfl) 0 rfl rfl ?_
      refine g_geti (ci := 10) (k := 42) C rfl (by decide) rfl lf_TestJudgeModel_357 hm.1 (gd DX10_firstEnd_0 4 rfl) ?_
      rw [hst]
      refine g_icmp_ge C 27 (gd DX10_firstEnd_0 5 rfl) (by decide) (fun c7 => ?_) (fun c7 => ?_)
      · refine g_iconst (v := -1) C (gd DX10_firstEnd_0 15 rfl) (by decide) ?_
        exact g_iret C (by omega) (by omega) ⟨rfl, Or.inr ⟨rfl, fun t ht => ha t (by omega)⟩⟩ (gd DX10_firstEnd_0 16 rfl)
      · exact absurd (nI_le (by omega) (by omega)) c7
    | succ n ih =>
      intro s hs ha
      refine g_iload_n C (gd DX10_firstEnd_0 2 rfl) 1 rfl rfl ?_
      refine g_aload_n C (gd DX10_firstEnd_0 3 rfl) 0 rfl rfl ?_
      refine g_geti (ci := 10) (k := 42) C rfl (by decide) rfl lf_TestJudgeModel_357 hm.1 (gd DX10_firstEnd_0 4 rfl) ?_
      rw [hst]
      refine g_icmp_ge C 27 (gd DX10_firstEnd_0 5 rfl) (by decide) (fun c7 => ?_) (fun c7 => ?_)
      · exact absurd c7 (nI_ge (by omega) (by omega))
      · refine g_aload_n C (gd DX10_firstEnd_0 6 rfl) 0 rfl rfl ?_
        refine g_getr (ci := 10) (k := 36) C rfl (by decide) rfl lf_TestJudgeModel_44 hm.1 (hm.2 36 8 12 16500 rfl).1 (gd DX10_firstEnd_0 7 rfl) ?_
        refine g_iload_n C (gd DX10_firstEnd_0 8 rfl) 1 rfl rfl ?_
        refine g_iaj (j := s) C (hm.2 36 8 12 16500 rfl).2.1 (hm.2 36 8 12 16500 rfl).2.2 (by decide) rfl (by omega) (gd DX10_firstEnd_0 9 rfl) ?_
        refine g_if_eq C 21 (gd DX10_firstEnd_0 10 rfl) (by decide) (fun c16 => ?_) (fun c16 => ?_)
        · refine g_iinc (lv' := [(0, _), (1, _)]) C (gd DX10_firstEnd_0 13 rfl) 1 [1, 0] rfl rfl (by decide) rfl ?_
          refine g_goto (tgt := 2) C (gd DX10_firstEnd_0 14 rfl) (by decide) ?_
          refine GW.cast (by rw [inc1]) rfl rfl (ih (s + 1) (by omega) (fun t ht => ?_))
          by_cases e : t = s
          · subst e; exact c16
          · exact ha t (by omega)
        · refine g_iload_n C (gd DX10_firstEnd_0 11 rfl) 1 rfl rfl ?_
          exact g_iret C (by omega) (by omega) ⟨rfl, Or.inl ⟨s, by omega, rfl, c16, ha⟩⟩ (gd DX10_firstEnd_0 12 rfl)
  refine g_iconst (v := 0) C (gd DX10_firstEnd_0 0 rfl) (by decide) ?_
  refine g_istore_n (lv' := [(0, _), (1, _)]) C (gd DX10_firstEnd_0 1 rfl) [1, 0] rfl (by decide) rfl ?_
  exact key N 0 (by omega) (fun t ht => by omega)
/-- the least of a set, from k on -/
theorem e_m_least_ {s : Int32} {b : Nat} (hb : hasB s (nI b)) (hb2 : b < 32) : Ev w 1 0 0 yX10_least_ cX10_least_ 3 (some .int) [.int s, .int 0] h (fun r' h' => h' = h ∧ ∃ k, k ≤ b ∧ r' = some (.int (nI k)) ∧ hasB s (nI k) ∧ ∀ t, t < k → ¬ hasB s (nI t)) := by
  refine g_start (by decide) (Nat.le_of_ble_eq_true rfl) [(0, _), (1, _)] rfl (fun z hfl C => ?_)
  have key : ∀ n k, k + n = b → (∀ t, t < k → ¬ hasB s (nI t)) → GW z w 3 (gQ z w 0 0 (fun r' h'' => h'' = h ∧ ∃ k, k ≤ b ∧ r' = some (.int (nI k)) ∧ hasB s (nI k) ∧ ∀ t, t < k → ¬ hasB s (nI t))) 0 0 2 [(0, .int s), (1, .int 0), (2, .int (nI k))] [] h := by
    intro n
    induction n with
    | zero =>
      intro k hk ha
      have e : k = b := by omega
      subst e
      refine g_iload_n C (gd DX10_least__0 2 rfl) 0 rfl rfl ?_
      refine g_iload_n C (gd DX10_least__0 3 rfl) 2 rfl rfl ?_
      refine g_cS1 C [_, _] mX10_has lm_TestJudgeModel_144 (e_m_has _ _) hfl (by decide) (by decide) (by omega) (by omega) rfl rfl (Nat.le_of_ble_eq_true rfl) (gd DX10_least__0 4 rfl) ?_
      rw [b1_t (show s >>> (nI k &&& 31) &&& 1 = 1 from hb)]
      refine g_if_ne C 16 (gd DX10_least__0 5 rfl) (by decide) (fun c7 => ?_) (fun c7 => ?_)
      · refine g_iload_n C (gd DX10_least__0 8 rfl) 2 rfl rfl ?_
        exact g_iret C (by omega) (by omega) ⟨rfl, k, Nat.le_refl _, rfl, hb, ha⟩ (gd DX10_least__0 9 rfl)
      · exact absurd c7 (by decide)
    | succ n ih =>
      intro k hk ha
      refine g_iload_n C (gd DX10_least__0 2 rfl) 0 rfl rfl ?_
      refine g_iload_n C (gd DX10_least__0 3 rfl) 2 rfl rfl ?_
      refine g_cS1 C [_, _] mX10_has lm_TestJudgeModel_144 (e_m_has _ _) hfl (by decide) (by decide) (by omega) (by omega) rfl rfl (Nat.le_of_ble_eq_true rfl) (gd DX10_least__0 4 rfl) ?_
      by_cases hc : hasB s (nI k)
      · rw [b1_t (show s >>> (nI k &&& 31) &&& 1 = 1 from hc)]
        refine g_if_ne C 16 (gd DX10_least__0 5 rfl) (by decide) (fun c7 => ?_) (fun c7 => ?_)
        · refine g_iload_n C (gd DX10_least__0 8 rfl) 2 rfl rfl ?_
          exact g_iret C (by omega) (by omega) ⟨rfl, k, by omega, rfl, hc, ha⟩ (gd DX10_least__0 9 rfl)
        · exact absurd c7 (by decide)
      · rw [b1_f (show ¬ s >>> (nI k &&& 31) &&& 1 = 1 from hc)]
        refine g_if_ne C 16 (gd DX10_least__0 5 rfl) (by decide) (fun c7 => ?_) (fun c7 => ?_)
        · exact absurd rfl c7
        · refine g_iinc (lv' := [(0, _), (1, _), (2, _)]) C (gd DX10_least__0 6 rfl) 2 [1, 2, 0] rfl rfl (by decide) rfl ?_
          refine g_goto (tgt := 2) C (gd DX10_least__0 7 rfl) (by decide) ?_
          refine GW.cast (by rw [inc1]) rfl rfl (ih (k + 1) (by omega) (fun t ht => ?_))
          by_cases e : t = k
          · subst e; exact hc
          · exact ha t (by omega)
  refine g_iload_n C (gd DX10_least__0 0 rfl) 1 rfl rfl ?_
  refine g_istore_n (lv' := [(0, _), (1, _), (2, _)]) C (gd DX10_least__0 1 rfl) [1, 2, 0] rfl (by decide) rfl ?_
  exact key b 0 (by omega) (fun t ht => by omega)
/-- the row goOn at e, as a state that is useful; none -/
def uNx (m : Nat) (h : HS) (e : Nat) : Int32 := if hI h (m + 7) e = -1 then -1 else if hI h (m + 13) (hI h (m + 7) e).toNatClampNeg = 0 then -1 else hI h (m + 7) e
theorem e_m_usefulNext (hm : mSh m h) {s k N : Nat} (hN0 : N ≤ 16400) (hs : s < N) (hk : k < 24) (hgo : ∀ e, e < 24 * N → hI h (m + 7) e = -1 ∨ ∃ j, j < N ∧ hI h (m + 7) e = nI j) : EvF w 0 0 0 yX10_usefulNext cX10_usefulNext 4 (some .int) [.ref m, .int (nI s), .int (nI k)] h (some (.int (uNx m h (24 * s + k)))) h := by
  refine g_start (by decide) (Nat.le_of_ble_eq_true rfl) [(0, _), (1, _), (2, _)] rfl (fun z hfl C => ?_)
  refine g_aload_n C (gd DX10_usefulNext_0 0 rfl) 0 rfl rfl ?_
  refine g_getr (ci := 10) (k := 35) C rfl (by decide) rfl lf_TestJudgeModel_41 hm.1 (hm.2 35 7 12 396000 rfl).1 (gd DX10_usefulNext_0 1 rfl) ?_
  refine g_bipush (v := 24) C (gd DX10_usefulNext_0 2 rfl) (by decide) ?_
  refine g_iload_n C (gd DX10_usefulNext_0 3 rfl) 1 rfl rfl ?_
  refine g_imul C (gd DX10_usefulNext_0 4 rfl) ?_
  refine g_iload_n C (gd DX10_usefulNext_0 5 rfl) 2 rfl rfl ?_
  refine g_iadd C (gd DX10_usefulNext_0 6 rfl) ?_
  refine g_iaj (j := ((24 * s) + k)) C (hm.2 35 7 12 396000 rfl).2.1 (hm.2 35 7 12 396000 rfl).2.2 (by decide) (nx_add (nx_mul rfl rfl) rfl) (by omega) (gd DX10_usefulNext_0 7 rfl) ?_
  refine g_istore_n (lv' := [(0, _), (1, _), (2, _), (3, _)]) C (gd DX10_usefulNext_0 8 rfl) [1, 2, 3, 0] rfl (by decide) rfl ?_
  refine g_iload_n C (gd DX10_usefulNext_0 9 rfl) 3 rfl rfl ?_
  refine g_iconst (v := -1) C (gd DX10_usefulNext_0 10 rfl) (by decide) ?_
  refine g_icmp_eq C 30 (gd DX10_usefulNext_0 11 rfl) (by decide) (fun c14 => ?_) (fun c14 => ?_)
  · refine g_iconst (v := -1) C (gd DX10_usefulNext_0 19 rfl) (by decide) ?_
    exact g_iret C (by omega) (by omega) ⟨by rw [uNx, if_pos c14], rfl⟩ (gd DX10_usefulNext_0 20 rfl)
  · obtain ⟨j, hj, ej⟩ : ∃ j, j < N ∧ hI h (m + 7) (24 * s + k) = nI j := by
      rcases hgo (24 * s + k) (by omega) with q | q
      · exact absurd q c14
      · exact q
    rw [ej] at c14 ⊢
    refine g_aload_n C (gd DX10_usefulNext_0 12 rfl) 0 rfl rfl ?_
    refine g_getr (ci := 10) (k := 41) C rfl (by decide) rfl lf_TestJudgeModel_59 hm.1 (hm.2 41 13 15 16500 rfl).1 (gd DX10_usefulNext_0 13 rfl) ?_
    refine g_iload_n C (gd DX10_usefulNext_0 14 rfl) 3 rfl rfl ?_
    refine g_zaj (j := j) C (hm.2 41 13 15 16500 rfl).2.1 (hm.2 41 13 15 16500 rfl).2.2 (by decide) rfl (by omega) (gd DX10_usefulNext_0 15 rfl) ?_
    refine g_if_eq C 30 (gd DX10_usefulNext_0 16 rfl) (by decide) (fun c23 => ?_) (fun c23 => ?_)
    · refine g_iconst (v := -1) C (gd DX10_usefulNext_0 19 rfl) (by decide) ?_
      exact g_iret C (by omega) (by omega) ⟨by rw [uNx, ej, if_neg c14, nI_clamp (by omega), if_pos c23], rfl⟩ (gd DX10_usefulNext_0 20 rfl)
    · refine g_iload_n C (gd DX10_usefulNext_0 17 rfl) 3 rfl rfl ?_
      refine g_goto (tgt := 31) C (gd DX10_usefulNext_0 18 rfl) (by decide) ?_
      exact g_iret C (by omega) (by omega) ⟨by rw [uNx, ej, if_neg c14, nI_clamp (by omega), if_neg c23], rfl⟩ (gd DX10_usefulNext_0 20 rfl)
end M14
