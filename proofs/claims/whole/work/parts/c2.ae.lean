/-! The class's actions: assume, undo -/
section AE
variable {w : gD} {x W : Nat} {h : HS} {V : aV} {RC : Nat → Nat → Int32} {M : aM}
theorem e_x_assume (K : K0 x W h V RC) (hM : kvM x h M) (p : Int32) {y : Int32} (hy : y = 0 ∨ y = 1) : Ev w 3 0 0 yX9_assume cX9_assume 3 (some .int) [.ref x, .int p, .int y] h (aQ x (qAss V M p y)) := by
  refine g_start (by decide) (Nat.le_of_ble_eq_true rfl) [(0, _), (1, _), (2, _)] rfl (fun z hfl C => ?_)
  have hx := K.1
  obtain ⟨w0, w1, w2, w3, w4⟩ := K.2.2.1.1
  have hnp := K.2.1.np
  have hnf := K.2.1.nf
  have hs4 := K.2.1.s4
  have xW := hx.2.2.2.2.2.2.2.2.2.1
  obtain ⟨xa, xb⟩ := hx.2.2.2.2.2.2.2.2.2.2.1
  refine g_aload_n C (gd DX9_assume_0 0 rfl) 0 rfl rfl ?_
  refine g_iload_n C (gd DX9_assume_0 1 rfl) 1 rfl rfl ?_
  refine g_cV1 (ci := 9) C [_] mX9_lacksFact lm_TestJudge_168 (by exact hx.1) rfl rfl (e_x_lacksFact hx (by omega) w3 p) hfl (by first | decide | omega) (by decide) (by omega) (by omega) rfl rfl (Nat.le_of_ble_eq_true rfl) (gd DX9_assume_0 2 rfl) ?_
  by_cases n1 : 0 ≤ p ∧ p ≤ nI (vNf V) - 1
  rotate_left
  · rw [b1_t (show ¬ (0 ≤ p ∧ p ≤ nI (vNf V) - 1) from n1)]
    refine g_if_eq C 14 (gd DX9_assume_0 3 rfl) (by decide) (fun c5 => ?_) (fun c5 => ?_)
    · exact absurd c5 (by decide)
    · refine g_aload_n C (gd DX9_assume_0 4 rfl) 0 rfl rfl ?_
      refine g_iconst (v := 2) C (gd DX9_assume_0 5 rfl) (by decide) ?_
      refine g_cV1 (ci := 9) C [_] mX9_refuse lm_TestJudge_90 (by exact hx.1) rfl rfl (e_x_refuse hx 2) hfl (by first | decide | omega) (by decide) (by omega) (by omega) rfl rfl (Nat.le_of_ble_eq_true rfl) (gd DX9_assume_0 6 rfl) ?_
      exact g_iret C (by omega) (by omega) ⟨_, V, mSt M 2, rfl, K.st K (qKp.rf x h) hM 2, Or.inl ⟨n1, rfl, rfl, rfl⟩⟩ (gd DX9_assume_0 7 rfl)
  rw [b1_f (show ¬ ¬ (0 ≤ p ∧ p ≤ nI (vNf V) - 1) from fun q => q n1)]
  refine g_if_eq C 14 (gd DX9_assume_0 3 rfl) (by decide) (fun c5 => ?_) (fun c5 => ?_)
  rotate_left
  · exact absurd rfl c5
  obtain ⟨f, hf, rfl⟩ := below_of (by omega) n1
  obtain ⟨x1, x2, x3⟩ := xor_s (vS V) hs4 f (by omega)
  have eb : nI (vS V) >>> (nI f &&& 31) &&& 1 = b1 (nI (vS V) >>> (nI f &&& 31) &&& 1 = 1) := by
    rcases bit01 (nI (vS V)) (k := f) (by omega) with e | e
    · rw [e]; decide
    · rw [e]; decide
  refine g_aload_n C (gd DX9_assume_0 8 rfl) 0 rfl rfl ?_
  refine g_getr (ci := 9) (k := 6) C rfl (by decide) rfl lf_TestJudge_36 hx.1 hx.2.2.2.1.1 (gd DX9_assume_0 9 rfl) ?_
  refine g_geti (ci := 8) (k := 4) C rfl (by decide) rfl lf_TestJudge_144 hx.2.2.2.1.2.1 (gd DX9_assume_0 10 rfl) ?_
  rw [w4]
  refine g_iload_n C (gd DX9_assume_0 11 rfl) 1 rfl rfl ?_
  refine g_ishr C (gd DX9_assume_0 12 rfl) ?_
  refine g_iconst (v := 1) C (gd DX9_assume_0 13 rfl) (by decide) ?_
  refine g_iand C (gd DX9_assume_0 14 rfl) ?_
  refine g_iload_n C (gd DX9_assume_0 15 rfl) 2 rfl rfl ?_
  refine g_cS1 C [_] mX9_bit lm_TestJudge_164 (e_x_bit hy) hfl (by first | decide | omega) (by decide) (by omega) (by omega) rfl rfl (Nat.le_of_ble_eq_true rfl) (gd DX9_assume_0 16 rfl) ?_
  rw [eb]
  refine g_icmp_ne C 38 (gd DX9_assume_0 17 rfl) (by decide) (fun c29 => ?_) (fun c29 => ?_)
  rotate_left
  · have e4 : b1 (nI (vS V) >>> (nI f &&& 31) &&& 1 = 1) = y := by first | exact c29 | exact Decidable.of_not_not c29
    refine g_aload_n C (gd DX9_assume_0 18 rfl) 0 rfl rfl ?_
    refine g_iconst (v := 4) C (gd DX9_assume_0 19 rfl) (by decide) ?_
    refine g_cV1 (ci := 9) C [_] mX9_refuse lm_TestJudge_90 (by exact hx.1) rfl rfl (e_x_refuse hx 4) hfl (by first | decide | omega) (by decide) (by omega) (by omega) rfl rfl (Nat.le_of_ble_eq_true rfl) (gd DX9_assume_0 20 rfl) ?_
    exact g_iret C (by omega) (by omega) ⟨_, V, mSt M 4, rfl, K.st K (qKp.rf x h) hM 4, Or.inr ⟨f, hf, rfl, Or.inl ⟨e4, rfl, rfl, rfl⟩⟩⟩ (gd DX9_assume_0 21 rfl)
  have n4 : ¬ b1 (nI (vS V) >>> (nI f &&& 31) &&& 1 = 1) = y := c29
  have d := K.2.2.2.1
  refine g_aload_n C (gd DX9_assume_0 22 rfl) 0 rfl rfl ?_
  refine g_getr (ci := 9) (k := 6) C rfl (by decide) rfl lf_TestJudge_36 hx.1 hx.2.2.2.1.1 (gd DX9_assume_0 23 rfl) ?_
  refine g_dup C (gd DX9_assume_0 24 rfl) rfl ?_
  refine g_geti (ci := 8) (k := 4) C rfl (by decide) rfl lf_TestJudge_144 hx.2.2.2.1.2.1 (gd DX9_assume_0 25 rfl) ?_
  rw [w4]
  refine g_iconst (v := 1) C (gd DX9_assume_0 26 rfl) (by decide) ?_
  refine g_iload_n C (gd DX9_assume_0 27 rfl) 1 rfl rfl ?_
  refine g_ishl C (gd DX9_assume_0 28 rfl) ?_
  refine g_ixor C (gd DX9_assume_0 29 rfl) ?_
  rw [x1]
  refine g_puti (ci := 8) (k := 4) C rfl (by decide) rfl lf_TestJudge_144 hx.2.2.2.1.2.1 (Or.inl rfl) rfl (gd DX9_assume_0 30 rfl) ?_
  have f1 : aFr x W h (sI h W 4 (nI (vS V ^^^ 2 ^ f))) := aFr_W
  have hx1 := hx.a f1
  have ne1 : ∀ b, b ≠ W → hI (sI h W 4 (nI (vS V ^^^ 2 ^ f))) b = hI h b := fun b hb => hI_sI_ne hb
  have kn : hK (sI h W 4 (nI (vS V ^^^ 2 ^ f))) (x + 49) = 3 := hx1.2.2.2.2.2.2.2.2.1.2.1
  refine g_aload_n C (gd DX9_assume_0 31 rfl) 0 rfl rfl ?_
  refine g_getr (ci := 9) (k := 7) C rfl (by decide) rfl lf_TestJudge_43 hx1.1 hx1.2.2.2.2.1.1 (gd DX9_assume_0 32 rfl) ?_
  refine g_iconst (v := 2) C (gd DX9_assume_0 33 rfl) (by decide) ?_
  refine g_iload_n C (gd DX9_assume_0 34 rfl) 1 rfl rfl ?_
  refine g_aload_n C (gd DX9_assume_0 35 rfl) 0 rfl rfl ?_
  refine g_getr (ci := 9) (k := 11) C rfl (by decide) rfl lf_TestJudge_73 hx1.1 hx1.2.2.2.2.2.2.2.2.1.1 (gd DX9_assume_0 36 rfl) ?_
  refine g_iconst (v := 0) C (gd DX9_assume_0 37 rfl) (by decide) ?_
  refine g_cV0 (v := .null) (ci := 0) C [_, _, _, _] mX0_keep lm_TestJudge_290 (by exact hx1.2.2.2.2.1.2.1) rfl rfl (e_x_keep (h := sI h W 4 (nI (vS V ^^^ 2 ^ f))) hx1.2.2.2.2.1.2 (by rw [ne1 _ (by omega)]; exact d.1) K.2.1.a8 K.d8 kn _ _ _) hfl (by first | decide | omega) (by decide) (by omega) (by omega) rfl rfl (Nat.le_of_ble_eq_true rfl) (gd DX9_assume_0 38 rfl) ?_
  generalize hg : kpD x (sI h W 4 (nI (vS V ^^^ 2 ^ f))) (vA V) 2 (nI f) 0 (x + 49) = g
  have fg : aFr x W h g := f1.tr (by rw [← hg]; exact kpD_fr)
  have gW : ∀ b, ¬ (x + 12 ≤ b ∧ b ≤ x + 16) → hI g b = hI (sI h W 4 (nI (vS V ^^^ 2 ^ f))) b := fun b hb => by rw [← hg]; exact kpD_ne hb
  have gR : ∀ b, b ≠ x + 15 → hR g b = hR h b := fun b hb => by rw [← hg]; exact kpD_neR hb
  have gdk : dkR x (sI h W 4 (nI (vS V ^^^ 2 ^ f))) g (vA V) 2 (nI f) 0 (x + 49) := by rw [← hg]; exact kpD_r
  clear hg
  have hxg := hx.a fg
  refine g_aload_n C (gd DX9_assume_0 39 rfl) 0 rfl rfl ?_
  refine g_cV0 (v := .null) (ci := 9) C [] mX9_endWalk lm_TestJudge_122 (by exact hxg.1) rfl rfl (e_x_endWalk hxg) hfl (by first | decide | omega) (by decide) (by omega) (by omega) rfl rfl (Nat.le_of_ble_eq_true rfl) (gd DX9_assume_0 40 rfl) ?_
  have f3 := fg.tr (aFr_x (x := x) (W := W) (k := 12) (v := -1))
  have hx3 := hx.a f3
  have e3 : hI (sI g x 12 (-1)) W 4 = nI (vS V ^^^ 2 ^ f) := by rw [hI_sI_ne (show W ≠ x by omega), gW W (by omega), hI_sI, if_pos ⟨rfl, rfl⟩]
  refine g_aload_n C (gd DX9_assume_0 41 rfl) 0 rfl rfl ?_
  refine g_aload_n C (gd DX9_assume_0 42 rfl) 0 rfl rfl ?_
  refine g_getr (ci := 9) (k := 6) C rfl (by decide) rfl lf_TestJudge_36 hx3.1 hx3.2.2.2.1.1 (gd DX9_assume_0 43 rfl) ?_
  refine g_geti (ci := 8) (k := 4) C rfl (by decide) rfl lf_TestJudge_144 hx3.2.2.2.1.2.1 (gd DX9_assume_0 44 rfl) ?_
  rw [e3]
  refine g_cS1 C [_] mJ6_bitCount_0f7a4 lm_TestJudge_269 (e_bitCount _) hfl (by first | decide | omega) (by decide) (by omega) (by omega) rfl rfl (Nat.le_of_ble_eq_true rfl) (gd DX9_assume_0 45 rfl) ?_
  refine g_cV1 (ci := 9) C [_] mX9_allow lm_TestJudge_128 (by exact hx3.1) rfl rfl (e_x_allow hx3 _) hfl (by first | decide | omega) (by decide) (by omega) (by omega) rfl rfl (Nat.le_of_ble_eq_true rfl) (gd DX9_assume_0 46 rfl) ?_
  have f4 := f3.tr (aFr_x (x := x) (W := W) (k := 3) (v := 0))
  generalize hS : ((vNp V, vS V ^^^ 2 ^ f, vPR V) : aH) = S
  generalize hh : sI (sI g x 12 (-1)) x 3 0 = h4 at f4 ⊢
  have ne4 : ∀ b, b ≠ x → hI h4 b = hI g b := fun b hb => by rw [← hh]; exact (hI_sI_ne hb).trans (hI_sI_ne hb)
  have eW : ∀ k, k ≠ 4 → hI h4 W k = hI h W k := fun k hk => by rw [ne4 W (by omega), gW W (by omega), hI_sI, if_neg (fun q => hk q.2)]
  have eW4 : hI h4 W 4 = nI (vS V ^^^ 2 ^ f) := by rw [ne4 W (by omega), gW W (by omega), hI_sI, if_pos ⟨rfl, rfl⟩]
  have eL : hI h4 (W + 2) = hI h (W + 2) := by rw [ne4 _ (by omega), gW _ (by omega), ne1 _ (by omega)]
  have eP : hR h4 (W + 1) = hR h (W + 1) := by rw [← hh]; exact gR _ (by omega)
  have ok : vOK (vAct V S) := by
    have v5 := (K.2.1.2.1 (vA V) (Nat.le_refl _))
    rw [← hS]
    exact vAct_ok K.2.1 v5.1 x2 v5.2.2
  have wp : kvP x W h4 (vHi (vAct V S) (vA (vAct V S))) RC := by
    rw [vAct_S, ← hS]
    refine ⟨by rw [eW 2 (by omega)]; exact w2, eW4, fun k hk => ?_⟩
    obtain ⟨b, b1, b2, b3, b4⟩ := K.2.2.1.2.1 k hk
    exact ⟨b, by rw [eP]; exact b1, b2, b3.af f4, by rw [eL]; exact b4⟩
  have d4 : kvD x W h4 (vAct V S) RC := by
    refine d.kp K.2.1 f4 (fun _ _ => rfl) ((gdk.o (fun b b1 b2 => (ne1 b (by omega)).symm) rfl).e (fun b b1 b2 => ne4 b (by omega)) (by rw [← hh]; rfl)) ⟨(f4.2 _ xa).1.1.trans hx.2.2.2.2.2.2.2.2.1.2.1, by omega, Nat.lt_of_lt_of_le xa f4.1⟩ ?_
    rw [← hS]
    exact Or.inr (Or.inr ⟨rfl, f, hf, rfl, rfl, fun _ _ => rfl, x3⟩)
  have K4 : K0 x W h4 (vAct V S) RC := K.ac f4 (fun _ _ => rfl) rfl rfl ok ⟨eW 0 (by omega), eW 1 (by omega), eW 3 (by omega)⟩ wp d4
  have m4 : kvM x h4 (mAct M) := by
    rw [← hh]
    refine hM.ac (fun b hb => ?_)
    rw [gW b (by omega), ne1 b (by omega)]
  exact g_iret C (by omega) (by omega) ⟨_, _, _, rfl, ⟨W, RC, K4, m4⟩, Or.inr ⟨f, hf, rfl, Or.inr ⟨n4, rfl, by rw [hS], rfl⟩⟩⟩ (gd DX9_assume_0 47 rfl)
/-- behind an action that goes back -/
theorem K0.un (K : K0 x W h V RC) (hM : kvM x h M) {b : Nat} (hb : vA V = b + 1) {g : HS} (f : aFr x W h g) (e0 : hI g (x + 12) 0 = nI b) (er : ∀ i, x + 13 ≤ i → i ≤ x + 16 → hI g i = hI h i) (eR : hR g (x + 15) = hR h (x + 15)) (eW : hI g W 0 = hI h W 0 ∧ hI g W 1 = hI h W 1 ∧ hI g W 3 = hI h W 3) (em : ∀ i, i = x ∨ i = x + 1 ∨ i = x + 47 ∨ i = x + 48 → hI g i = hI h i) (wp : kvP x W g (vHi V b) RC) : KV x (sI (sI g x 12 (-1)) x 3 0) (V.1, V.2.1, b, vHi V) (mAct M) := by
  have xW := K.1.2.2.2.2.2.2.2.2.2.1
  obtain ⟨d1, d2⟩ := K.2.2.2.1
  obtain ⟨⟨v1, v2, v3, v4⟩, v5, v6, v7⟩ := K.2.1
  have f4 : aFr x W h (sI (sI g x 12 (-1)) x 3 0) := (f.tr aFr_x).tr aFr_x
  have ne : ∀ i, i ≠ x → hI (sI (sI g x 12 (-1)) x 3 0) i = hI g i := fun i hi => (hI_sI_ne hi).trans (hI_sI_ne hi)
  have fz : aFr x W g (sI (sI g x 12 (-1)) x 3 0) := aFr_x.tr aFr_x
  refine ⟨W, RC, K.ac f4 (fun _ _ => rfl) (V' := (V.1, V.2.1, b, vHi V)) rfl rfl ⟨⟨v1, v2, v3, by show b ≤ 8; omega⟩, fun i hi => v5 i (by have : i ≤ b := hi; omega), v6, v7⟩ (by rw [ne W (by omega)]; exact eW) ?_ ?_, hM.ac em⟩
  · obtain ⟨p1, p2, p3⟩ := wp
    refine ⟨by rw [ne W (by omega)]; exact p1, by rw [ne W (by omega)]; exact p2, fun k hk => ?_⟩
    obtain ⟨a, a1, a2, a3, a4⟩ := p3 k hk
    exact ⟨a, a1, a2, a3.af fz, by rw [ne (W + 2) (by omega)]; exact a4⟩
  · refine ⟨by rw [ne _ (by omega)]; exact e0, fun i hi => ?_⟩
    have hi' : i < b := hi
    obtain ⟨⟨c, c1, c2, c3, c4⟩, dl⟩ := d2 i (by omega)
    rw [ne _ (by omega), ne _ (by omega), ne _ (by omega), er _ (by omega) (by omega), er _ (by omega) (by omega), er _ (by omega) (by omega)]
    have eR4 : hR (sI (sI g x 12 (-1)) x 3 0) (x + 15) = hR h (x + 15) := eR
    rw [eR4]
    exact ⟨⟨c, c1, (f4.2 c c4).1.1.trans c2, c3, Nat.lt_of_lt_of_le c4 f4.1⟩, dl.af f4 (fun _ _ => rfl)⟩
theorem e_x_undo (K : K0 x W h V RC) (hM : kvM x h M) : Ev w 3 0 0 yX9_undo cX9_undo 1 (some .int) [.ref x] h (aQ x (qUnd V M)) := by
  refine g_start (by decide) (Nat.le_of_ble_eq_true rfl) [(0, _)] rfl (fun z hfl C => ?_)
  have hx := K.1
  obtain ⟨w0, w1, w2, w3, w4⟩ := K.2.2.1.1
  have hnp := K.2.1.np
  have a8 := K.2.1.a8
  have xW := hx.2.2.2.2.2.2.2.2.2.1
  obtain ⟨xa, xb⟩ := hx.2.2.2.2.2.2.2.2.2.2.1
  obtain ⟨d1, d2⟩ := K.2.2.2.1
  refine g_aload_n C (gd DX9_undo_0 0 rfl) 0 rfl rfl ?_
  refine g_getr (ci := 9) (k := 7) C rfl (by decide) rfl lf_TestJudge_43 hx.1 hx.2.2.2.2.1.1 (gd DX9_undo_0 1 rfl) ?_
  refine g_geti (ci := 0) (k := 0) C rfl (by decide) rfl lf_TestJudge_119 hx.2.2.2.2.1.2.1 (gd DX9_undo_0 2 rfl) ?_
  rw [d1]
  refine g_if_ne C 16 (gd DX9_undo_0 3 rfl) (by decide) (fun c7 => ?_) (fun c7 => ?_)
  rotate_left
  · have e0 : vA V = 0 := (nI_eq (b := 0) (by omega) (by omega)).mp (by first | exact c7 | exact Decidable.of_not_not c7)
    refine g_aload_n C (gd DX9_undo_0 4 rfl) 0 rfl rfl ?_
    refine g_iconst (v := 5) C (gd DX9_undo_0 5 rfl) (by decide) ?_
    refine g_cV1 (ci := 9) C [_] mX9_refuse lm_TestJudge_90 (by exact hx.1) rfl rfl (e_x_refuse hx 5) hfl (by first | decide | omega) (by decide) (by omega) (by omega) rfl rfl (Nat.le_of_ble_eq_true rfl) (gd DX9_undo_0 6 rfl) ?_
    exact g_iret C (by omega) (by omega) ⟨_, V, mSt M 5, rfl, K.st K (qKp.rf x h) hM 5, Or.inl ⟨e0, rfl, rfl, rfl⟩⟩ (gd DX9_undo_0 7 rfl)
  obtain ⟨b, hb⟩ : ∃ b, vA V = b + 1 := ⟨vA V - 1, by
    have : vA V ≠ 0 := fun q => c7 (by rw [q]; rfl)
    omega⟩
  have hd : dSh (x + 12) h := hx.2.2.2.2.1.2
  have hPp : ∀ j, j < vNp V → ∃ c, hR h (W + 1) j = some c ∧ hK h c = 3 := fun j hj => by
    obtain ⟨c, c1, c2, c3, -⟩ := K.2.2.1.2.1 j hj
    exact ⟨c, c1, c3.2.2.1⟩
  have fin : ∀ g, aFr x W h g → hI g (x + 12) 0 = nI b → KV x (sI (sI g x 12 (-1)) x 3 0) (V.1, V.2.1, b, vHi V) (mAct M) → GW z w 1 (gQ z w 0 0 (fun r' h'' => aQ x (qUnd V M) r' h'')) 0 0 27 [(0, .ref x)] [] g := by
    intro g f e0 kv
    have hxg := hx.a f
    refine g_aload_n C (gd DX9_undo_0 13 rfl) 0 rfl rfl ?_
    refine g_cV0 (v := .null) (ci := 9) C [] mX9_endWalk lm_TestJudge_122 (by exact hxg.1) rfl rfl (e_x_endWalk hxg) hfl (by first | decide | omega) (by decide) (by omega) (by omega) rfl rfl (Nat.le_of_ble_eq_true rfl) (gd DX9_undo_0 14 rfl) ?_
    have hx3 := hx.a (f.tr (aFr_x (x := x) (W := W) (k := 12) (v := -1)))
    refine g_aload_n C (gd DX9_undo_0 15 rfl) 0 rfl rfl ?_
    refine g_aload_n C (gd DX9_undo_0 16 rfl) 0 rfl rfl ?_
    refine g_getr (ci := 9) (k := 7) C rfl (by decide) rfl lf_TestJudge_43 hx3.1 hx3.2.2.2.2.1.1 (gd DX9_undo_0 17 rfl) ?_
    refine g_geti (ci := 0) (k := 0) C rfl (by decide) rfl lf_TestJudge_119 hx3.2.2.2.2.1.2.1 (gd DX9_undo_0 18 rfl) ?_
    rw [hI_sI_ne (show x + 12 ≠ x by omega), e0]
    refine g_cV1 (ci := 9) C [_] mX9_allow lm_TestJudge_128 (by exact hx3.1) rfl rfl (e_x_allow hx3 _) hfl (by first | decide | omega) (by decide) (by omega) (by omega) rfl rfl (Nat.le_of_ble_eq_true rfl) (gd DX9_undo_0 19 rfl) ?_
    exact g_iret C (by omega) (by omega) ⟨_, _, _, rfl, kv, Or.inr ⟨b, hb, rfl, rfl, rfl⟩⟩ (gd DX9_undo_0 20 rfl)
  obtain ⟨-, dl⟩ := d2 b (by omega)
  have eH : vHi V (b + 1) = (vNp V, vS V, vPR V) := by rw [← hb]
  rw [eH] at dl
  refine g_aload_n C (gd DX9_undo_0 8 rfl) 0 rfl rfl ?_
  refine g_getr (ci := 9) (k := 7) C rfl (by decide) rfl lf_TestJudge_43 hx.1 hx.2.2.2.2.1.1 (gd DX9_undo_0 9 rfl) ?_
  refine g_aload_n C (gd DX9_undo_0 10 rfl) 0 rfl rfl ?_
  refine g_getr (ci := 9) (k := 6) C rfl (by decide) rfl lf_TestJudge_36 hx.1 hx.2.2.2.1.1 (gd DX9_undo_0 11 rfl) ?_
  rcases dl with ⟨dA, dB, s1, s2, s3⟩ | ⟨dA, q, a, dB, hq, s1, s2, s3, s4, s5, dp, s6, s7⟩ | ⟨dA, f, hf, dB, s1, s2, s3⟩
  · skip
    dsimp only at s1 s2 s3
    refine g_cV0 (v := .null) (ci := 0) C [_] mX0_takeBack lm_TestJudge_307 (by exact hx.2.2.2.2.1.2.1) rfl rfl (e_d_tbMade (D := x + 12) hd hx.2.2.2.1.2 (by omega) (k := b) (by omega) (by rw [← hb]; exact d1) dA dB w2 hnp (by omega) hPp) hfl (by first | decide | omega) (by decide) (by omega) (by omega) rfl rfl (Nat.le_of_ble_eq_true rfl) (gd DX9_undo_0 12 rfl) ?_
    have ef : ∀ f : Nat → Int32, mvD f (vHi V b).1 (vNp V - 1) = f := fun f => by rw [show vNp V - 1 = (vHi V b).1 by omega]; exact mvD_0 f _
    have efO : mvD (hR h (W + 1)) (vHi V b).1 (vNp V - 1) = hR h (W + 1) := by rw [show vNp V - 1 = (vHi V b).1 by omega]; exact mvD_0 _ _
    rw [ef, efO]
    have fr : aFr x W h (hV W (sI h (x + 12) 0 (nI b)) (upd (hI h W) 2 (nI (vNp V - 1))) (hI h (W + 2)) (updO (hR h (W + 1)) (vNp V - 1) none)) := aFr.tr (h1 := sI h (x + 12) 0 (nI b)) ⟨Nat.le_refl _, fun c _ => ⟨⟨rfl, rfl, rfl⟩, fun _ _ => rfl, fun _ p _ _ => hI_sI_ne (by omega)⟩⟩ aFr_V
    have e12 : hI (hV W (sI h (x + 12) 0 (nI b)) (upd (hI h W) 2 (nI (vNp V - 1))) (hI h (W + 2)) (updO (hR h (W + 1)) (vNp V - 1) none)) (x + 12) 0 = nI b := by rw [hV_ne (by omega) (by omega), hI_sI, if_pos ⟨rfl, rfl⟩]
    have ot : ∀ i, i ≠ x + 12 → i ≠ W → i ≠ W + 2 → hI (hV W (sI h (x + 12) 0 (nI b)) (upd (hI h W) 2 (nI (vNp V - 1))) (hI h (W + 2)) (updO (hR h (W + 1)) (vNp V - 1) none)) i = hI h i := fun i i1 i2 i3 => by rw [hV_ne i2 i3, hI_sI_ne i1]
    refine fin _ fr e12 (K.un hM hb fr e12 (fun i i1 i2 => ot i (by omega) (by omega) (by omega)) (by rw [hV_neR (by omega)]; rfl) (by rw [hV_0]; exact ⟨rfl, rfl, rfl⟩) (fun i hi => ot i (by omega) (by omega) (by omega)) ⟨?_, ?_, fun k hk => ?_⟩)
    · rw [hV_0, show (vHi V b).1 = vNp V - 1 by omega]; rfl
    · rw [hV_0, ← s2]; exact w4
    · obtain ⟨c, c1, c2, c3, c4⟩ := K.2.2.1.2.1 k (by omega)
      have es := s3 k hk
      rw [hV_1, hV_2, ← es]
      exact ⟨c, (if_neg (by omega)).trans c1, c2, c3.af fr, c4⟩
  · skip
    dsimp only at s1 s2 s3 s4
    have hS8 := (K.2.1.2.1 b (by omega)).1
    refine g_cV0 (v := .null) (ci := 0) C [_] mX0_takeBack lm_TestJudge_307 (by exact hx.2.2.2.2.1.2.1) rfl rfl (e_d_tbDropped (D := x + 12) hd hx.2.2.2.1.2 (by omega) (k := b) (by omega) (by rw [← hb]; exact d1) dA dB dp s7.2.2.1 w2 (by omega) (show q ≤ vNp V by omega) hPp) hfl (by first | decide | omega) (by decide) (by omega) (by omega) rfl rfl (Nat.le_of_ble_eq_true rfl) (gd DX9_undo_0 12 rfl) ?_
    rw [s5]
    have fr : aFr x W h (hV W (sI h (x + 12) 0 (nI b)) (upd (hI h W) 2 (nI (vNp V + 1))) (upd (mvU (hI h (W + 2)) q (vNp V)) q ((vHi V b).2.2 q 306)) (updO (mvU (hR h (W + 1)) q (vNp V)) q (some a))) := aFr.tr (h1 := sI h (x + 12) 0 (nI b)) ⟨Nat.le_refl _, fun c _ => ⟨⟨rfl, rfl, rfl⟩, fun _ _ => rfl, fun _ p _ _ => hI_sI_ne (by omega)⟩⟩ aFr_V
    have e12 : hI (hV W (sI h (x + 12) 0 (nI b)) (upd (hI h W) 2 (nI (vNp V + 1))) (upd (mvU (hI h (W + 2)) q (vNp V)) q ((vHi V b).2.2 q 306)) (updO (mvU (hR h (W + 1)) q (vNp V)) q (some a))) (x + 12) 0 = nI b := by rw [hV_ne (by omega) (by omega), hI_sI, if_pos ⟨rfl, rfl⟩]
    have ot : ∀ i, i ≠ x + 12 → i ≠ W → i ≠ W + 2 → hI (hV W (sI h (x + 12) 0 (nI b)) (upd (hI h W) 2 (nI (vNp V + 1))) (upd (mvU (hI h (W + 2)) q (vNp V)) q ((vHi V b).2.2 q 306)) (updO (mvU (hR h (W + 1)) q (vNp V)) q (some a))) i = hI h i := fun i i1 i2 i3 => by rw [hV_ne i2 i3, hI_sI_ne i1]
    refine fin _ fr e12 (K.un hM hb fr e12 (fun i i1 i2 => ot i (by omega) (by omega) (by omega)) (by rw [hV_neR (by omega)]; rfl) (by rw [hV_0]; exact ⟨rfl, rfl, rfl⟩) (fun i hi => ot i (by omega) (by omega) (by omega)) ⟨?_, ?_, fun k hk => ?_⟩)
    · rw [hV_0, show (vHi V b).1 = vNp V + 1 by omega]; rfl
    · rw [hV_0, ← s2]; exact w4
    · rw [hV_1, hV_2]
      unfold upd updO mvU
      by_cases e : k = q
      · rw [if_pos e, if_pos e, e]
        exact ⟨a, rfl, s6, s7.af fr, rfl⟩
      · rw [if_neg e, if_neg e]
        by_cases e2 : k < q
        · rw [if_neg (by omega), if_neg (by omega)]
          obtain ⟨c, c1, c2, c3, c4⟩ := K.2.2.1.2.1 k (by omega)
          have es := s3 k e2
          rw [← es]
          exact ⟨c, c1, c2, c3.af fr, c4⟩
        · rw [if_pos (by omega), if_pos (by omega)]
          obtain ⟨c, c1, c2, c3, c4⟩ := K.2.2.1.2.1 (k - 1) (by omega)
          have es := s4 (k - 1) (by omega) (by omega)
          rw [show k - 1 + 1 = k by omega] at es
          rw [← es]
          exact ⟨c, c1, c2, c3.af fr, c4⟩
  · skip
    dsimp only at s1 s2 s3
    have e31 : nI f &&& 31 = nI f &&& 31 := rfl
    refine g_cV0 (v := .null) (ci := 0) C [_] mX0_takeBack lm_TestJudge_307 (by exact hx.2.2.2.2.1.2.1) rfl rfl (e_d_tbAssumed (D := x + 12) hd hx.2.2.2.1.2 (by omega) (k := b) (by omega) (by rw [← hb]; exact d1) dA dB) hfl (by first | decide | omega) (by decide) (by omega) (by omega) rfl rfl (Nat.le_of_ble_eq_true rfl) (gd DX9_undo_0 12 rfl) ?_
    rw [w4, ← s3]
    have fr : aFr x W h (sI (sI h (x + 12) 0 (nI b)) W 4 (nI (vHi V b).2.1)) := aFr.tr (h1 := sI h (x + 12) 0 (nI b)) ⟨Nat.le_refl _, fun c _ => ⟨⟨rfl, rfl, rfl⟩, fun _ _ => rfl, fun _ p _ _ => hI_sI_ne (by omega)⟩⟩ aFr_W
    have e12 : hI (sI (sI h (x + 12) 0 (nI b)) W 4 (nI (vHi V b).2.1)) (x + 12) 0 = nI b := by rw [hI_sI_ne (by omega), hI_sI, if_pos ⟨rfl, rfl⟩]
    have ot : ∀ i, i ≠ x + 12 → i ≠ W → hI (sI (sI h (x + 12) 0 (nI b)) W 4 (nI (vHi V b).2.1)) i = hI h i := fun i i1 i2 => by rw [hI_sI_ne i2, hI_sI_ne i1]
    have oW : ∀ k, k ≠ 4 → hI (sI (sI h (x + 12) 0 (nI b)) W 4 (nI (vHi V b).2.1)) W k = hI h W k := fun k hk => by rw [hI_sI, if_neg (fun q => hk q.2), hI_sI_ne (by omega)]
    refine fin _ fr e12 (K.un hM hb fr e12 (fun i i1 i2 => ot i (by omega) (by omega)) rfl ⟨oW 0 (by omega), oW 1 (by omega), oW 3 (by omega)⟩ (fun i hi => ot i (by omega) (by omega)) ⟨?_, ?_, fun k hk => ?_⟩)
    · rw [oW 2 (by omega), ← s1]; exact w2
    · rw [hI_sI, if_pos ⟨rfl, rfl⟩]
    · obtain ⟨c, c1, c2, c3, c4⟩ := K.2.2.1.2.1 k (by omega)
      have es := s2 k hk
      rw [ot (W + 2) (by omega) (by omega), ← es]
      exact ⟨c, c1, c2, c3.af fr, c4⟩
end AE
