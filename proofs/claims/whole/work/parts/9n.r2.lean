/-! the class's Reader: fail, expect, needPlain, opposite, skipStars -/
theorem pcF_mk {np : Nat} {h : HS} (e : Int32) : mkP h 0 (rPlain e) (some (.ref (hT h))) (pcF np h 0 e) := ⟨hT h, rfl, Nat.le_refl _, hExt_pcF, pcF_T.2, ⟨pcF_0.1, fun _ => pcF_0.2⟩, pcF_T.1, pcF_t, fun p hp => absurd (show p < 0 from hp) (Nat.not_lt_zero _)⟩
section R2
variable {w : gD} {U W T N : Nat} {h : HS} {tx : Nat → Nat} {n c j : Nat}
theorem e_r_fail (hq : cQ U W T N h) (ct : cT T h tx n c j) (h0 : hI h U 1 = 0) {k : Nat} (hk : k < 10) : EvF w 0 0 0 yX3_fail cX3_fail 2 none [.ref U, .int (nI k)] h none (sI (sI h U 1 (nI (if cdT tx n j = 1 ∧ k ≠ 5 then 1 else k))) U 2 (nI (plT tx n j))) := by
  generalize hv0 : (if cdT tx n j = 1 ∧ k ≠ 5 then 1 else k) = v0
  refine g_start (by decide) (Nat.le_of_ble_eq_true rfl) [(0, _), (1, _)] rfl (fun z hfl C => ?_)
  have hU : U ≠ T := fun x => by have := hq.1.1; rw [x, hq.2.2.1.1] at this; exact absurd this (by decide)
  have lt := cd_lt (tx := tx) (n := n) j
  have k29 : ∀ v, v = v0 → GW z w 2 (gQ z w 0 0 (fun r' h'' => r' = none ∧ h'' = sI (sI h U 1 (nI v0)) U 2 (nI (plT tx n j)))) 0 0 29 [(0, .ref U), (1, .int (nI k))] [.int (nI v), .ref U] h := by
    intro v hv
    refine g_puti (ci := 3) (k := 1) C rfl (by decide) rfl lf_TestJudge_Reader_18 hq.1.1 (Or.inl rfl) rfl (gd DX3_fail_0 15 rfl) ?_
    refine g_aload_n C (gd DX3_fail_0 16 rfl) 0 rfl rfl ?_
    refine g_aload_n C (gd DX3_fail_0 17 rfl) 0 rfl rfl ?_
    refine g_getr (ci := 3) (k := 3) C rfl (by decide) rfl lf_TestJudge_Reader_33 hq.1.1 hq.1.2.2.1 (gd DX3_fail_0 18 rfl) ?_
    refine g_geti (ci := 7) (k := 3) C rfl (by decide) rfl lf_TestJudge_Reader_59 hq.2.2.1.1 (gd DX3_fail_0 19 rfl) ?_
    rw [hI_sI, if_neg (fun x => hU x.1.symm), ct.2.2.2.1, hv]
    refine g_puti (ci := 3) (k := 2) C rfl (by decide) rfl lf_TestJudge_Reader_22 hq.1.1 (Or.inl rfl) rfl (gd DX3_fail_0 20 rfl) ?_
    exact g_vret C (by omega) (by omega) ⟨rfl, rfl⟩ (gd DX3_fail_0 21 rfl)
  refine g_aload_n C (gd DX3_fail_0 0 rfl) 0 rfl rfl ?_
  refine g_geti (ci := 3) (k := 1) C rfl (by decide) rfl lf_TestJudge_Reader_18 hq.1.1 (gd DX3_fail_0 1 rfl) ?_
  rw [h0]
  refine g_if_ne C 43 (gd DX3_fail_0 2 rfl) (by decide) (fun c4 => ?_) (fun c4 => ?_)
  · exact absurd rfl c4
  refine g_aload_n C (gd DX3_fail_0 3 rfl) 0 rfl rfl ?_
  refine g_aload_n C (gd DX3_fail_0 4 rfl) 0 rfl rfl ?_
  refine g_getr (ci := 3) (k := 3) C rfl (by decide) rfl lf_TestJudge_Reader_33 hq.1.1 hq.1.2.2.1 (gd DX3_fail_0 5 rfl) ?_
  refine g_geti (ci := 7) (k := 1) C rfl (by decide) rfl lf_TestJudge_Reader_42 hq.2.2.1.1 (gd DX3_fail_0 6 rfl) ?_
  rw [ct.2.2.1]
  refine g_iconst (v := 1) C (gd DX3_fail_0 7 rfl) (by decide) ?_
  refine g_icmp_ne C 28 (gd DX3_fail_0 8 rfl) (by decide) (fun c16 => ?_) (fun c16 => ?_)
  · have e : ¬ cdT tx n j = 1 := fun q => c16 (by rw [q]; rfl)
    refine g_iload_n C (gd DX3_fail_0 14 rfl) 1 rfl rfl ?_
    exact k29 k ((if_neg (fun q => e q.1)).symm.trans hv0)
  · have e : cdT tx n j = 1 := (nI_eq (b := 1) (by omega) (by omega)).mp (by first | exact c16 | exact Decidable.of_not_not c16)
    refine g_iload_n C (gd DX3_fail_0 9 rfl) 1 rfl rfl ?_
    refine g_iconst (v := 5) C (gd DX3_fail_0 10 rfl) (by decide) ?_
    refine g_icmp_eq C 28 (gd DX3_fail_0 11 rfl) (by decide) (fun c21 => ?_) (fun c21 => ?_)
    · have e5 : k = 5 := (nI_eq (b := 5) (by omega) (by omega)).mp (by first | exact c21 | exact Decidable.of_not_not c21)
      refine g_iload_n C (gd DX3_fail_0 14 rfl) 1 rfl rfl ?_
      exact k29 k ((if_neg (fun q => q.2 e5)).symm.trans hv0)
    · have e5 : ¬ k = 5 := fun q => c21 (by rw [q]; rfl)
      refine g_iconst (v := 1) C (gd DX3_fail_0 12 rfl) (by decide) ?_
      refine g_goto (tgt := 29) C (gd DX3_fail_0 13 rfl) (by decide) ?_
      exact k29 1 ((if_pos ⟨e, e5⟩).symm.trans hv0)
theorem e_r_fail1 (hq : cQ U W T N h) (h0 : hI h U 1 ≠ 0) (k : Int32) : EvF w 0 0 0 yX3_fail cX3_fail 2 none [.ref U, .int k] h none h := by
  refine g_start (by decide) (Nat.le_of_ble_eq_true rfl) [(0, _), (1, _)] rfl (fun z hfl C => ?_)
  refine g_aload_n C (gd DX3_fail_0 0 rfl) 0 rfl rfl ?_
  refine g_geti (ci := 3) (k := 1) C rfl (by decide) rfl lf_TestJudge_Reader_18 hq.1.1 (gd DX3_fail_0 1 rfl) ?_
  refine g_if_ne C 43 (gd DX3_fail_0 2 rfl) (by decide) (fun c4 => ?_) (fun c4 => ?_)
  · exact g_vret C (by omega) (by omega) ⟨rfl, rfl⟩ (gd DX3_fail_0 21 rfl)
  · exact absurd (by first | exact c4 | exact Decidable.of_not_not c4) h0
theorem e_r_expect (hq : cQ U W T N h) (ct : cT T h tx n c j) (h0 : hI h U 1 = 0) (hc : cdT tx n j ≠ 0 → j + 1 < c) {k : Nat} (hk : k < 2 ^ 30) (hk0 : k ≠ 0) : Ev w 1 0 0 yX3_expect cX3_expect 2 none [.ref U, .int (nI k)] h (fun r' h' => r' = none ∧ ((cdT tx n j = k ∧ tF T h h' ∧ cT T h' tx n c (j + 1)) ∨ (cdT tx n j ≠ k ∧ h' = sI (sI h U 1 (nI (if cdT tx n j = 1 then 1 else 2))) U 2 (nI (plT tx n j))))) := by
  have v1 : nI (if cdT tx n j = 1 then 1 else 2) ≠ 0 := by
    by_cases q : cdT tx n j = 1
    · rw [if_pos q]; decide
    · rw [if_neg q]; decide
  have e2 : (if cdT tx n j = 1 ∧ 2 ≠ 5 then 1 else 2) = (if cdT tx n j = 1 then 1 else 2) := by
    by_cases q : cdT tx n j = 1
    · rw [if_pos ⟨q, by omega⟩, if_pos q]
    · rw [if_neg (fun x => q x.1), if_neg q]
  have ef := e_r_fail (w := w) hq ct h0 (k := 2) (by omega)
  rw [e2] at ef
  clear e2
  generalize (if cdT tx n j = 1 then 1 else 2) = v0 at v1 ef ⊢
  refine g_start (by decide) (Nat.le_of_ble_eq_true rfl) [(0, _), (1, _)] rfl (fun z hfl C => ?_)
  have lt := cd_lt (tx := tx) (n := n) j
  refine g_aload_n C (gd DX3_expect_0 0 rfl) 0 rfl rfl ?_
  refine g_getr (ci := 3) (k := 3) C rfl (by decide) rfl lf_TestJudge_Reader_33 hq.1.1 hq.1.2.2.1 (gd DX3_expect_0 1 rfl) ?_
  refine g_geti (ci := 7) (k := 1) C rfl (by decide) rfl lf_TestJudge_Reader_42 hq.2.2.1.1 (gd DX3_expect_0 2 rfl) ?_
  rw [ct.2.2.1]
  refine g_iload_n C (gd DX3_expect_0 3 rfl) 1 rfl rfl ?_
  refine g_icmp_eq C 16 (gd DX3_expect_0 4 rfl) (by decide) (fun c8 => ?_) (fun c8 => ?_)
  · have e : cdT tx n j = k := (nI_eq (by omega) (by omega)).mp (by first | exact c8 | exact Decidable.of_not_not c8)
    refine g_aload_n C (gd DX3_expect_0 8 rfl) 0 rfl rfl ?_
    refine g_geti (ci := 3) (k := 1) C rfl (by decide) rfl lf_TestJudge_Reader_18 hq.1.1 (gd DX3_expect_0 9 rfl) ?_
    rw [h0]
    refine g_if_ne C 30 (gd DX3_expect_0 10 rfl) (by decide) (fun c20 => ?_) (fun c20 => ?_)
    · exact absurd rfl c20
    · refine g_aload_n C (gd DX3_expect_0 11 rfl) 0 rfl rfl ?_
      refine g_getr (ci := 3) (k := 3) C rfl (by decide) rfl lf_TestJudge_Reader_33 hq.1.1 hq.1.2.2.1 (gd DX3_expect_0 12 rfl) ?_
      refine g_callV (ci := 7) C [] mX7_advance lm_TestJudge_Reader_60 (by exact hq.2.2.1.1) rfl rfl (e_k_adv hq.2.2.1 ct (hc (by omega))) hfl (by first | decide | omega) (by decide) (by omega) (by omega) rfl rfl (Nat.le_of_ble_eq_true rfl) (gd DX3_expect_0 13 rfl) (fun r h2 hp => ?_)
      obtain ⟨rfl, a1, a2⟩ := hp
      exact g_vret C (by omega) (by omega) ⟨rfl, Or.inl ⟨e, a1, a2⟩⟩ (gd DX3_expect_0 14 rfl)
  · have e : ¬ cdT tx n j = k := fun q => c8 (by rw [q])
    refine g_aload_n C (gd DX3_expect_0 5 rfl) 0 rfl rfl ?_
    refine g_iconst (v := 2) C (gd DX3_expect_0 6 rfl) (by decide) ?_
    refine g_cV0 (v := .null) (ci := 3) C [_] mX3_fail lm_TestJudge_Reader_55 (by exact hq.1.1) rfl rfl ef hfl (by first | decide | omega) (by decide) (by omega) (by omega) rfl rfl (Nat.le_of_ble_eq_true rfl) (gd DX3_expect_0 7 rfl) ?_
    refine g_aload_n C (gd DX3_expect_0 8 rfl) 0 rfl rfl ?_
    refine g_geti (ci := 3) (k := 1) C rfl (by decide) rfl lf_TestJudge_Reader_18 hq.1.1 (gd DX3_expect_0 9 rfl) ?_
    rw [hI_sI, if_neg (by omega), hI_sI, if_pos ⟨rfl, rfl⟩]
    refine g_if_ne C 30 (gd DX3_expect_0 10 rfl) (by decide) (fun c20 => ?_) (fun c20 => ?_)
    · exact g_vret C (by omega) (by omega) ⟨rfl, Or.inr ⟨e, rfl⟩⟩ (gd DX3_expect_0 14 rfl)
    · exact absurd (by first | exact c20 | exact Decidable.of_not_not c20) v1
theorem e_r_expect1 (hq : cQ U W T N h) (h0 : hI h U 1 ≠ 0) (k : Int32) : EvF w 1 0 0 yX3_expect cX3_expect 2 none [.ref U, .int k] h none h := by
  refine g_start (by decide) (Nat.le_of_ble_eq_true rfl) [(0, _), (1, _)] rfl (fun z hfl C => ?_)
  have k16 : GW z w 2 (gQ z w 0 0 (fun r' h'' => r' = none ∧ h'' = h)) 0 0 16 [(0, .ref U), (1, .int k)] [] h := by
    refine g_aload_n C (gd DX3_expect_0 8 rfl) 0 rfl rfl ?_
    refine g_geti (ci := 3) (k := 1) C rfl (by decide) rfl lf_TestJudge_Reader_18 hq.1.1 (gd DX3_expect_0 9 rfl) ?_
    refine g_if_ne C 30 (gd DX3_expect_0 10 rfl) (by decide) (fun c20 => ?_) (fun c20 => ?_)
    · exact g_vret C (by omega) (by omega) ⟨rfl, rfl⟩ (gd DX3_expect_0 14 rfl)
    · exact absurd (by first | exact c20 | exact Decidable.of_not_not c20) h0
  refine g_aload_n C (gd DX3_expect_0 0 rfl) 0 rfl rfl ?_
  refine g_getr (ci := 3) (k := 3) C rfl (by decide) rfl lf_TestJudge_Reader_33 hq.1.1 hq.1.2.2.1 (gd DX3_expect_0 1 rfl) ?_
  refine g_geti (ci := 7) (k := 1) C rfl (by decide) rfl lf_TestJudge_Reader_42 hq.2.2.1.1 (gd DX3_expect_0 2 rfl) ?_
  refine g_iload_n C (gd DX3_expect_0 3 rfl) 1 rfl rfl ?_
  refine g_icmp_eq C 16 (gd DX3_expect_0 4 rfl) (by decide) (fun c8 => ?_) (fun c8 => ?_)
  · exact k16
  · refine g_aload_n C (gd DX3_expect_0 5 rfl) 0 rfl rfl ?_
    refine g_iconst (v := 2) C (gd DX3_expect_0 6 rfl) (by decide) ?_
    refine g_cV0 (v := .null) (ci := 3) C [_] mX3_fail lm_TestJudge_Reader_55 (by exact hq.1.1) rfl rfl (e_r_fail1 hq h0 _) hfl (by first | decide | omega) (by decide) (by omega) (by omega) rfl rfl (Nat.le_of_ble_eq_true rfl) (gd DX3_expect_0 7 rfl) ?_
    exact k16
theorem e_r_needPlain {p m : Nat} (hq : cQ U W T N h) (ct : cT T h tx n c j) (h0 : hI h U 1 = 0) (kp : hK h p = 3) (hp0 : hI h p 0 = nI m) (hm : m < 2 ^ 31) : EvF w 1 0 0 yX3_needPlain cX3_needPlain 2 none [.ref U, .ref p] h none (if m = 0 then h else sI (sI h U 1 5) U 2 (nI (plT tx n j))) := by
  generalize hh : (if m = 0 then h else sI (sI h U 1 5) U 2 (nI (plT tx n j))) = h1
  refine g_start (by decide) (Nat.le_of_ble_eq_true rfl) [(0, _), (1, _)] rfl (fun z hfl C => ?_)
  refine g_aload_n C (gd DX3_needPlain_0 0 rfl) 1 rfl rfl ?_
  refine g_geti (ci := 2) (k := 0) C rfl (by decide) rfl lf_TestJudge_Reader_93 kp (gd DX3_needPlain_0 1 rfl) ?_
  rw [hp0]
  refine g_if_le C 12 (gd DX3_needPlain_0 2 rfl) (by decide) (fun c4 => ?_) (fun c4 => ?_)
  · have e : m = 0 := by
      apply Classical.byContradiction
      intro q
      have := nI_leI (a := m) (b := 0) (by omega) (by omega)
      exact q (by have := this.mp (by first | exact c4 | exact Int32.not_lt.mp c4); omega)
    exact g_vret C (by omega) (by omega) ⟨rfl, (if_pos e).symm.trans hh⟩ (gd DX3_needPlain_0 6 rfl)
  · have e : ¬ m = 0 := fun q => by
      rw [q] at c4; first | exact absurd c4 (by decide) | exact c4 (by decide)
    refine g_aload_n C (gd DX3_needPlain_0 3 rfl) 0 rfl rfl ?_
    refine g_iconst (v := 5) C (gd DX3_needPlain_0 4 rfl) (by decide) ?_
    refine g_cV0 (v := .null) (ci := 3) C [_] mX3_fail lm_TestJudge_Reader_55 (by exact hq.1.1) rfl rfl (e_r_fail hq ct h0 (k := 5) (by omega)) hfl (by first | decide | omega) (by decide) (by omega) (by omega) rfl rfl (Nat.le_of_ble_eq_true rfl) (gd DX3_needPlain_0 5 rfl) ?_
    rw [if_neg (c := cdT tx n j = 1 ∧ 5 ≠ 5) (fun x => x.2 rfl)]
    exact g_vret C (by omega) (by omega) ⟨rfl, (if_neg e).symm.trans hh⟩ (gd DX3_needPlain_0 6 rfl)
theorem e_r_needPlain1 {p : Nat} (hq : cQ U W T N h) (h0 : hI h U 1 ≠ 0) (kp : hK h p = 3) : EvF w 1 0 0 yX3_needPlain cX3_needPlain 2 none [.ref U, .ref p] h none h := by
  refine g_start (by decide) (Nat.le_of_ble_eq_true rfl) [(0, _), (1, _)] rfl (fun z hfl C => ?_)
  refine g_aload_n C (gd DX3_needPlain_0 0 rfl) 1 rfl rfl ?_
  refine g_geti (ci := 2) (k := 0) C rfl (by decide) rfl lf_TestJudge_Reader_93 kp (gd DX3_needPlain_0 1 rfl) ?_
  refine g_if_le C 12 (gd DX3_needPlain_0 2 rfl) (by decide) (fun c4 => ?_) (fun c4 => ?_)
  · exact g_vret C (by omega) (by omega) ⟨rfl, rfl⟩ (gd DX3_needPlain_0 6 rfl)
  · refine g_aload_n C (gd DX3_needPlain_0 3 rfl) 0 rfl rfl ?_
    refine g_iconst (v := 5) C (gd DX3_needPlain_0 4 rfl) (by decide) ?_
    refine g_cV0 (v := .null) (ci := 3) C [_] mX3_fail lm_TestJudge_Reader_55 (by exact hq.1.1) rfl rfl (e_r_fail1 hq h0 _) hfl (by first | decide | omega) (by decide) (by omega) (by omega) rfl rfl (Nat.le_of_ble_eq_true rfl) (gd DX3_needPlain_0 5 rfl) ?_
    exact g_vret C (by omega) (by omega) ⟨rfl, rfl⟩ (gd DX3_needPlain_0 6 rfl)
theorem e_r_opposite {p : Nat} (hq : cQ U W T N h) (kp : hK h p = 3) (lp : p < hT h) : Ev w 2 5 61 yX3_opposite cX3_opposite 2 (some (.object RX2)) [.ref U, .ref p] h (mkP h 0 (rPlain (allF (hI h W 0) &&& (hI h p 1 ^^^ -1)))) := by
  refine g_start (by decide) (Nat.le_of_ble_eq_true rfl) [(0, _), (1, _)] rfl (fun z hfl C => ?_)
  have hx := hExt_sN h 3 0
  have hq1 := hq.q (hx.q (U := U))
  have kp1 : hK (sN h 3 0) p = 3 := by rw [(hx.2 p lp).2.2.2.1]; exact kp
  have eW : hI (sN h 3 0) W = hI h W := (hx.2 W (by have := hq.2.2.2.2.2.2.1; omega)).1
  have ep : hI (sN h 3 0) p = hI h p := (hx.2 p lp).1
  refine g_new (ci := 2) C rfl lc_TestJudge_Reader_94 lI_TestJudge_Piece li_TestJudge_Piece (by decide) (by decide) (gd DX3_opposite_0 0 rfl) (gdv2) ?_
  refine g_dup C (gd DX3_opposite_0 1 rfl) rfl ?_
  refine g_iconst (v := 0) C (gd DX3_opposite_0 2 rfl) (by decide) ?_
  refine g_aload_n C (gd DX3_opposite_0 3 rfl) 0 rfl rfl ?_
  refine g_getr (ci := 3) (k := 0) C rfl (by decide) rfl lf_TestJudge_Reader_12 hq1.1.1 hq1.1.2.1 (gd DX3_opposite_0 4 rfl) ?_
  refine g_cV1 (ci := 8) C [] mX8_allAtoms lm_TestJudge_Reader_113 (by exact hq1.2.2.2.1.1) rfl rfl (e_w_allAtoms hq1.2.2.2.1) hfl (by first | decide | omega) (by decide) (by omega) (by omega) rfl rfl (Nat.le_of_ble_eq_true rfl) (gd DX3_opposite_0 5 rfl) ?_
  rw [eW]
  refine g_aload_n C (gd DX3_opposite_0 6 rfl) 1 rfl rfl ?_
  refine g_geti (ci := 2) (k := 1) C rfl (by decide) rfl lf_TestJudge_Reader_176 kp1 (gd DX3_opposite_0 7 rfl) ?_
  rw [ep]
  refine g_iconst (v := -1) C (gd DX3_opposite_0 8 rfl) (by decide) ?_
  refine g_ixor C (gd DX3_opposite_0 9 rfl) ?_
  refine g_iand C (gd DX3_opposite_0 10 rfl) ?_
  refine g_cI C [_, _] mX2_init lm_TestJudge_Reader_116 (e_pc_init 0 (by omega) _) hfl (by first | decide | omega) (by decide) (by omega) (by omega) rfl rfl (Nat.le_of_ble_eq_true rfl) (gd DX3_opposite_0 11 rfl) ?_
  exact g_aret C (by omega) (by omega) (pcF_mk _) (gd DX3_opposite_0 12 rfl)
theorem e_r_skipStars (hq : cQ U W T N h) (ct : cT T h tx n c j) (h0 : hI h U 1 = 0) (hc : ∀ i, i < c → cdT tx n i ≠ 0 → i + 1 < c) (hj : j < c) : Ev w 1 0 0 yX3_skipStars cX3_skipStars 3 (some .boolean) [.ref U] h (fun r' h' => ∃ j2, j ≤ j2 ∧ j2 < c ∧ (∀ i, j ≤ i → i < j2 → cdT tx n i = 42) ∧ cdT tx n j2 ≠ 42 ∧ r' = some (.int (b1 (¬ j2 = j))) ∧ tF T h h' ∧ cT T h' tx n c j2) := by
  refine g_start (by decide) (Nat.le_of_ble_eq_true rfl) [(0, _)] rfl (fun z hfl C => ?_)
  have c5 : c ≤ 501 := ct.1.2.1.2
  have hU : U ≠ T := fun x => by have := hq.1.1; rw [x, hq.2.2.1.1] at this; exact absurd this (by decide)
  have loop : ∀ y i j1 g, y + j1 = c → j1 = j + i → j1 < c → (∀ i, j ≤ i → i < j1 → cdT tx n i = 42) → tF T h g → cT T g tx n c j1 → GW z w 3 (gQ z w 0 0 (fun r' h'' => ∃ j2, j ≤ j2 ∧ j2 < c ∧ (∀ i, j ≤ i → i < j2 → cdT tx n i = 42) ∧ cdT tx n j2 ≠ 42 ∧ r' = some (.int (b1 (¬ j2 = j))) ∧ tF T h h'' ∧ cT T h'' tx n c j2)) 0 0 4 [(0, .ref U), (1, .int (b1 (¬ j1 = j))), (2, .int (nI i))] [] g := by
    intro y
    induction y with
    | zero => intro i j1 g hy _ hj1; omega
    | succ y ih =>
      intro i j1 g hy hi hj1 hs fr cg
      have hqg := hq.q (fr.q (U := U))
      have g0 : hI g U 1 = 0 := (fr.2 U 1 (fun x => hU x.1)).trans h0
      have lt := cd_lt (tx := tx) (n := n) j1
      refine g_iload_n C (gd DX3_skipStars_0 4 rfl) 2 rfl rfl ?_
      refine g_aload_n C (gd DX3_skipStars_0 5 rfl) 0 rfl rfl ?_
      refine g_getr (ci := 3) (k := 3) C rfl (by decide) rfl lf_TestJudge_Reader_33 hqg.1.1 hqg.1.2.2.1 (gd DX3_skipStars_0 6 rfl) ?_
      refine g_geti (ci := 7) (k := 0) C rfl (by decide) rfl lf_TestJudge_Reader_37 hqg.2.2.1.1 (gd DX3_skipStars_0 7 rfl) ?_
      rw [cg.1.1]
      refine g_icmp_gt C 49 (gd DX3_skipStars_0 8 rfl) (by decide) (fun c12 => ?_) (fun c12 => ?_)
      · exact absurd (by first | exact c12 | exact Int32.not_le.mp c12) (fun q => by
          have := (nI_leI (a := i) (b := c) (by omega) (by omega)).mpr (by omega)
          exact absurd q (Int32.not_lt.mpr this))
      refine g_aload_n C (gd DX3_skipStars_0 9 rfl) 0 rfl rfl ?_
      refine g_geti (ci := 3) (k := 1) C rfl (by decide) rfl lf_TestJudge_Reader_18 hqg.1.1 (gd DX3_skipStars_0 10 rfl) ?_
      rw [g0]
      refine g_if_ne C 49 (gd DX3_skipStars_0 11 rfl) (by decide) (fun c19 => ?_) (fun c19 => ?_)
      · exact absurd rfl c19
      refine g_aload_n C (gd DX3_skipStars_0 12 rfl) 0 rfl rfl ?_
      refine g_getr (ci := 3) (k := 3) C rfl (by decide) rfl lf_TestJudge_Reader_33 hqg.1.1 hqg.1.2.2.1 (gd DX3_skipStars_0 13 rfl) ?_
      refine g_geti (ci := 7) (k := 1) C rfl (by decide) rfl lf_TestJudge_Reader_42 hqg.2.2.1.1 (gd DX3_skipStars_0 14 rfl) ?_
      rw [cg.2.2.1]
      refine g_bipush (v := 42) C (gd DX3_skipStars_0 15 rfl) (by decide) ?_
      refine g_icmp_ne C 49 (gd DX3_skipStars_0 16 rfl) (by decide) (fun c31 => ?_) (fun c31 => ?_)
      · have e : ¬ cdT tx n j1 = 42 := fun q => c31 (by rw [q]; rfl)
        refine g_iload_n C (gd DX3_skipStars_0 24 rfl) 1 rfl rfl ?_
        exact g_zret C (b1_z _) (by omega) (by omega) ⟨j1, by omega, hj1, hs, e, rfl, fr, cg⟩ (gd DX3_skipStars_0 25 rfl)
      · have e : cdT tx n j1 = 42 := (nI_eq (b := 42) (by omega) (by omega)).mp (by first | exact c31 | exact Decidable.of_not_not c31)
        have hj2 := hc j1 hj1 (by omega)
        refine g_iconst (v := 1) C (gd DX3_skipStars_0 17 rfl) (by decide) ?_
        refine g_istore_n (lv' := [(0, _), (1, _), (2, _)]) C (gd DX3_skipStars_0 18 rfl) [1, 0, 2] rfl (by decide) rfl ?_
        refine g_aload_n C (gd DX3_skipStars_0 19 rfl) 0 rfl rfl ?_
        refine g_getr (ci := 3) (k := 3) C rfl (by decide) rfl lf_TestJudge_Reader_33 hqg.1.1 hqg.1.2.2.1 (gd DX3_skipStars_0 20 rfl) ?_
        refine g_callV (ci := 7) C [] mX7_advance lm_TestJudge_Reader_60 (by exact hqg.2.2.1.1) rfl rfl (e_k_adv hqg.2.2.1 cg hj2) hfl (by first | decide | omega) (by decide) (by omega) (by omega) rfl rfl (Nat.le_of_ble_eq_true rfl) (gd DX3_skipStars_0 21 rfl) (fun r h2 hp => ?_)
        obtain ⟨rfl, a1, a2⟩ := hp
        show GW z w 3 _ 0 0 _ _ [] _
        refine g_iinc (lv' := [(0, _), (1, _), (2, _)]) C (gd DX3_skipStars_0 22 rfl) 2 [1, 2, 0] rfl rfl (by decide) rfl ?_
        refine g_goto (tgt := 4) C (gd DX3_skipStars_0 23 rfl) (by decide) ?_
        refine GW.cast (by rw [inc1, b1_t (show ¬ j1 + 1 = j by omega)]) rfl rfl (ih (i + 1) (j1 + 1) _ (by omega) (by omega) hj2 (fun i i1 i2 => ?_) (fr.tr a1) a2)
        by_cases q : i = j1
        · rw [q]; exact e
        · exact hs i i1 (by omega)
  refine g_iconst (v := 0) C (gd DX3_skipStars_0 0 rfl) (by decide) ?_
  refine g_istore_n (lv' := [(0, _), (1, _)]) C (gd DX3_skipStars_0 1 rfl) [1, 0] rfl (by decide) rfl ?_
  refine g_iconst (v := 0) C (gd DX3_skipStars_0 2 rfl) (by decide) ?_
  refine g_istore_n (lv' := [(0, _), (1, _), (2, _)]) C (gd DX3_skipStars_0 3 rfl) [1, 2, 0] rfl (by decide) rfl ?_
  refine GW.cast (lv' := [(0, .ref U), (1, .int (b1 (¬ j = j))), (2, .int (nI 0))]) (by rw [b1_f (show ¬ ¬ j = j from fun q => q rfl)] <;> rfl) rfl rfl (loop (c - j) 0 j h (by omega) (by omega) hj (fun i i1 i2 => absurd i1 (by omega)) (tF.rf T h) ct)
theorem e_r_skipStars1 (hq : cQ U W T N h) (h0 : hI h U 1 ≠ 0) : EvF w 1 0 0 yX3_skipStars cX3_skipStars 3 (some .boolean) [.ref U] h (some (.int 0)) h := by
  refine g_start (by decide) (Nat.le_of_ble_eq_true rfl) [(0, _)] rfl (fun z hfl C => ?_)
  have k49 : GW z w 3 (gQ z w 0 0 (fun r' h'' => r' = some (.int 0) ∧ h'' = h)) 0 0 49 [(0, .ref U), (1, .int 0), (2, .int 0)] [] h := by
    refine g_iload_n C (gd DX3_skipStars_0 24 rfl) 1 rfl rfl ?_
    exact g_zret C (by decide) (by omega) (by omega) ⟨rfl, rfl⟩ (gd DX3_skipStars_0 25 rfl)
  refine g_iconst (v := 0) C (gd DX3_skipStars_0 0 rfl) (by decide) ?_
  refine g_istore_n (lv' := [(0, _), (1, _)]) C (gd DX3_skipStars_0 1 rfl) [1, 0] rfl (by decide) rfl ?_
  refine g_iconst (v := 0) C (gd DX3_skipStars_0 2 rfl) (by decide) ?_
  refine g_istore_n (lv' := [(0, _), (1, _), (2, _)]) C (gd DX3_skipStars_0 3 rfl) [1, 2, 0] rfl (by decide) rfl ?_
  refine g_iload_n C (gd DX3_skipStars_0 4 rfl) 2 rfl rfl ?_
  refine g_aload_n C (gd DX3_skipStars_0 5 rfl) 0 rfl rfl ?_
  refine g_getr (ci := 3) (k := 3) C rfl (by decide) rfl lf_TestJudge_Reader_33 hq.1.1 hq.1.2.2.1 (gd DX3_skipStars_0 6 rfl) ?_
  refine g_geti (ci := 7) (k := 0) C rfl (by decide) rfl lf_TestJudge_Reader_37 hq.2.2.1.1 (gd DX3_skipStars_0 7 rfl) ?_
  refine g_icmp_gt C 49 (gd DX3_skipStars_0 8 rfl) (by decide) (fun c12 => ?_) (fun c12 => ?_)
  · exact k49
  · refine g_aload_n C (gd DX3_skipStars_0 9 rfl) 0 rfl rfl ?_
    refine g_geti (ci := 3) (k := 1) C rfl (by decide) rfl lf_TestJudge_Reader_18 hq.1.1 (gd DX3_skipStars_0 10 rfl) ?_
    refine g_if_ne C 49 (gd DX3_skipStars_0 11 rfl) (by decide) (fun c19 => ?_) (fun c19 => ?_)
    · exact k49
    · exact absurd (by first | exact c19 | exact Decidable.of_not_not c19) h0
end R2
