/-! the class's Reader: readNames -/
theorem fl_k {cd k : Nat} (hk : k ≠ 5) : (if cd = 1 ∧ k ≠ 5 then 1 else k) = (if cd = 1 then 1 else k) := by
  by_cases e : cd = 1
  · rw [if_pos ⟨e, hk⟩, if_pos e]
  · rw [if_neg (fun x => e x.1), if_neg e]
theorem lsC.f1 {U W T N : Nat} {h : HS} {tx : Nat → Nat} {n c j k : Nat} (hq : cQ U W T N h) (ct : cT T h tx n c j) (hk : k ≠ 0 ∧ k < 10) : lsC U W T N h tx n c (pBl (cdT tx n) k j) (sI (sI h U 1 (nI (if cdT tx n j = 1 then 1 else k))) U 2 (nI (plT tx n j))) := (bdF.mk hq ct (k := if cdT tx n j = 1 then 1 else k) (by split <;> omega)).l
theorem lsC.f2 {U W T N : Nat} {h : HS} {tx : Nat → Nat} {n c j k : Nat} (hq : cQ U W T N h) (ct : cT T h tx n c j) (hk : k ≠ 0 ∧ k < 10) (h5 : k ≠ 5) : lsC U W T N h tx n c (pBl (cdT tx n) k j) (sI (sI h U 1 (nI (if cdT tx n j = 1 ∧ k ≠ 5 then 1 else k))) U 2 (nI (plT tx n j))) := by
  rw [fl_k h5]
  exact lsC.f1 hq ct hk
theorem lsC.pre {U W T N : Nat} {h0 h h1 : HS} {tx : Nat → Nat} {n c : Nat} {r : pLz} (a : lF U W T N h0 h) (b : lsC U W T N h tx n c r h1) : lsC U W T N h0 tx n c r h1 := by
  rcases r with x | x
  · exact bdL.pre a b
  · exact ⟨a.tr b.1, b.2⟩
theorem pBl_2 {cd : Nat → Nat} {k j : Nat} (e : cd j = 2) : pBl cd k j = .inl (k, j) := by unfold pBl; rw [if_neg (by omega)]
section L4
variable {w : gD} {U W T N : Nat} {h : HS} {tx : Nat → Nat} {n c j : Nat} {S : pS}
theorem e_r_newName (b : Bool) (L : cLn U W T N h tx n c j S) (hnp : S.1.2.2.1 = 0) (hnf : S.1.2.2.2 = 0) (e2 : cdT tx n j = 2) (hj : j + 1 < c) : Ev w 1 0 0 yX3_readNewName cX3_readNewName 3 none [.ref U, .int (if b = true then 1 else 0)] h (fun r' h' => r' = none ∧ ((pTk S.1.1 S.1.2.1 S.1.2.2.1 S.2.1 (wdT tx n j) ∧ bdL U W T N h h' tx n c 3 j) ∨ (¬ pTk S.1.1 S.1.2.1 S.1.2.2.1 S.2.1 (wdT tx n j) ∧ (if b = true then S.1.1 else S.1.2.1) = 3 ∧ bdL U W T N h h' tx n c 4 j) ∨ (¬ pTk S.1.1 S.1.2.1 S.1.2.2.1 S.2.1 (wdT tx n j) ∧ (if b = true then S.1.1 else S.1.2.1) ≠ 3 ∧ lF U W T N h h' ∧ cLn U W T N h' tx n c (j + 1) (if b = true then ((S.1.1 + 1, S.1.2), updA S.2.1 (0 + S.1.1) (wdT tx n j), S.2.2) else ((S.1.1, S.1.2.1 + 1, S.1.2.2), updA S.2.1 (3 + S.1.2.1) (wdT tx n j), S.2.2))))) := by
  cases b with
  | true => exact e_r_newT L hnp hnf e2 hj
  | false => exact e_r_newA L hnp hnf e2 hj
theorem e_r_names (b : Bool) (L : cLn U W T N h tx n c j S) (hnp : S.1.2.2.1 = 0) (hnf : S.1.2.2.2 = 0) (hj : j + 1 < c) : Ev w 3 0 0 yX3_readNames cX3_readNames 3 none [.ref U, .int (if b = true then 1 else 0)] h (fun r' h' => r' = none ∧ ∃ r, (if cdT tx n (j + 1) ≠ 2 then some (pBl (cdT tx n) 2 (j + 1)) else pNm (cdT tx n) (wdT tx n) b 5000 (j + 1) S) = some r ∧ lsC U W T N h tx n c r h') := by
  generalize hX : (if cdT tx n (j + 1) ≠ 2 then some (pBl (cdT tx n) 2 (j + 1)) else pNm (cdT tx n) (wdT tx n) b 5000 (j + 1) S) = X
  refine g_start (by decide) (Nat.le_of_ble_eq_true rfl) [(0, _), (1, _)] rfl (fun z hfl C => ?_)
  have k78 : ∀ g r v2, lF U W T N h g → hI g U 1 ≠ 0 → X = some r → lsC U W T N h tx n c r g → GW z w 3 (gQ z w 0 0 (fun r' h'' => r' = none ∧ ∃ r, X = some r ∧ lsC U W T N h tx n c r h'')) 0 0 78 [(0, .ref U), (1, .int (if b = true then 1 else 0)), (2, .int v2)] [] g := by
    intro g r v2 fr g1 hr ls
    have hqg := L.1.1.l fr
    refine g_aload_n C (gd DX3_readNames_0 38 rfl) 0 rfl rfl ?_
    refine g_iconst (v := 0) C (gd DX3_readNames_0 39 rfl) (by decide) ?_
    refine g_iconst (v := 0) C (gd DX3_readNames_0 40 rfl) (by decide) ?_
    refine g_cV0 (v := .null) (ci := 3) C [_, _] mX3_endLine lm_TestJudge_Reader_66 (by exact hqg.1.1) rfl rfl (e_r_endLine1 hqg g1 _ _) hfl (by first | decide | omega) (by decide) (by omega) (by omega) rfl rfl (Nat.le_of_ble_eq_true rfl) (gd DX3_readNames_0 41 rfl) ?_
    exact g_vret C (by omega) (by omega) ⟨rfl, _, hr, ls⟩ (gd DX3_readNames_0 42 rfl)
  have k38 : ∀ g r v2, lF U W T N h g → hI g U 1 ≠ 0 → X = some r → lsC U W T N h tx n c r g → GW z w 3 (gQ z w 0 0 (fun r' h'' => r' = none ∧ ∃ r, X = some r ∧ lsC U W T N h tx n c r h'')) 0 0 38 [(0, .ref U), (1, .int (if b = true then 1 else 0)), (2, .int v2)] [] g := by
    intro g r v2 fr g1 hr ls
    have hqg := L.1.1.l fr
    refine g_iload_n C (gd DX3_readNames_0 20 rfl) 2 rfl rfl ?_
    refine g_aload_n C (gd DX3_readNames_0 21 rfl) 0 rfl rfl ?_
    refine g_getr (ci := 3) (k := 3) C rfl (by decide) rfl lf_TestJudge_Reader_33 hqg.1.1 hqg.1.2.2.1 (gd DX3_readNames_0 22 rfl) ?_
    refine g_geti (ci := 7) (k := 0) C rfl (by decide) rfl lf_TestJudge_Reader_37 hqg.2.2.1.1 (gd DX3_readNames_0 23 rfl) ?_
    refine g_icmp_gt C 78 (gd DX3_readNames_0 24 rfl) (by decide) (fun c46 => ?_) (fun c46 => ?_)
    · exact k78 g r _ fr g1 hr ls
    · refine g_aload_n C (gd DX3_readNames_0 25 rfl) 0 rfl rfl ?_
      refine g_geti (ci := 3) (k := 1) C rfl (by decide) rfl lf_TestJudge_Reader_18 hqg.1.1 (gd DX3_readNames_0 26 rfl) ?_
      refine g_if_ne C 78 (gd DX3_readNames_0 27 rfl) (by decide) (fun c53 => ?_) (fun c53 => ?_)
      · exact k78 g r _ fr g1 hr ls
      · exact absurd (by first | exact c53 | exact Decidable.of_not_not c53) g1
  have loop : ∀ y j1 f S1 g i, c = j1 + y → j1 < c → i ≤ j1 → y < f → lF U W T N h g → cLn U W T N g tx n c j1 S1 → S1.1.2.2.1 = 0 → S1.1.2.2.2 = 0 → pNm (cdT tx n) (wdT tx n) b f j1 S1 = X → GW z w 3 (gQ z w 0 0 (fun r' h'' => r' = none ∧ ∃ r, X = some r ∧ lsC U W T N h tx n c r h'')) 0 0 38 [(0, .ref U), (1, .int (if b = true then 1 else 0)), (2, .int (nI i))] [] g := by
    intro y
    induction y with
    | zero => intro j1 f S1 g i hy hj1; omega
    | succ y ih =>
      intro j1 f S1 g i hy hj1 hi hf fr L1 np nf hz
      have hq1 := L1.1.1
      have ct1 := L1.1.2.1
      have h01 := L1.1.2.2.1
      obtain ⟨f, rfl⟩ : ∃ f', f = f' + 1 := ⟨f - 1, by omega⟩
      have c5 : c ≤ 501 := ct1.1.2.1.2
      have lt := cd_lt (tx := tx) (n := n) j1
      refine g_iload_n C (gd DX3_readNames_0 20 rfl) 2 rfl rfl ?_
      refine g_aload_n C (gd DX3_readNames_0 21 rfl) 0 rfl rfl ?_
      refine g_getr (ci := 3) (k := 3) C rfl (by decide) rfl lf_TestJudge_Reader_33 hq1.1.1 hq1.1.2.2.1 (gd DX3_readNames_0 22 rfl) ?_
      refine g_geti (ci := 7) (k := 0) C rfl (by decide) rfl lf_TestJudge_Reader_37 hq1.2.2.1.1 (gd DX3_readNames_0 23 rfl) ?_
      rw [ct1.1.1]
      refine g_icmp_gt C 78 (gd DX3_readNames_0 24 rfl) (by decide) (fun c46 => ?_) (fun c46 => ?_)
      · exact absurd (by first | exact c46 | exact Int32.not_le.mp c46) (Int32.not_lt.mpr (nI_le (a := i) (b := c) (by omega) (by omega)))
      refine g_aload_n C (gd DX3_readNames_0 25 rfl) 0 rfl rfl ?_
      refine g_geti (ci := 3) (k := 1) C rfl (by decide) rfl lf_TestJudge_Reader_18 hq1.1.1 (gd DX3_readNames_0 26 rfl) ?_
      rw [h01]
      refine g_if_ne C 78 (gd DX3_readNames_0 27 rfl) (by decide) (fun c53 => ?_) (fun c53 => ?_)
      · exact absurd rfl c53
      refine g_aload_n C (gd DX3_readNames_0 28 rfl) 0 rfl rfl ?_
      refine g_getr (ci := 3) (k := 3) C rfl (by decide) rfl lf_TestJudge_Reader_33 hq1.1.1 hq1.1.2.2.1 (gd DX3_readNames_0 29 rfl) ?_
      refine g_geti (ci := 7) (k := 1) C rfl (by decide) rfl lf_TestJudge_Reader_42 hq1.2.2.1.1 (gd DX3_readNames_0 30 rfl) ?_
      rw [ct1.2.2.1]
      refine g_iconst (v := 2) C (gd DX3_readNames_0 31 rfl) (by decide) ?_
      refine g_icmp_ne C 78 (gd DX3_readNames_0 32 rfl) (by decide) (fun c64 => ?_) (fun c64 => ?_)
      · have e : cdT tx n j1 ≠ 2 := fun q => c64 (by rw [q]; rfl)
        rw [pNm, if_neg e] at hz
        refine g_aload_n C (gd DX3_readNames_0 38 rfl) 0 rfl rfl ?_
        refine g_iconst (v := 0) C (gd DX3_readNames_0 39 rfl) (by decide) ?_
        refine g_iconst (v := 0) C (gd DX3_readNames_0 40 rfl) (by decide) ?_
        refine g_callV (ci := 3) C [_, _] mX3_endLine lm_TestJudge_Reader_66 (by exact hq1.1.1) rfl rfl (e_r_endLine hq1 ct1 h01 (fun q => ct1.hc j1 hj1 q) 0 0) hfl (by first | decide | omega) (by decide) (by omega) (by omega) rfl rfl (Nat.le_of_ble_eq_true rfl) (gd DX3_readNames_0 41 rfl) (fun r h2 hp => ?_)
        obtain ⟨rfl, hp⟩ := hp
        show GW z w 3 _ _ _ _ _ [] _
        rcases hp with ⟨-, x, -⟩ | ⟨e59, -, a, a'⟩ | ⟨e59, rfl⟩
        · exact absurd x (by decide)
        · rw [if_pos e59] at hz
          exact g_vret C (by omega) (by omega) ⟨rfl, _, hz.symm, fr.tr a.l, L1.t a a'⟩ (gd DX3_readNames_0 42 rfl)
        · rw [if_neg e59] at hz
          exact g_vret C (by omega) (by omega) ⟨rfl, _, hz.symm, lsC.pre fr (lsC.f1 hq1 ct1 ⟨by omega, by omega⟩)⟩ (gd DX3_readNames_0 42 rfl)
      · have e : cdT tx n j1 = 2 := (nI_eq (b := 2) (by omega) (by omega)).mp (by first | exact c64 | exact Decidable.of_not_not c64)
        rw [pNm, if_pos e] at hz
        have hj2 := ct1.hc j1 hj1 (by omega)
        refine g_aload_n C (gd DX3_readNames_0 33 rfl) 0 rfl rfl ?_
        refine g_iload_n C (gd DX3_readNames_0 34 rfl) 1 rfl rfl ?_
        refine g_callV (ci := 3) C [_] mX3_readNewName lm_TestJudge_Reader_63 (by exact hq1.1.1) rfl rfl (e_r_newName b L1 np nf e hj2) hfl (by first | decide | omega) (by decide) (by omega) (by omega) rfl rfl (Nat.le_of_ble_eq_true rfl) (gd DX3_readNames_0 35 rfl) (fun r h2 hp => ?_)
        obtain ⟨rfl, hp⟩ := hp
        show GW z w 3 _ _ _ _ _ [] _
        rcases hp with ⟨tk, bd⟩ | ⟨tk, e3, bd⟩ | ⟨tk, e3, fr2, L2⟩
        · rw [if_pos tk, pBl_2 e] at hz
          refine g_iinc (lv' := [(0, _), (1, _), (2, _)]) C (gd DX3_readNames_0 36 rfl) 2 [1, 2, 0] rfl rfl (by decide) rfl ?_
          refine g_goto (tgt := 38) C (gd DX3_readNames_0 37 rfl) (by decide) ?_
          exact k38 _ _ _ (fr.tr bd.1) bd.2.2.2.2 hz.symm (bdL.pre fr bd)
        · rw [if_neg tk, if_pos e3, pBl_2 e] at hz
          refine g_iinc (lv' := [(0, _), (1, _), (2, _)]) C (gd DX3_readNames_0 36 rfl) 2 [1, 2, 0] rfl rfl (by decide) rfl ?_
          refine g_goto (tgt := 38) C (gd DX3_readNames_0 37 rfl) (by decide) ?_
          exact k38 _ _ _ (fr.tr bd.1) bd.2.2.2.2 hz.symm (bdL.pre fr bd)
        · rw [if_neg tk, if_neg e3] at hz
          refine g_iinc (lv' := [(0, _), (1, _), (2, _)]) C (gd DX3_readNames_0 36 rfl) 2 [1, 2, 0] rfl rfl (by decide) rfl ?_
          refine g_goto (tgt := 38) C (gd DX3_readNames_0 37 rfl) (by decide) ?_
          refine GW.cast (by rw [inc1]) rfl rfl (ih (j1 + 1) f _ _ (i + 1) (by omega) hj2 (by omega) (by omega) (fr.tr fr2) L2 ?_ ?_ hz)
          · cases b <;> exact np
          · cases b <;> exact nf
  have hq := L.1.1
  have ct := L.1.2.1
  have h0 := L.1.2.2.1
  have c5 : c ≤ 501 := ct.1.2.1.2
  have u5 : hI h U 5 = 0 := by rw [L.2.2.2.1, if_pos ⟨hnp, hnf⟩]
  have lt := cd_lt (tx := tx) (n := n) (j + 1)
  refine g_aload_n C (gd DX3_readNames_0 0 rfl) 0 rfl rfl ?_
  refine g_geti (ci := 3) (k := 5) C rfl (by decide) rfl lf_TestJudge_Reader_29 hq.1.1 (gd DX3_readNames_0 1 rfl) ?_
  rw [u5]
  refine g_if_eq C 13 (gd DX3_readNames_0 2 rfl) (by decide) (fun c4 => ?_) (fun c4 => ?_)
  rotate_left
  · exact absurd rfl c4
  refine g_aload_n C (gd DX3_readNames_0 7 rfl) 0 rfl rfl ?_
  refine g_getr (ci := 3) (k := 3) C rfl (by decide) rfl lf_TestJudge_Reader_33 hq.1.1 hq.1.2.2.1 (gd DX3_readNames_0 8 rfl) ?_
  refine g_callV (ci := 7) C [] mX7_advance lm_TestJudge_Reader_60 (by exact hq.2.2.1.1) rfl rfl (e_k_adv hq.2.2.1 ct hj) hfl (by first | decide | omega) (by decide) (by omega) (by omega) rfl rfl (Nat.le_of_ble_eq_true rfl) (gd DX3_readNames_0 9 rfl) (fun r h2 hp => ?_)
  obtain ⟨rfl, a1, a2⟩ := hp
  show GW z w 3 _ _ _ _ _ [] _
  have L2 := L.t a1 a2
  have hq2 := L2.1.1
  refine g_aload_n C (gd DX3_readNames_0 10 rfl) 0 rfl rfl ?_
  refine g_getr (ci := 3) (k := 3) C rfl (by decide) rfl lf_TestJudge_Reader_33 hq2.1.1 hq2.1.2.2.1 (gd DX3_readNames_0 11 rfl) ?_
  refine g_geti (ci := 7) (k := 1) C rfl (by decide) rfl lf_TestJudge_Reader_42 hq2.2.2.1.1 (gd DX3_readNames_0 12 rfl) ?_
  rw [a2.2.2.1]
  refine g_iconst (v := 2) C (gd DX3_readNames_0 13 rfl) (by decide) ?_
  refine g_icmp_eq C 36 (gd DX3_readNames_0 14 rfl) (by decide) (fun c28 => ?_) (fun c28 => ?_)
  · have e : cdT tx n (j + 1) = 2 := (nI_eq (b := 2) (by omega) (by omega)).mp (by first | exact c28 | exact Decidable.of_not_not c28)
    rw [if_neg (fun q => q e)] at hX
    refine g_iconst (v := 0) C (gd DX3_readNames_0 18 rfl) (by decide) ?_
    refine g_istore_n (lv' := [(0, _), (1, _), (2, _)]) C (gd DX3_readNames_0 19 rfl) [1, 2, 0] rfl (by decide) rfl ?_
    exact loop (c - (j + 1)) (j + 1) 5000 S h2 0 (by omega) hj (by omega) (by omega) a1.l L2 hnp hnf hX
  · have e : cdT tx n (j + 1) ≠ 2 := fun q => c28 (by rw [q]; rfl)
    rw [if_pos e] at hX
    have ls := lsC.f2 (W := W) (N := N) (k := 2) hq2 a2 ⟨by omega, by omega⟩ (by omega)
    have e0 : hI (sI (sI h2 U 1 (nI (if cdT tx n (j + 1) = 1 ∧ 2 ≠ 5 then 1 else 2))) U 2 (nI (plT tx n (j + 1)))) U 1 ≠ 0 := ls.2.2.2.2
    refine g_aload_n C (gd DX3_readNames_0 15 rfl) 0 rfl rfl ?_
    refine g_iconst (v := 2) C (gd DX3_readNames_0 16 rfl) (by decide) ?_
    refine g_cV0 (v := .null) (ci := 3) C [_] mX3_fail lm_TestJudge_Reader_55 (by exact hq2.1.1) rfl rfl (e_r_fail hq2 a2 L2.1.2.2.1 (k := 2) (by omega)) hfl (by first | decide | omega) (by decide) (by omega) (by omega) rfl rfl (Nat.le_of_ble_eq_true rfl) (gd DX3_readNames_0 17 rfl) ?_
    refine g_iconst (v := 0) C (gd DX3_readNames_0 18 rfl) (by decide) ?_
    refine g_istore_n (lv' := [(0, _), (1, _), (2, _)]) C (gd DX3_readNames_0 19 rfl) [1, 2, 0] rfl (by decide) rfl ?_
    exact k38 _ _ _ (a1.l.tr ls.1) e0 hX.symm (lsC.pre a1.l ls)
end L4
