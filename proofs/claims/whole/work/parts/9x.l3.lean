/-! the class's Reader: readNewName, readNames -/
/-- what a line or lines give -/
def lsC (U W T N : Nat) (h : HS) (tx : Nat → Nat) (n c : Nat) (r : pLz) (h' : HS) : Prop := match r with
  | .inl x => bdL U W T N h h' tx n c x.1 x.2
  | .inr x => lF U W T N h h' ∧ cLn U W T N h' tx n c x.1 x.2
theorem tF.l {U W T N : Nat} {h h1 : HS} (a : tF T h h1) : lF U W T N h h1 := a.q.l
section L3
variable {w : gD} {U W T N : Nat} {h : HS} {tx : Nat → Nat} {n c j : Nat} {S : pS}
theorem e_r_newT (L : cLn U W T N h tx n c j S) (hnp : S.1.2.2.1 = 0) (hnf : S.1.2.2.2 = 0) (e2 : cdT tx n j = 2) (hj : j + 1 < c) : Ev w 1 0 0 yX3_readNewName cX3_readNewName 3 none [.ref U, .int 1] h (fun r' h' => r' = none ∧ ((pTk S.1.1 S.1.2.1 S.1.2.2.1 S.2.1 (wdT tx n j) ∧ bdL U W T N h h' tx n c 3 j) ∨ (¬ pTk S.1.1 S.1.2.1 S.1.2.2.1 S.2.1 (wdT tx n j) ∧ S.1.1 = 3 ∧ bdL U W T N h h' tx n c 4 j) ∨ (¬ pTk S.1.1 S.1.2.1 S.1.2.2.1 S.2.1 (wdT tx n j) ∧ S.1.1 ≠ 3 ∧ lF U W T N h h' ∧ cLn U W T N h' tx n c (j + 1) ((S.1.1 + 1, S.1.2), updA S.2.1 (0 + S.1.1) (wdT tx n j), S.2.2)))) := by
  refine g_start (by decide) (Nat.le_of_ble_eq_true rfl) [(0, _), (1, _)] rfl (fun z hfl C => ?_)
  have hq := L.1.1
  have ct := L.1.2.1
  have h0 := L.1.2.2.1
  have cn := L.1.2.2.2
  obtain ⟨⟨n1, n2, n3⟩, ⟨n4, n5, n6⟩, n7, n8, n9⟩ := id cn
  have NW : N ≠ W := fun x => by have q5 := hq.2.1.1; rw [x, hq.2.2.2.1.1] at q5; exact absurd q5 (by decide)
  have NT : N ≠ T := fun x => by have q5 := hq.2.1.1; rw [x, hq.2.2.1.1] at q5; exact absurd q5 (by decide)
  refine g_iload_n C (gd DX3_readNewName_0 0 rfl) 1 rfl rfl ?_
  refine g_if_eq C 14 (gd DX3_readNewName_0 1 rfl) (by decide) (fun c1 => ?_) (fun c1 => ?_)
  · exact absurd c1 (by decide)
  refine g_aload_n C (gd DX3_readNewName_0 2 rfl) 0 rfl rfl ?_
  refine g_getr (ci := 3) (k := 0) C rfl (by decide) rfl lf_TestJudge_Reader_12 hq.1.1 hq.1.2.1 (gd DX3_readNewName_0 3 rfl) ?_
  refine g_geti (ci := 8) (k := 0) C rfl (by decide) rfl lf_TestJudge_Reader_70 hq.2.2.2.1.1 (gd DX3_readNewName_0 4 rfl) ?_
  rw [n4]
  refine g_goto (tgt := 21) C (gd DX3_readNewName_0 5 rfl) (by decide) ?_
  refine g_istore_n (lv' := [(0, _), (1, _), (2, _)]) C (gd DX3_readNewName_0 9 rfl) [1, 2, 0] rfl (by decide) rfl ?_
  refine g_aload_n C (gd DX3_readNewName_0 10 rfl) 0 rfl rfl ?_
  refine g_aload_n C (gd DX3_readNewName_0 11 rfl) 0 rfl rfl ?_
  refine g_getr (ci := 3) (k := 3) C rfl (by decide) rfl lf_TestJudge_Reader_33 hq.1.1 hq.1.2.2.1 (gd DX3_readNewName_0 12 rfl) ?_
  refine g_geti (ci := 7) (k := 2) C rfl (by decide) rfl lf_TestJudge_Reader_76 hq.2.2.1.1 (gd DX3_readNewName_0 13 rfl) ?_
  rw [ct.2.2.2.2 e2]
  refine g_cV1 (ci := 3) C [_] mX3_slotOf lm_TestJudge_Reader_79 (by exact hq.1.1) rfl rfl (e_r_slotOf hq cn (wd_pos j e2) (wd_lt j e2)) hfl (by first | decide | omega) (by decide) (by omega) (by omega) rfl rfl (Nat.le_of_ble_eq_true rfl) (gd DX3_readNewName_0 14 rfl) ?_
  cases es : slN S.1.1 S.1.2.1 S.1.2.2.1 S.2.1 (wdT tx n j) with
  | some s =>
    have tk : pTk S.1.1 S.1.2.1 S.1.2.2.1 S.2.1 (wdT tx n j) := fun q => by rw [slN_no.mpr q] at es; cases es
    have u := (slN_some n1 n2 es).1
    show GW z w 3 _ 0 0 33 _ [.int (nI s)] _
    refine g_iconst (v := -1) C (gd DX3_readNewName_0 15 rfl) (by decide) ?_
    refine g_icmp_eq C 43 (gd DX3_readNewName_0 16 rfl) (by decide) (fun c34 => ?_) (fun c34 => ?_)
    · exact absurd (by first | exact c34 | exact Decidable.of_not_not c34) (nI_neg1 (by rcases u with u | u | u <;> omega))
    refine g_aload_n C (gd DX3_readNewName_0 17 rfl) 0 rfl rfl ?_
    refine g_iconst (v := 3) C (gd DX3_readNewName_0 18 rfl) (by decide) ?_
    refine g_cV0 (v := .null) (ci := 3) C [_] mX3_fail lm_TestJudge_Reader_55 (by exact hq.1.1) rfl rfl (e_r_fail hq ct h0 (k := 3) (by omega)) hfl (by first | decide | omega) (by decide) (by omega) (by omega) rfl rfl (Nat.le_of_ble_eq_true rfl) (gd DX3_readNewName_0 19 rfl) ?_
    rw [if_neg (c := cdT tx n j = 1 ∧ 3 ≠ 5) (by omega)]
    exact g_vret C (by omega) (by omega) ⟨rfl, Or.inl ⟨tk, (bdF.mk hq ct (k := 3) ⟨by omega, by omega⟩).l⟩⟩ (gd DX3_readNewName_0 20 rfl)
  | none =>
    have tk : ¬ pTk S.1.1 S.1.2.1 S.1.2.2.1 S.2.1 (wdT tx n j) := fun q => q (slN_no.mp es)
    show GW z w 3 _ 0 0 33 _ [.int (-1)] _
    refine g_iconst (v := -1) C (gd DX3_readNewName_0 15 rfl) (by decide) ?_
    refine g_icmp_eq C 43 (gd DX3_readNewName_0 16 rfl) (by decide) (fun c34 => ?_) (fun c34 => ?_)
    rotate_left
    · exact absurd rfl c34
    refine g_iload_n C (gd DX3_readNewName_0 21 rfl) 2 rfl rfl ?_
    refine g_iload_n C (gd DX3_readNewName_0 22 rfl) 1 rfl rfl ?_
    refine g_if_eq C 52 (gd DX3_readNewName_0 23 rfl) (by decide) (fun c45 => ?_) (fun c45 => ?_)
    · exact absurd c45 (by decide)
    refine g_iconst (v := 3) C (gd DX3_readNewName_0 24 rfl) (by decide) ?_
    refine g_goto (tgt := 53) C (gd DX3_readNewName_0 25 rfl) (by decide) ?_
    refine g_icmp_lt C 62 (gd DX3_readNewName_0 27 rfl) (by decide) (fun c53 => ?_) (fun c53 => ?_)
    rotate_left
    · have e3 : S.1.1 = 3 := by
        by_cases q : S.1.1 = 3
        · exact q
        · exact absurd c53 (fun q2 => q2 (nI_lt (b := 3) (by omega) (by omega)))
      refine g_aload_n C (gd DX3_readNewName_0 28 rfl) 0 rfl rfl ?_
      refine g_iconst (v := 4) C (gd DX3_readNewName_0 29 rfl) (by decide) ?_
      refine g_cV0 (v := .null) (ci := 3) C [_] mX3_fail lm_TestJudge_Reader_55 (by exact hq.1.1) rfl rfl (e_r_fail hq ct h0 (k := 4) (by omega)) hfl (by first | decide | omega) (by decide) (by omega) (by omega) rfl rfl (Nat.le_of_ble_eq_true rfl) (gd DX3_readNewName_0 30 rfl) ?_
      rw [if_neg (c := cdT tx n j = 1 ∧ 4 ≠ 5) (by omega)]
      exact g_vret C (by omega) (by omega) ⟨rfl, Or.inr (Or.inl ⟨tk, e3, (bdF.mk hq ct (k := 4) ⟨by omega, by omega⟩).l⟩)⟩ (gd DX3_readNewName_0 31 rfl)
    · have e3 : S.1.1 ≠ 3 := fun q => by rw [q] at c53; exact absurd c53 (by decide)
      refine g_aload_n C (gd DX3_readNewName_0 32 rfl) 0 rfl rfl ?_
      refine g_getr (ci := 3) (k := 4) C rfl (by decide) rfl lf_TestJudge_Reader_25 hq.1.1 hq.1.2.2.2 (gd DX3_readNewName_0 33 rfl) ?_
      refine g_iload_n C (gd DX3_readNewName_0 34 rfl) 1 rfl rfl ?_
      refine g_if_eq C 74 (gd DX3_readNewName_0 35 rfl) (by decide) (fun c67 => ?_) (fun c67 => ?_)
      · exact absurd c67 (by decide)
      refine g_iload_n C (gd DX3_readNewName_0 36 rfl) 2 rfl rfl ?_
      refine g_goto (tgt := 77) C (gd DX3_readNewName_0 37 rfl) (by decide) ?_
      refine g_aload_n C (gd DX3_readNewName_0 41 rfl) 0 rfl rfl ?_
      refine g_getr (ci := 3) (k := 3) C rfl (by decide) rfl lf_TestJudge_Reader_33 hq.1.1 hq.1.2.2.1 (gd DX3_readNewName_0 42 rfl) ?_
      refine g_geti (ci := 7) (k := 2) C rfl (by decide) rfl lf_TestJudge_Reader_76 hq.2.2.1.1 (gd DX3_readNewName_0 43 rfl) ?_
      rw [ct.2.2.2.2 e2]
      refine g_isj (j := S.1.1) C hq.2.1.1 hq.2.1.2 (by first | decide | omega) rfl (by omega) (gd DX3_readNewName_0 44 rfl) ?_
      refine g_iload_n C (gd DX3_readNewName_0 45 rfl) 1 rfl rfl ?_
      refine g_if_eq C 105 (gd DX3_readNewName_0 46 rfl) (by decide) (fun c86 => ?_) (fun c86 => ?_)
      · exact absurd c86 (by decide)
      refine g_aload_n C (gd DX3_readNewName_0 47 rfl) 0 rfl rfl ?_
      refine g_getr (ci := 3) (k := 0) C rfl (by decide) rfl lf_TestJudge_Reader_12 hq.1.1 hq.1.2.1 (gd DX3_readNewName_0 48 rfl) ?_
      refine g_dup C (gd DX3_readNewName_0 49 rfl) rfl ?_
      refine g_geti (ci := 8) (k := 0) C rfl (by decide) rfl lf_TestJudge_Reader_70 hq.2.2.2.1.1 (gd DX3_readNewName_0 50 rfl) ?_
      rw [hI_sI, if_neg (fun x => NW x.1.symm), n4]
      refine g_iconst (v := 1) C (gd DX3_readNewName_0 51 rfl) (by decide) ?_
      refine g_iadd C (gd DX3_readNewName_0 52 rfl) ?_
      rw [show nI S.1.1 + 1 = nI (S.1.1 + 1) from nx_add (b := 1) rfl rfl]
      refine g_puti (ci := 8) (k := 0) C rfl (by decide) rfl lf_TestJudge_Reader_70 hq.2.2.2.1.1 (Or.inl rfl) rfl (gd DX3_readNewName_0 53 rfl) ?_
      obtain ⟨a1, a2⟩ : lF U W T N h (sI (sI h N S.1.1 (nI (wdT tx n j))) W 0 (nI (S.1.1 + 1))) ∧ cLn U W T N (sI (sI h N S.1.1 (nI (wdT tx n j))) W 0 (nI (S.1.1 + 1))) tx n c j ((S.1.1 + 1, S.1.2), updA S.2.1 (0 + S.1.1) (wdT tx n j), S.2.2) := cLm.name true L hnp hnf (show S.1.1 < 3 by omega) (wd_lt j e2)
      have hq1 := a2.1.1
      refine g_goto (tgt := 118) C (gd DX3_readNewName_0 54 rfl) (by decide) ?_
      refine g_aload_n C (gd DX3_readNewName_1 2 rfl) 0 rfl rfl ?_
      refine g_getr (ci := 3) (k := 3) C rfl (by decide) rfl lf_TestJudge_Reader_33 hq1.1.1 hq1.1.2.2.1 (gd DX3_readNewName_1 3 rfl) ?_
      refine g_callV (ci := 7) C [] mX7_advance lm_TestJudge_Reader_60 (by exact hq1.2.2.1.1) rfl rfl (e_k_adv hq1.2.2.1 a2.1.2.1 hj) hfl (by first | decide | omega) (by decide) (by omega) (by omega) rfl rfl (Nat.le_of_ble_eq_true rfl) (gd DX3_readNewName_1 4 rfl) (fun r h2 hp => ?_)
      obtain ⟨rfl, b1, b2⟩ := hp
      show GW z w 3 _ _ _ _ _ [] _
      exact g_vret C (by omega) (by omega) ⟨rfl, Or.inr (Or.inr ⟨tk, e3, a1.tr b1.l, a2.t b1 b2⟩)⟩ (gd DX3_readNewName_1 5 rfl)
theorem e_r_newA (L : cLn U W T N h tx n c j S) (hnp : S.1.2.2.1 = 0) (hnf : S.1.2.2.2 = 0) (e2 : cdT tx n j = 2) (hj : j + 1 < c) : Ev w 1 0 0 yX3_readNewName cX3_readNewName 3 none [.ref U, .int 0] h (fun r' h' => r' = none ∧ ((pTk S.1.1 S.1.2.1 S.1.2.2.1 S.2.1 (wdT tx n j) ∧ bdL U W T N h h' tx n c 3 j) ∨ (¬ pTk S.1.1 S.1.2.1 S.1.2.2.1 S.2.1 (wdT tx n j) ∧ S.1.2.1 = 3 ∧ bdL U W T N h h' tx n c 4 j) ∨ (¬ pTk S.1.1 S.1.2.1 S.1.2.2.1 S.2.1 (wdT tx n j) ∧ S.1.2.1 ≠ 3 ∧ lF U W T N h h' ∧ cLn U W T N h' tx n c (j + 1) ((S.1.1, S.1.2.1 + 1, S.1.2.2), updA S.2.1 (3 + S.1.2.1) (wdT tx n j), S.2.2)))) := by
  refine g_start (by decide) (Nat.le_of_ble_eq_true rfl) [(0, _), (1, _)] rfl (fun z hfl C => ?_)
  have hq := L.1.1
  have ct := L.1.2.1
  have h0 := L.1.2.2.1
  have cn := L.1.2.2.2
  obtain ⟨⟨n1, n2, n3⟩, ⟨n4, n5, n6⟩, n7, n8, n9⟩ := id cn
  have NW : N ≠ W := fun x => by have q5 := hq.2.1.1; rw [x, hq.2.2.2.1.1] at q5; exact absurd q5 (by decide)
  refine g_iload_n C (gd DX3_readNewName_0 0 rfl) 1 rfl rfl ?_
  refine g_if_eq C 14 (gd DX3_readNewName_0 1 rfl) (by decide) (fun c1 => ?_) (fun c1 => ?_)
  rotate_left
  · exact absurd rfl c1
  refine g_aload_n C (gd DX3_readNewName_0 6 rfl) 0 rfl rfl ?_
  refine g_getr (ci := 3) (k := 0) C rfl (by decide) rfl lf_TestJudge_Reader_12 hq.1.1 hq.1.2.1 (gd DX3_readNewName_0 7 rfl) ?_
  refine g_geti (ci := 8) (k := 1) C rfl (by decide) rfl lf_TestJudge_Reader_73 hq.2.2.2.1.1 (gd DX3_readNewName_0 8 rfl) ?_
  rw [n5]
  refine g_istore_n (lv' := [(0, _), (1, _), (2, _)]) C (gd DX3_readNewName_0 9 rfl) [1, 2, 0] rfl (by decide) rfl ?_
  refine g_aload_n C (gd DX3_readNewName_0 10 rfl) 0 rfl rfl ?_
  refine g_aload_n C (gd DX3_readNewName_0 11 rfl) 0 rfl rfl ?_
  refine g_getr (ci := 3) (k := 3) C rfl (by decide) rfl lf_TestJudge_Reader_33 hq.1.1 hq.1.2.2.1 (gd DX3_readNewName_0 12 rfl) ?_
  refine g_geti (ci := 7) (k := 2) C rfl (by decide) rfl lf_TestJudge_Reader_76 hq.2.2.1.1 (gd DX3_readNewName_0 13 rfl) ?_
  rw [ct.2.2.2.2 e2]
  refine g_cV1 (ci := 3) C [_] mX3_slotOf lm_TestJudge_Reader_79 (by exact hq.1.1) rfl rfl (e_r_slotOf hq cn (wd_pos j e2) (wd_lt j e2)) hfl (by first | decide | omega) (by decide) (by omega) (by omega) rfl rfl (Nat.le_of_ble_eq_true rfl) (gd DX3_readNewName_0 14 rfl) ?_
  cases es : slN S.1.1 S.1.2.1 S.1.2.2.1 S.2.1 (wdT tx n j) with
  | some s =>
    have tk : pTk S.1.1 S.1.2.1 S.1.2.2.1 S.2.1 (wdT tx n j) := fun q => by rw [slN_no.mpr q] at es; cases es
    have u := (slN_some n1 n2 es).1
    show GW z w 3 _ 0 0 33 _ [.int (nI s)] _
    refine g_iconst (v := -1) C (gd DX3_readNewName_0 15 rfl) (by decide) ?_
    refine g_icmp_eq C 43 (gd DX3_readNewName_0 16 rfl) (by decide) (fun c34 => ?_) (fun c34 => ?_)
    · exact absurd (by first | exact c34 | exact Decidable.of_not_not c34) (nI_neg1 (by rcases u with u | u | u <;> omega))
    refine g_aload_n C (gd DX3_readNewName_0 17 rfl) 0 rfl rfl ?_
    refine g_iconst (v := 3) C (gd DX3_readNewName_0 18 rfl) (by decide) ?_
    refine g_cV0 (v := .null) (ci := 3) C [_] mX3_fail lm_TestJudge_Reader_55 (by exact hq.1.1) rfl rfl (e_r_fail hq ct h0 (k := 3) (by omega)) hfl (by first | decide | omega) (by decide) (by omega) (by omega) rfl rfl (Nat.le_of_ble_eq_true rfl) (gd DX3_readNewName_0 19 rfl) ?_
    rw [if_neg (c := cdT tx n j = 1 ∧ 3 ≠ 5) (by omega)]
    exact g_vret C (by omega) (by omega) ⟨rfl, Or.inl ⟨tk, (bdF.mk hq ct (k := 3) ⟨by omega, by omega⟩).l⟩⟩ (gd DX3_readNewName_0 20 rfl)
  | none =>
    have tk : ¬ pTk S.1.1 S.1.2.1 S.1.2.2.1 S.2.1 (wdT tx n j) := fun q => q (slN_no.mp es)
    show GW z w 3 _ 0 0 33 _ [.int (-1)] _
    refine g_iconst (v := -1) C (gd DX3_readNewName_0 15 rfl) (by decide) ?_
    refine g_icmp_eq C 43 (gd DX3_readNewName_0 16 rfl) (by decide) (fun c34 => ?_) (fun c34 => ?_)
    rotate_left
    · exact absurd rfl c34
    refine g_iload_n C (gd DX3_readNewName_0 21 rfl) 2 rfl rfl ?_
    refine g_iload_n C (gd DX3_readNewName_0 22 rfl) 1 rfl rfl ?_
    refine g_if_eq C 52 (gd DX3_readNewName_0 23 rfl) (by decide) (fun c45 => ?_) (fun c45 => ?_)
    rotate_left
    · exact absurd rfl c45
    refine g_iconst (v := 3) C (gd DX3_readNewName_0 26 rfl) (by decide) ?_
    refine g_icmp_lt C 62 (gd DX3_readNewName_0 27 rfl) (by decide) (fun c53 => ?_) (fun c53 => ?_)
    rotate_left
    · have e3 : S.1.2.1 = 3 := by
        by_cases q : S.1.2.1 = 3
        · exact q
        · exact absurd c53 (fun q2 => q2 (nI_lt (b := 3) (by omega) (by omega)))
      refine g_aload_n C (gd DX3_readNewName_0 28 rfl) 0 rfl rfl ?_
      refine g_iconst (v := 4) C (gd DX3_readNewName_0 29 rfl) (by decide) ?_
      refine g_cV0 (v := .null) (ci := 3) C [_] mX3_fail lm_TestJudge_Reader_55 (by exact hq.1.1) rfl rfl (e_r_fail hq ct h0 (k := 4) (by omega)) hfl (by first | decide | omega) (by decide) (by omega) (by omega) rfl rfl (Nat.le_of_ble_eq_true rfl) (gd DX3_readNewName_0 30 rfl) ?_
      rw [if_neg (c := cdT tx n j = 1 ∧ 4 ≠ 5) (by omega)]
      exact g_vret C (by omega) (by omega) ⟨rfl, Or.inr (Or.inl ⟨tk, e3, (bdF.mk hq ct (k := 4) ⟨by omega, by omega⟩).l⟩)⟩ (gd DX3_readNewName_0 31 rfl)
    · have e3 : S.1.2.1 ≠ 3 := fun q => by rw [q] at c53; exact absurd c53 (by decide)
      refine g_aload_n C (gd DX3_readNewName_0 32 rfl) 0 rfl rfl ?_
      refine g_getr (ci := 3) (k := 4) C rfl (by decide) rfl lf_TestJudge_Reader_25 hq.1.1 hq.1.2.2.2 (gd DX3_readNewName_0 33 rfl) ?_
      refine g_iload_n C (gd DX3_readNewName_0 34 rfl) 1 rfl rfl ?_
      refine g_if_eq C 74 (gd DX3_readNewName_0 35 rfl) (by decide) (fun c67 => ?_) (fun c67 => ?_)
      rotate_left
      · exact absurd rfl c67
      refine g_iconst (v := 3) C (gd DX3_readNewName_0 38 rfl) (by decide) ?_
      refine g_iload_n C (gd DX3_readNewName_0 39 rfl) 2 rfl rfl ?_
      refine g_iadd C (gd DX3_readNewName_0 40 rfl) ?_
      rw [show 3 + nI S.1.2.1 = nI (3 + S.1.2.1) from nx_add (a := 3) rfl rfl]
      refine g_aload_n C (gd DX3_readNewName_0 41 rfl) 0 rfl rfl ?_
      refine g_getr (ci := 3) (k := 3) C rfl (by decide) rfl lf_TestJudge_Reader_33 hq.1.1 hq.1.2.2.1 (gd DX3_readNewName_0 42 rfl) ?_
      refine g_geti (ci := 7) (k := 2) C rfl (by decide) rfl lf_TestJudge_Reader_76 hq.2.2.1.1 (gd DX3_readNewName_0 43 rfl) ?_
      rw [ct.2.2.2.2 e2]
      refine g_isj (j := (3 + S.1.2.1)) C hq.2.1.1 hq.2.1.2 (by first | decide | omega) rfl (by omega) (gd DX3_readNewName_0 44 rfl) ?_
      refine g_iload_n C (gd DX3_readNewName_0 45 rfl) 1 rfl rfl ?_
      refine g_if_eq C 105 (gd DX3_readNewName_0 46 rfl) (by decide) (fun c86 => ?_) (fun c86 => ?_)
      rotate_left
      · exact absurd rfl c86
      refine g_aload_n C (gd DX3_readNewName_0 55 rfl) 0 rfl rfl ?_
      refine g_getr (ci := 3) (k := 0) C rfl (by decide) rfl lf_TestJudge_Reader_12 hq.1.1 hq.1.2.1 (gd DX3_readNewName_0 56 rfl) ?_
      refine g_dup C (gd DX3_readNewName_0 57 rfl) rfl ?_
      refine g_geti (ci := 8) (k := 1) C rfl (by decide) rfl lf_TestJudge_Reader_73 hq.2.2.2.1.1 (gd DX3_readNewName_0 58 rfl) ?_
      rw [hI_sI, if_neg (fun x => NW x.1.symm), n5]
      refine g_iconst (v := 1) C (gd DX3_readNewName_0 59 rfl) (by decide) ?_
      refine g_iadd C (gd DX3_readNewName_1 0 rfl) ?_
      rw [show nI S.1.2.1 + 1 = nI (S.1.2.1 + 1) from nx_add (b := 1) rfl rfl]
      refine g_puti (ci := 8) (k := 1) C rfl (by decide) rfl lf_TestJudge_Reader_73 hq.2.2.2.1.1 (Or.inl rfl) rfl (gd DX3_readNewName_1 1 rfl) ?_
      obtain ⟨a1, a2⟩ : lF U W T N h (sI (sI h N (3 + S.1.2.1) (nI (wdT tx n j))) W 1 (nI (S.1.2.1 + 1))) ∧ cLn U W T N (sI (sI h N (3 + S.1.2.1) (nI (wdT tx n j))) W 1 (nI (S.1.2.1 + 1))) tx n c j ((S.1.1, S.1.2.1 + 1, S.1.2.2), updA S.2.1 (3 + S.1.2.1) (wdT tx n j), S.2.2) := cLm.name false L hnp hnf (show S.1.2.1 < 3 by omega) (wd_lt j e2)
      have hq1 := a2.1.1
      refine g_aload_n C (gd DX3_readNewName_1 2 rfl) 0 rfl rfl ?_
      refine g_getr (ci := 3) (k := 3) C rfl (by decide) rfl lf_TestJudge_Reader_33 hq1.1.1 hq1.1.2.2.1 (gd DX3_readNewName_1 3 rfl) ?_
      refine g_callV (ci := 7) C [] mX7_advance lm_TestJudge_Reader_60 (by exact hq1.2.2.1.1) rfl rfl (e_k_adv hq1.2.2.1 a2.1.2.1 hj) hfl (by first | decide | omega) (by decide) (by omega) (by omega) rfl rfl (Nat.le_of_ble_eq_true rfl) (gd DX3_readNewName_1 4 rfl) (fun r h2 hp => ?_)
      obtain ⟨rfl, b1, b2⟩ := hp
      show GW z w 3 _ _ _ _ _ [] _
      exact g_vret C (by omega) (by omega) ⟨rfl, Or.inr (Or.inr ⟨tk, e3, a1.tr b1.l, a2.t b1 b2⟩)⟩ (gd DX3_readNewName_1 5 rfl)
end L3
