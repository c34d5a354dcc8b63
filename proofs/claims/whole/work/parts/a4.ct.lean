/-! constructors -/
section CT
variable {w : gD} {h : HS}
def cX0 (a : Nat) : List Cl := (1, 0, (upd (fun _ => 0) 0 (0)), (updO (updO (updO (updO (fun _ => none) 1 (some (a + 1))) 2 (some (a + 2))) 3 (some (a + 3))) 4 (some (a + 4)))) :: (((([] ++ [zc 12 8]) ++ [zc 12 8]) ++ [zc 16 8]) ++ [zc 12 8])
theorem e_X0_init : EvF w 1 4 32 yX0_init cX0_init 1 none [.ref (hT h)] (sN h 1 0) none (hC h (hT h) (cX0 (hT h))) := by
  refine g_start (by decide) (Nat.le_of_ble_eq_true rfl) [(0, _)] rfl (fun z hfl C => ?_)
  rw [sN_hC]
  generalize hT h = a
  unfold zc
  refine g_aload_n C (gd DX0_init_0 0 rfl) 0 rfl rfl ?_
  refine g_objInit C lm_TestJudge_Deeds_3 goi goc (by decide) rfl (gd DX0_init_0 1 rfl) ?_
  refine g_aload_n C (gd DX0_init_0 2 rfl) 0 rfl rfl ?_
  refine g_iconst (v := 0) C (gd DX0_init_0 3 rfl) (by decide) ?_
  refine g_puti (ci := 0) (k := 0) C rfl (by decide) rfl lf_TestJudge_Deeds_9 hC_K0 (Or.inl rfl) rfl (gd DX0_init_0 4 rfl) ?_
  rw [hC_i]
  refine g_aload_n C (gd DX0_init_0 5 rfl) 0 rfl rfl ?_
  refine g_bipush (v := 8) C (gd DX0_init_0 6 rfl) (by decide) ?_
  refine g_newa (atype := .int) (kind := 12) (N := 8) C (by decide) (by decide +kernel) (Nat.le_of_ble_eq_true rfl) (by omega) (by omega) (by decide) (gd DX0_init_0 7 rfl) ?_
  rw [hC_Tn (n := 1) (by rfl), hC_n]
  refine g_putr (ci := 0) (k := 1) (ty := .array .int) C rfl (by decide) rfl lf_TestJudge_Deeds_15 hC_K0 (Or.inr ⟨rfl, rfl, rfl⟩) rfl rfl rfl (gd DX0_init_0 8 rfl) ?_
  rw [hC_r]
  refine g_aload_n C (gd DX0_init_0 9 rfl) 0 rfl rfl ?_
  refine g_bipush (v := 8) C (gd DX0_init_0 10 rfl) (by decide) ?_
  refine g_newa (atype := .int) (kind := 12) (N := 8) C (by decide) (by decide +kernel) (Nat.le_of_ble_eq_true rfl) (by omega) (by omega) (by decide) (gd DX0_init_0 11 rfl) ?_
  rw [hC_Tn (n := 2) (by rfl), hC_n]
  refine g_putr (ci := 0) (k := 2) (ty := .array .int) C rfl (by decide) rfl lf_TestJudge_Deeds_19 hC_K0 (Or.inr ⟨rfl, rfl, rfl⟩) rfl rfl rfl (gd DX0_init_0 12 rfl) ?_
  rw [hC_r]
  refine g_aload_n C (gd DX0_init_0 13 rfl) 0 rfl rfl ?_
  refine g_bipush (v := 8) C (gd DX0_init_0 14 rfl) (by decide) ?_
  refine g_anew (N := 8) C lc_TestJudge_Deeds_22 (by decide) (by decide +kernel) (Nat.le_of_ble_eq_true rfl) (by omega) (by omega) (gd DX0_init_0 15 rfl) ?_
  rw [hC_Tn (n := 3) (by rfl), hC_n]
  refine g_putr (ci := 0) (k := 3) (ty := .array (.object "TestJudge$Piece")) C rfl (by decide) rfl lf_TestJudge_Deeds_24 hC_K0 (Or.inr ⟨rfl, rfl, rfl⟩) rfl rfl rfl (gd DX0_init_0 16 rfl) ?_
  rw [hC_r]
  refine g_aload_n C (gd DX0_init_0 17 rfl) 0 rfl rfl ?_
  refine g_bipush (v := 8) C (gd DX0_init_0 18 rfl) (by decide) ?_
  refine g_newa (atype := .int) (kind := 12) (N := 8) C (by decide) (by decide +kernel) (Nat.le_of_ble_eq_true rfl) (by omega) (by omega) (by decide) (gd DX0_init_0 19 rfl) ?_
  rw [hC_Tn (n := 4) (by rfl), hC_n]
  refine g_putr (ci := 0) (k := 4) (ty := .array .int) C rfl (by decide) rfl lf_TestJudge_Deeds_28 hC_K0 (Or.inr ⟨rfl, rfl, rfl⟩) rfl rfl rfl (gd DX0_init_0 20 rfl) ?_
  rw [hC_r]
  exact g_vret C (by omega) (by omega) ⟨rfl, rfl⟩ (gd DX0_init_0 21 rfl)
def cX1 (a : Nat) : List Cl := (2, 0, (upd (fun _ => 0) 1 (0)), (updO (fun _ => none) 0 (some (a + 1)))) :: ([] ++ [zc 14 7620])
theorem e_X1_init : EvF w 1 1 7620 yX1_init cX1_init 1 none [.ref (hT h)] (sN h 2 0) none (hC h (hT h) (cX1 (hT h))) := by
  refine g_start (by decide) (Nat.le_of_ble_eq_true rfl) [(0, _)] rfl (fun z hfl C => ?_)
  rw [sN_hC]
  generalize hT h = a
  unfold zc
  refine g_aload_n C (gd DX1_init_0 0 rfl) 0 rfl rfl ?_
  refine g_objInit C lm_TestJudge_Paper_3 goi goc (by decide) rfl (gd DX1_init_0 1 rfl) ?_
  refine g_aload_n C (gd DX1_init_0 2 rfl) 0 rfl rfl ?_
  refine g_sipush (v := 7620) C (gd DX1_init_0 3 rfl) (by decide) ?_
  refine g_newa (atype := .byte) (kind := 14) (N := 7620) C (by decide) (by decide +kernel) (Nat.le_of_ble_eq_true rfl) (by omega) (by omega) (by decide) (gd DX1_init_0 4 rfl) ?_
  rw [hC_Tn (n := 1) (by rfl), hC_n]
  refine g_putr (ci := 1) (k := 0) (ty := .array .byte) C rfl (by decide) rfl lf_TestJudge_Paper_9 hC_K0 (Or.inr ⟨rfl, rfl, rfl⟩) rfl rfl rfl (gd DX1_init_0 5 rfl) ?_
  rw [hC_r]
  refine g_aload_n C (gd DX1_init_0 6 rfl) 0 rfl rfl ?_
  refine g_iconst (v := 0) C (gd DX1_init_0 7 rfl) (by decide) ?_
  refine g_puti (ci := 1) (k := 1) C rfl (by decide) rfl lf_TestJudge_Paper_15 hC_K0 (Or.inl rfl) rfl (gd DX1_init_0 8 rfl) ?_
  rw [hC_i]
  exact g_vret C (by omega) (by omega) ⟨rfl, rfl⟩ (gd DX1_init_0 9 rfl)
def cX4 (a : Nat) : List Cl := (5, 0, (fun _ => 0), (updO (updO (updO (fun _ => none) 0 (some (a + 1))) 1 (some (a + 2))) 2 (some (a + 3)))) :: ((([] ++ [zc 12 56]) ++ [zc 12 7]) ++ [zc 12 3])
theorem e_X4_init : EvF w 1 3 66 yX4_init cX4_init 1 none [.ref (hT h)] (sN h 5 0) none (hC h (hT h) (cX4 (hT h))) := by
  refine g_start (by decide) (Nat.le_of_ble_eq_true rfl) [(0, _)] rfl (fun z hfl C => ?_)
  rw [sN_hC]
  generalize hT h = a
  unfold zc
  refine g_aload_n C (gd DX4_init_0 0 rfl) 0 rfl rfl ?_
  refine g_objInit C lm_TestJudge_Runner_7 goi goc (by decide) rfl (gd DX4_init_0 1 rfl) ?_
  refine g_aload_n C (gd DX4_init_0 2 rfl) 0 rfl rfl ?_
  refine g_bipush (v := 56) C (gd DX4_init_0 3 rfl) (by decide) ?_
  refine g_newa (atype := .int) (kind := 12) (N := 56) C (by decide) (by decide +kernel) (Nat.le_of_ble_eq_true rfl) (by omega) (by omega) (by decide) (gd DX4_init_0 4 rfl) ?_
  rw [hC_Tn (n := 1) (by rfl), hC_n]
  refine g_putr (ci := 4) (k := 0) (ty := .array .int) C rfl (by decide) rfl lf_TestJudge_Runner_13 hC_K0 (Or.inr ⟨rfl, rfl, rfl⟩) rfl rfl rfl (gd DX4_init_0 5 rfl) ?_
  rw [hC_r]
  refine g_aload_n C (gd DX4_init_0 6 rfl) 0 rfl rfl ?_
  refine g_bipush (v := 7) C (gd DX4_init_0 7 rfl) (by decide) ?_
  refine g_newa (atype := .int) (kind := 12) (N := 7) C (by decide) (by decide +kernel) (Nat.le_of_ble_eq_true rfl) (by omega) (by omega) (by decide) (gd DX4_init_0 8 rfl) ?_
  rw [hC_Tn (n := 2) (by rfl), hC_n]
  refine g_putr (ci := 4) (k := 1) (ty := .array .int) C rfl (by decide) rfl lf_TestJudge_Runner_17 hC_K0 (Or.inr ⟨rfl, rfl, rfl⟩) rfl rfl rfl (gd DX4_init_0 9 rfl) ?_
  rw [hC_r]
  refine g_aload_n C (gd DX4_init_0 10 rfl) 0 rfl rfl ?_
  refine g_iconst (v := 3) C (gd DX4_init_0 11 rfl) (by decide) ?_
  refine g_newa (atype := .int) (kind := 12) (N := 3) C (by decide) (by decide +kernel) (Nat.le_of_ble_eq_true rfl) (by omega) (by omega) (by decide) (gd DX4_init_0 12 rfl) ?_
  rw [hC_Tn (n := 3) (by rfl), hC_n]
  refine g_putr (ci := 4) (k := 2) (ty := .array .int) C rfl (by decide) rfl lf_TestJudge_Runner_20 hC_K0 (Or.inr ⟨rfl, rfl, rfl⟩) rfl rfl rfl (gd DX4_init_0 13 rfl) ?_
  rw [hC_r]
  exact g_vret C (by omega) (by omega) ⟨rfl, rfl⟩ (gd DX4_init_0 14 rfl)
def cX7 (a : Nat) : List Cl := (8, 0, (upd (upd (upd (upd (upd (fun _ => 0) 0 (0)) 1 (0)) 2 (0)) 3 (0)) 4 (0)), (updO (updO (updO (fun _ => none) 5 (some (a + 1))) 6 (some (a + 2))) 7 (some (a + 3)))) :: ((([] ++ [zc 12 501]) ++ [zc 12 501]) ++ [zc 12 501])
theorem e_X7_init : EvF w 1 3 1503 yX7_init cX7_init 1 none [.ref (hT h)] (sN h 8 0) none (hC h (hT h) (cX7 (hT h))) := by
  refine g_start (by decide) (Nat.le_of_ble_eq_true rfl) [(0, _)] rfl (fun z hfl C => ?_)
  rw [sN_hC]
  generalize hT h = a
  unfold zc
  refine g_aload_n C (gd DX7_init_0 0 rfl) 0 rfl rfl ?_
  refine g_objInit C lm_TestJudge_Tokens_3 goi goc (by decide) rfl (gd DX7_init_0 1 rfl) ?_
  refine g_aload_n C (gd DX7_init_0 2 rfl) 0 rfl rfl ?_
  refine g_iconst (v := 0) C (gd DX7_init_0 3 rfl) (by decide) ?_
  refine g_puti (ci := 7) (k := 0) C rfl (by decide) rfl lf_TestJudge_Tokens_9 hC_K0 (Or.inl rfl) rfl (gd DX7_init_0 4 rfl) ?_
  rw [hC_i]
  refine g_aload_n C (gd DX7_init_0 5 rfl) 0 rfl rfl ?_
  refine g_iconst (v := 0) C (gd DX7_init_0 6 rfl) (by decide) ?_
  refine g_puti (ci := 7) (k := 1) C rfl (by decide) rfl lf_TestJudge_Tokens_15 hC_K0 (Or.inl rfl) rfl (gd DX7_init_0 7 rfl) ?_
  rw [hC_i]
  refine g_aload_n C (gd DX7_init_0 8 rfl) 0 rfl rfl ?_
  refine g_iconst (v := 0) C (gd DX7_init_0 9 rfl) (by decide) ?_
  refine g_puti (ci := 7) (k := 2) C rfl (by decide) rfl lf_TestJudge_Tokens_18 hC_K0 (Or.inl rfl) rfl (gd DX7_init_0 10 rfl) ?_
  rw [hC_i]
  refine g_aload_n C (gd DX7_init_0 11 rfl) 0 rfl rfl ?_
  refine g_iconst (v := 0) C (gd DX7_init_0 12 rfl) (by decide) ?_
  refine g_puti (ci := 7) (k := 3) C rfl (by decide) rfl lf_TestJudge_Tokens_21 hC_K0 (Or.inl rfl) rfl (gd DX7_init_0 13 rfl) ?_
  rw [hC_i]
  refine g_aload_n C (gd DX7_init_0 14 rfl) 0 rfl rfl ?_
  refine g_iconst (v := 0) C (gd DX7_init_0 15 rfl) (by decide) ?_
  refine g_puti (ci := 7) (k := 4) C rfl (by decide) rfl lf_TestJudge_Tokens_24 hC_K0 (Or.inl rfl) rfl (gd DX7_init_0 16 rfl) ?_
  rw [hC_i]
  refine g_aload_n C (gd DX7_init_0 17 rfl) 0 rfl rfl ?_
  refine g_sipush (v := 501) C (gd DX7_init_0 18 rfl) (by decide) ?_
  refine g_newa (atype := .int) (kind := 12) (N := 501) C (by decide) (by decide +kernel) (Nat.le_of_ble_eq_true rfl) (by omega) (by omega) (by decide) (gd DX7_init_0 19 rfl) ?_
  rw [hC_Tn (n := 1) (by rfl), hC_n]
  refine g_putr (ci := 7) (k := 5) (ty := .array .int) C rfl (by decide) rfl lf_TestJudge_Tokens_27 hC_K0 (Or.inr ⟨rfl, rfl, rfl⟩) rfl rfl rfl (gd DX7_init_0 20 rfl) ?_
  rw [hC_r]
  refine g_aload_n C (gd DX7_init_0 21 rfl) 0 rfl rfl ?_
  refine g_sipush (v := 501) C (gd DX7_init_0 22 rfl) (by decide) ?_
  refine g_newa (atype := .int) (kind := 12) (N := 501) C (by decide) (by decide +kernel) (Nat.le_of_ble_eq_true rfl) (by omega) (by omega) (by decide) (gd DX7_init_0 23 rfl) ?_
  rw [hC_Tn (n := 2) (by rfl), hC_n]
  refine g_putr (ci := 7) (k := 6) (ty := .array .int) C rfl (by decide) rfl lf_TestJudge_Tokens_31 hC_K0 (Or.inr ⟨rfl, rfl, rfl⟩) rfl rfl rfl (gd DX7_init_0 24 rfl) ?_
  rw [hC_r]
  refine g_aload_n C (gd DX7_init_0 25 rfl) 0 rfl rfl ?_
  refine g_sipush (v := 501) C (gd DX7_init_0 26 rfl) (by decide) ?_
  refine g_newa (atype := .int) (kind := 12) (N := 501) C (by decide) (by decide +kernel) (Nat.le_of_ble_eq_true rfl) (by omega) (by omega) (by decide) (gd DX7_init_0 27 rfl) ?_
  rw [hC_Tn (n := 3) (by rfl), hC_n]
  refine g_putr (ci := 7) (k := 7) (ty := .array .int) C rfl (by decide) rfl lf_TestJudge_Tokens_34 hC_K0 (Or.inr ⟨rfl, rfl, rfl⟩) rfl rfl rfl (gd DX7_init_0 28 rfl) ?_
  rw [hC_r]
  exact g_vret C (by omega) (by omega) ⟨rfl, rfl⟩ (gd DX7_init_0 29 rfl)
def cX6 (a : Nat) : List Cl := (7, 0, (upd (upd (upd (fun _ => 0) 0 (0)) 6 (0)) 7 (0)), (updO (updO (updO (updO (updO (updO (updO (updO (updO (updO (updO (fun _ => none) 1 (some (a + 1))) 2 (some (a + 2))) 3 (some (a + 3))) 4 (some (a + 4))) 5 (none)) 8 (some (a + 5))) 9 (some (a + 6))) 10 (some (a + 7))) 11 (some (a + 8))) 12 (some (a + 9))) 13 (some (a + 10)))) :: (((((((((([] ++ [zc 12 125]) ++ [zc 12 125]) ++ [zc 12 3000]) ++ [zc 12 125]) ++ [zc 12 125]) ++ [zc 12 3000]) ++ [zc 12 125]) ++ [zc 12 125]) ++ [zc 12 125]) ++ [zc 12 125])
theorem e_X6_init : EvF w 1 10 7000 yX6_init cX6_init 1 none [.ref (hT h)] (sN h 7 0) none (hC h (hT h) (cX6 (hT h))) := by
  refine g_start (by decide) (Nat.le_of_ble_eq_true rfl) [(0, _)] rfl (fun z hfl C => ?_)
  rw [sN_hC]
  generalize hT h = a
  unfold zc
  refine g_aload_n C (gd DX6_init_0 0 rfl) 0 rfl rfl ?_
  refine g_objInit C lm_TestJudge_Table_3 goi goc (by decide) rfl (gd DX6_init_0 1 rfl) ?_
  refine g_aload_n C (gd DX6_init_0 2 rfl) 0 rfl rfl ?_
  refine g_iconst (v := 0) C (gd DX6_init_0 3 rfl) (by decide) ?_
  refine g_puti (ci := 6) (k := 0) C rfl (by decide) rfl lf_TestJudge_Table_9 hC_K0 (Or.inl rfl) rfl (gd DX6_init_0 4 rfl) ?_
  rw [hC_i]
  refine g_aload_n C (gd DX6_init_0 5 rfl) 0 rfl rfl ?_
  refine g_bipush (v := 125) C (gd DX6_init_0 6 rfl) (by decide) ?_
  refine g_newa (atype := .int) (kind := 12) (N := 125) C (by decide) (by decide +kernel) (Nat.le_of_ble_eq_true rfl) (by omega) (by omega) (by decide) (gd DX6_init_0 7 rfl) ?_
  rw [hC_Tn (n := 1) (by rfl), hC_n]
  refine g_putr (ci := 6) (k := 1) (ty := .array .int) C rfl (by decide) rfl lf_TestJudge_Table_15 hC_K0 (Or.inr ⟨rfl, rfl, rfl⟩) rfl rfl rfl (gd DX6_init_0 8 rfl) ?_
  rw [hC_r]
  refine g_aload_n C (gd DX6_init_0 9 rfl) 0 rfl rfl ?_
  refine g_bipush (v := 125) C (gd DX6_init_0 10 rfl) (by decide) ?_
  refine g_newa (atype := .int) (kind := 12) (N := 125) C (by decide) (by decide +kernel) (Nat.le_of_ble_eq_true rfl) (by omega) (by omega) (by decide) (gd DX6_init_0 11 rfl) ?_
  rw [hC_Tn (n := 2) (by rfl), hC_n]
  refine g_putr (ci := 6) (k := 2) (ty := .array .int) C rfl (by decide) rfl lf_TestJudge_Table_19 hC_K0 (Or.inr ⟨rfl, rfl, rfl⟩) rfl rfl rfl (gd DX6_init_0 12 rfl) ?_
  rw [hC_r]
  refine g_aload_n C (gd DX6_init_0 13 rfl) 0 rfl rfl ?_
  refine g_sipush (v := 3000) C (gd DX6_init_0 14 rfl) (by decide) ?_
  refine g_newa (atype := .int) (kind := 12) (N := 3000) C (by decide) (by decide +kernel) (Nat.le_of_ble_eq_true rfl) (by omega) (by omega) (by decide) (gd DX6_init_0 15 rfl) ?_
  rw [hC_Tn (n := 3) (by rfl), hC_n]
  refine g_putr (ci := 6) (k := 3) (ty := .array .int) C rfl (by decide) rfl lf_TestJudge_Table_22 hC_K0 (Or.inr ⟨rfl, rfl, rfl⟩) rfl rfl rfl (gd DX6_init_0 16 rfl) ?_
  rw [hC_r]
  refine g_aload_n C (gd DX6_init_0 17 rfl) 0 rfl rfl ?_
  refine g_bipush (v := 125) C (gd DX6_init_0 18 rfl) (by decide) ?_
  refine g_newa (atype := .int) (kind := 12) (N := 125) C (by decide) (by decide +kernel) (Nat.le_of_ble_eq_true rfl) (by omega) (by omega) (by decide) (gd DX6_init_0 19 rfl) ?_
  rw [hC_Tn (n := 4) (by rfl), hC_n]
  refine g_putr (ci := 6) (k := 4) (ty := .array .int) C rfl (by decide) rfl lf_TestJudge_Table_25 hC_K0 (Or.inr ⟨rfl, rfl, rfl⟩) rfl rfl rfl (gd DX6_init_0 20 rfl) ?_
  rw [hC_r]
  refine g_aload_n C (gd DX6_init_0 21 rfl) 0 rfl rfl ?_
  refine g_null C (gd DX6_init_0 22 rfl) ?_
  refine g_putn (ci := 6) (k := 5) (ty := .object "TestJudge$Piece") C rfl (by decide) rfl lf_TestJudge_Table_28 hC_K0 (Or.inl rfl) rfl rfl rfl (gd DX6_init_0 23 rfl) ?_
  rw [hC_r]
  refine g_aload_n C (gd DX6_init_0 24 rfl) 0 rfl rfl ?_
  refine g_iconst (v := 0) C (gd DX6_init_0 25 rfl) (by decide) ?_
  refine g_puti (ci := 6) (k := 6) C rfl (by decide) rfl lf_TestJudge_Table_32 hC_K0 (Or.inl rfl) rfl (gd DX6_init_0 26 rfl) ?_
  rw [hC_i]
  refine g_aload_n C (gd DX6_init_0 27 rfl) 0 rfl rfl ?_
  refine g_iconst (v := 0) C (gd DX6_init_0 28 rfl) (by decide) ?_
  refine g_puti (ci := 6) (k := 7) C rfl (by decide) rfl lf_TestJudge_Table_35 hC_K0 (Or.inl rfl) rfl (gd DX6_init_0 29 rfl) ?_
  rw [hC_i]
  refine g_aload_n C (gd DX6_init_0 30 rfl) 0 rfl rfl ?_
  refine g_bipush (v := 125) C (gd DX6_init_0 31 rfl) (by decide) ?_
  refine g_newa (atype := .int) (kind := 12) (N := 125) C (by decide) (by decide +kernel) (Nat.le_of_ble_eq_true rfl) (by omega) (by omega) (by decide) (gd DX6_init_0 32 rfl) ?_
  rw [hC_Tn (n := 5) (by rfl), hC_n]
  refine g_putr (ci := 6) (k := 8) (ty := .array .int) C rfl (by decide) rfl lf_TestJudge_Table_38 hC_K0 (Or.inr ⟨rfl, rfl, rfl⟩) rfl rfl rfl (gd DX6_init_0 33 rfl) ?_
  rw [hC_r]
  refine g_aload_n C (gd DX6_init_0 34 rfl) 0 rfl rfl ?_
  refine g_sipush (v := 3000) C (gd DX6_init_0 35 rfl) (by decide) ?_
  refine g_newa (atype := .int) (kind := 12) (N := 3000) C (by decide) (by decide +kernel) (Nat.le_of_ble_eq_true rfl) (by omega) (by omega) (by decide) (gd DX6_init_0 36 rfl) ?_
  rw [hC_Tn (n := 6) (by rfl), hC_n]
  refine g_putr (ci := 6) (k := 9) (ty := .array .int) C rfl (by decide) rfl lf_TestJudge_Table_41 hC_K0 (Or.inr ⟨rfl, rfl, rfl⟩) rfl rfl rfl (gd DX6_init_0 37 rfl) ?_
  rw [hC_r]
  refine g_aload_n C (gd DX6_init_0 38 rfl) 0 rfl rfl ?_
  refine g_bipush (v := 125) C (gd DX6_init_0 39 rfl) (by decide) ?_
  refine g_newa (atype := .int) (kind := 12) (N := 125) C (by decide) (by decide +kernel) (Nat.le_of_ble_eq_true rfl) (by omega) (by omega) (by decide) (gd DX6_init_0 40 rfl) ?_
  rw [hC_Tn (n := 7) (by rfl), hC_n]
  refine g_putr (ci := 6) (k := 10) (ty := .array .int) C rfl (by decide) rfl lf_TestJudge_Table_44 hC_K0 (Or.inr ⟨rfl, rfl, rfl⟩) rfl rfl rfl (gd DX6_init_0 41 rfl) ?_
  rw [hC_r]
  refine g_aload_n C (gd DX6_init_0 42 rfl) 0 rfl rfl ?_
  refine g_bipush (v := 125) C (gd DX6_init_0 43 rfl) (by decide) ?_
  refine g_newa (atype := .int) (kind := 12) (N := 125) C (by decide) (by decide +kernel) (Nat.le_of_ble_eq_true rfl) (by omega) (by omega) (by decide) (gd DX6_init_0 44 rfl) ?_
  rw [hC_Tn (n := 8) (by rfl), hC_n]
  refine g_putr (ci := 6) (k := 11) (ty := .array .int) C rfl (by decide) rfl lf_TestJudge_Table_47 hC_K0 (Or.inr ⟨rfl, rfl, rfl⟩) rfl rfl rfl (gd DX6_init_0 45 rfl) ?_
  rw [hC_r]
  refine g_aload_n C (gd DX6_init_0 46 rfl) 0 rfl rfl ?_
  refine g_bipush (v := 125) C (gd DX6_init_0 47 rfl) (by decide) ?_
  refine g_newa (atype := .int) (kind := 12) (N := 125) C (by decide) (by decide +kernel) (Nat.le_of_ble_eq_true rfl) (by omega) (by omega) (by decide) (gd DX6_init_0 48 rfl) ?_
  rw [hC_Tn (n := 9) (by rfl), hC_n]
  refine g_putr (ci := 6) (k := 12) (ty := .array .int) C rfl (by decide) rfl lf_TestJudge_Table_50 hC_K0 (Or.inr ⟨rfl, rfl, rfl⟩) rfl rfl rfl (gd DX6_init_0 49 rfl) ?_
  rw [hC_r]
  refine g_aload_n C (gd DX6_init_0 50 rfl) 0 rfl rfl ?_
  refine g_bipush (v := 125) C (gd DX6_init_0 51 rfl) (by decide) ?_
  refine g_newa (atype := .int) (kind := 12) (N := 125) C (by decide) (by decide +kernel) (Nat.le_of_ble_eq_true rfl) (by omega) (by omega) (by decide) (gd DX6_init_0 52 rfl) ?_
  rw [hC_Tn (n := 10) (by rfl), hC_n]
  refine g_putr (ci := 6) (k := 13) (ty := .array .int) C rfl (by decide) rfl lf_TestJudge_Table_53 hC_K0 (Or.inr ⟨rfl, rfl, rfl⟩) rfl rfl rfl (gd DX6_init_0 53 rfl) ?_
  rw [hC_r]
  exact g_vret C (by omega) (by omega) ⟨rfl, rfl⟩ (gd DX6_init_0 54 rfl)
def cX8 (a : Nat) (np : Nat) : List Cl := (9, 0, (upd (upd (upd (upd (upd (fun _ => 0) 0 (0)) 1 (0)) 2 (0)) 3 (0)) 4 (0)), (updO (updO (updO (updO (updO (fun _ => none) 5 (some (a + 1))) 6 (some (a + 2))) 7 (some (a + 3))) 8 (some (a + 4))) 9 (some (a + 5)))) :: ((((([] ++ [zc 16 8]) ++ [zc 12 8]) ++ [zc 16 2]) ++ [zc 16 4]) ++ [(3, 0, pcI 0 0 0, pcR4 np np np np)])
theorem e_X8_init : EvF w 2 9 83 yX8_init cX8_init 1 none [.ref (hT h)] (sN h 9 0) none (hC h (hT h) (cX8 (hT h) w.2.2.2)) := by
  refine g_start (by decide) (Nat.le_of_ble_eq_true rfl) [(0, _)] rfl (fun z hfl C => ?_)
  rw [sN_hC]
  generalize hT h = a
  unfold zc
  refine g_aload_n C (gd DX8_init_0 0 rfl) 0 rfl rfl ?_
  refine g_objInit C lm_TestJudge_World_3 goi goc (by decide) rfl (gd DX8_init_0 1 rfl) ?_
  refine g_aload_n C (gd DX8_init_0 2 rfl) 0 rfl rfl ?_
  refine g_iconst (v := 0) C (gd DX8_init_0 3 rfl) (by decide) ?_
  refine g_puti (ci := 8) (k := 0) C rfl (by decide) rfl lf_TestJudge_World_9 hC_K0 (Or.inl rfl) rfl (gd DX8_init_0 4 rfl) ?_
  rw [hC_i]
  refine g_aload_n C (gd DX8_init_0 5 rfl) 0 rfl rfl ?_
  refine g_iconst (v := 0) C (gd DX8_init_0 6 rfl) (by decide) ?_
  refine g_puti (ci := 8) (k := 1) C rfl (by decide) rfl lf_TestJudge_World_15 hC_K0 (Or.inl rfl) rfl (gd DX8_init_0 7 rfl) ?_
  rw [hC_i]
  refine g_aload_n C (gd DX8_init_0 8 rfl) 0 rfl rfl ?_
  refine g_iconst (v := 0) C (gd DX8_init_0 9 rfl) (by decide) ?_
  refine g_puti (ci := 8) (k := 2) C rfl (by decide) rfl lf_TestJudge_World_18 hC_K0 (Or.inl rfl) rfl (gd DX8_init_0 10 rfl) ?_
  rw [hC_i]
  refine g_aload_n C (gd DX8_init_0 11 rfl) 0 rfl rfl ?_
  refine g_iconst (v := 0) C (gd DX8_init_0 12 rfl) (by decide) ?_
  refine g_puti (ci := 8) (k := 3) C rfl (by decide) rfl lf_TestJudge_World_21 hC_K0 (Or.inl rfl) rfl (gd DX8_init_0 13 rfl) ?_
  rw [hC_i]
  refine g_aload_n C (gd DX8_init_0 14 rfl) 0 rfl rfl ?_
  refine g_iconst (v := 0) C (gd DX8_init_0 15 rfl) (by decide) ?_
  refine g_puti (ci := 8) (k := 4) C rfl (by decide) rfl lf_TestJudge_World_24 hC_K0 (Or.inl rfl) rfl (gd DX8_init_0 16 rfl) ?_
  rw [hC_i]
  refine g_aload_n C (gd DX8_init_0 17 rfl) 0 rfl rfl ?_
  refine g_bipush (v := 8) C (gd DX8_init_0 18 rfl) (by decide) ?_
  refine g_anew (N := 8) C lc_TestJudge_World_27 (by decide) (by decide +kernel) (Nat.le_of_ble_eq_true rfl) (by omega) (by omega) (gd DX8_init_0 19 rfl) ?_
  rw [hC_Tn (n := 1) (by rfl), hC_n]
  refine g_putr (ci := 8) (k := 5) (ty := .array (.object "TestJudge$Piece")) C rfl (by decide) rfl lf_TestJudge_World_29 hC_K0 (Or.inr ⟨rfl, rfl, rfl⟩) rfl rfl rfl (gd DX8_init_0 20 rfl) ?_
  rw [hC_r]
  refine g_aload_n C (gd DX8_init_0 21 rfl) 0 rfl rfl ?_
  refine g_bipush (v := 8) C (gd DX8_init_0 22 rfl) (by decide) ?_
  refine g_newa (atype := .int) (kind := 12) (N := 8) C (by decide) (by decide +kernel) (Nat.le_of_ble_eq_true rfl) (by omega) (by omega) (by decide) (gd DX8_init_0 23 rfl) ?_
  rw [hC_Tn (n := 2) (by rfl), hC_n]
  refine g_putr (ci := 8) (k := 6) (ty := .array .int) C rfl (by decide) rfl lf_TestJudge_World_33 hC_K0 (Or.inr ⟨rfl, rfl, rfl⟩) rfl rfl rfl (gd DX8_init_0 24 rfl) ?_
  rw [hC_r]
  refine g_aload_n C (gd DX8_init_0 25 rfl) 0 rfl rfl ?_
  refine g_iconst (v := 2) C (gd DX8_init_0 26 rfl) (by decide) ?_
  refine g_anew (N := 2) C lc_TestJudge_World_27 (by decide) (by decide +kernel) (Nat.le_of_ble_eq_true rfl) (by omega) (by omega) (gd DX8_init_0 27 rfl) ?_
  rw [hC_Tn (n := 3) (by rfl), hC_n]
  refine g_putr (ci := 8) (k := 7) (ty := .array (.object "TestJudge$Piece")) C rfl (by decide) rfl lf_TestJudge_World_37 hC_K0 (Or.inr ⟨rfl, rfl, rfl⟩) rfl rfl rfl (gd DX8_init_0 28 rfl) ?_
  rw [hC_r]
  refine g_aload_n C (gd DX8_init_0 29 rfl) 0 rfl rfl ?_
  refine g_iconst (v := 4) C (gd DX8_init_0 30 rfl) (by decide) ?_
  refine g_anew (N := 4) C lc_TestJudge_World_27 (by decide) (by decide +kernel) (Nat.le_of_ble_eq_true rfl) (by omega) (by omega) (gd DX8_init_0 31 rfl) ?_
  rw [hC_Tn (n := 4) (by rfl), hC_n]
  refine g_putr (ci := 8) (k := 8) (ty := .array (.object "TestJudge$Piece")) C rfl (by decide) rfl lf_TestJudge_World_40 hC_K0 (Or.inr ⟨rfl, rfl, rfl⟩) rfl rfl rfl (gd DX8_init_0 32 rfl) ?_
  rw [hC_r]
  refine g_aload_n C (gd DX8_init_0 33 rfl) 0 rfl rfl ?_
  refine g_new (ci := 2) C rfl lc_TestJudge_World_27 lI_TestJudge_Piece li_TestJudge_Piece (by decide) (by decide) (gd DX8_init_0 34 rfl) (gdv2) ?_
  refine g_dup C (gd DX8_init_0 35 rfl) rfl ?_
  refine g_iconst (v := 0) C (gd DX8_init_0 36 rfl) (by decide) ?_
  refine g_iconst (v := 0) C (gd DX8_init_0 37 rfl) (by decide) ?_
  refine g_cI C [_, _] mX2_init lm_TestJudge_World_43 (e_pc_init 0 (by omega) _) hfl (by first | decide | omega) (by decide) (by omega) (by omega) rfl rfl (Nat.le_of_ble_eq_true rfl) (gd DX8_init_0 38 rfl) ?_
  rw [pcF_hC, hC_Tn (n := 5) (by rfl), hC_c (n := 5) (by rfl)]
  refine g_putr (ci := 8) (k := 9) (ty := .object "TestJudge$Piece") C rfl (by decide) rfl lf_TestJudge_World_46 hC_K0 (Or.inr ⟨rfl, rfl, rfl⟩) rfl rfl rfl (gd DX8_init_0 39 rfl) ?_
  rw [hC_r]
  exact g_vret C (by omega) (by omega) ⟨rfl, rfl⟩ (gd DX8_init_0 40 rfl)
def cX5 (a : Nat) : List Cl := (6, 0, (upd (upd (upd (upd (upd (upd (upd (upd (upd (upd (upd (fun _ => 0) 0 (0)) 1 (0)) 3 (0)) 7 (0)) 8 (0)) 9 (0)) 10 (0)) 11 (0)) 12 (0)) 13 (0)) 14 (0)), (updO (updO (updO (updO (updO (updO (updO (updO (updO (fun _ => none) 2 (some (a + 1))) 4 (some (a + 2))) 5 (some (a + 6))) 6 (some (a + 10))) 15 (some (a + 14))) 16 (some (a + 15))) 17 (some (a + 16))) 18 (some (a + 17))) 19 (some (a + 18)))) :: ((((((((([] ++ [zc 12 24]) ++ (cX4 (a + 2))) ++ (cX4 (a + 6))) ++ (cX4 (a + 10))) ++ [zc 12 16385]) ++ [zc 12 16385]) ++ [zc 12 16385]) ++ [zc 13 3845]) ++ [zc 13 3845])
theorem e_X5_init : EvF w 2 18 57076 yX5_init cX5_init 1 none [.ref (hT h)] (sN h 6 0) none (hC h (hT h) (cX5 (hT h))) := by
  refine g_start (by decide) (Nat.le_of_ble_eq_true rfl) [(0, _)] rfl (fun z hfl C => ?_)
  rw [sN_hC]
  generalize hT h = a
  unfold zc
  refine g_aload_n C (gd DX5_init_0 0 rfl) 0 rfl rfl ?_
  refine g_objInit C lm_TestJudge_Search_7 goi goc (by decide) rfl (gd DX5_init_0 1 rfl) ?_
  refine g_aload_n C (gd DX5_init_0 2 rfl) 0 rfl rfl ?_
  refine g_iconst (v := 0) C (gd DX5_init_0 3 rfl) (by decide) ?_
  refine g_puti (ci := 5) (k := 0) C rfl (by decide) rfl lf_TestJudge_Search_13 hC_K0 (Or.inl rfl) rfl (gd DX5_init_0 4 rfl) ?_
  rw [hC_i]
  refine g_aload_n C (gd DX5_init_0 5 rfl) 0 rfl rfl ?_
  refine g_iconst (v := 0) C (gd DX5_init_0 6 rfl) (by decide) ?_
  refine g_puti (ci := 5) (k := 1) C rfl (by decide) rfl lf_TestJudge_Search_17 hC_K0 (Or.inl rfl) rfl (gd DX5_init_0 7 rfl) ?_
  rw [hC_i]
  refine g_aload_n C (gd DX5_init_0 8 rfl) 0 rfl rfl ?_
  refine g_bipush (v := 24) C (gd DX5_init_0 9 rfl) (by decide) ?_
  refine g_newa (atype := .int) (kind := 12) (N := 24) C (by decide) (by decide +kernel) (Nat.le_of_ble_eq_true rfl) (by omega) (by omega) (by decide) (gd DX5_init_0 10 rfl) ?_
  rw [hC_Tn (n := 1) (by rfl), hC_n]
  refine g_putr (ci := 5) (k := 2) (ty := .array .int) C rfl (by decide) rfl lf_TestJudge_Search_20 hC_K0 (Or.inr ⟨rfl, rfl, rfl⟩) rfl rfl rfl (gd DX5_init_0 11 rfl) ?_
  rw [hC_r]
  refine g_aload_n C (gd DX5_init_0 12 rfl) 0 rfl rfl ?_
  refine g_iconst (v := 0) C (gd DX5_init_0 13 rfl) (by decide) ?_
  refine g_puti (ci := 5) (k := 3) C rfl (by decide) rfl lf_TestJudge_Search_24 hC_K0 (Or.inl rfl) rfl (gd DX5_init_0 14 rfl) ?_
  rw [hC_i]
  refine g_aload_n C (gd DX5_init_0 15 rfl) 0 rfl rfl ?_
  refine g_new (ci := 4) C rfl lc_TestJudge_Search_1 lI_TestJudge_Runner li_TestJudge_Runner (by decide) (by decide) (gd DX5_init_0 16 rfl) (gdv4) ?_
  refine g_dup C (gd DX5_init_0 17 rfl) rfl ?_
  refine g_cIN C [] mX4_init (List.mem_of_getElem? (i := 4) rfl) e_X4_init hfl (by first | decide | omega) (by decide) (by omega) (by omega) rfl rfl (Nat.le_of_ble_eq_true rfl) (gd DX5_init_0 18 rfl) ?_
  rw [hC_Tn (n := 2) (by rfl), hC_c (n := 2) (by rfl)]
  refine g_putr (ci := 5) (k := 4) (ty := .object "TestJudge$Runner") C rfl (by decide) rfl lf_TestJudge_Search_28 hC_K0 (Or.inr ⟨rfl, rfl, rfl⟩) rfl rfl rfl (gd DX5_init_0 19 rfl) ?_
  rw [hC_r]
  refine g_aload_n C (gd DX5_init_0 20 rfl) 0 rfl rfl ?_
  refine g_new (ci := 4) C rfl lc_TestJudge_Search_1 lI_TestJudge_Runner li_TestJudge_Runner (by decide) (by decide) (gd DX5_init_0 21 rfl) (gdv4) ?_
  refine g_dup C (gd DX5_init_0 22 rfl) rfl ?_
  refine g_cIN C [] mX4_init (List.mem_of_getElem? (i := 4) rfl) e_X4_init hfl (by first | decide | omega) (by decide) (by omega) (by omega) rfl rfl (Nat.le_of_ble_eq_true rfl) (gd DX5_init_0 23 rfl) ?_
  rw [hC_Tn (n := 6) (by rfl), hC_c (n := 6) (by rfl)]
  refine g_putr (ci := 5) (k := 5) (ty := .object "TestJudge$Runner") C rfl (by decide) rfl lf_TestJudge_Search_32 hC_K0 (Or.inr ⟨rfl, rfl, rfl⟩) rfl rfl rfl (gd DX5_init_0 24 rfl) ?_
  rw [hC_r]
  refine g_aload_n C (gd DX5_init_0 25 rfl) 0 rfl rfl ?_
  refine g_new (ci := 4) C rfl lc_TestJudge_Search_1 lI_TestJudge_Runner li_TestJudge_Runner (by decide) (by decide) (gd DX5_init_0 26 rfl) (gdv4) ?_
  refine g_dup C (gd DX5_init_0 27 rfl) rfl ?_
  refine g_cIN C [] mX4_init (List.mem_of_getElem? (i := 4) rfl) e_X4_init hfl (by first | decide | omega) (by decide) (by omega) (by omega) rfl rfl (Nat.le_of_ble_eq_true rfl) (gd DX5_init_0 28 rfl) ?_
  rw [hC_Tn (n := 10) (by rfl), hC_c (n := 10) (by rfl)]
  refine g_putr (ci := 5) (k := 6) (ty := .object "TestJudge$Runner") C rfl (by decide) rfl lf_TestJudge_Search_35 hC_K0 (Or.inr ⟨rfl, rfl, rfl⟩) rfl rfl rfl (gd DX5_init_0 29 rfl) ?_
  rw [hC_r]
  refine g_aload_n C (gd DX5_init_0 30 rfl) 0 rfl rfl ?_
  refine g_iconst (v := 0) C (gd DX5_init_0 31 rfl) (by decide) ?_
  refine g_puti (ci := 5) (k := 7) C rfl (by decide) rfl lf_TestJudge_Search_38 hC_K0 (Or.inl rfl) rfl (gd DX5_init_0 32 rfl) ?_
  rw [hC_i]
  refine g_aload_n C (gd DX5_init_0 33 rfl) 0 rfl rfl ?_
  refine g_iconst (v := 0) C (gd DX5_init_0 34 rfl) (by decide) ?_
  refine g_puti (ci := 5) (k := 8) C rfl (by decide) rfl lf_TestJudge_Search_41 hC_K0 (Or.inl rfl) rfl (gd DX5_init_0 35 rfl) ?_
  rw [hC_i]
  refine g_aload_n C (gd DX5_init_0 36 rfl) 0 rfl rfl ?_
  refine g_iconst (v := 0) C (gd DX5_init_0 37 rfl) (by decide) ?_
  refine g_puti (ci := 5) (k := 9) C rfl (by decide) rfl lf_TestJudge_Search_44 hC_K0 (Or.inl rfl) rfl (gd DX5_init_0 38 rfl) ?_
  rw [hC_i]
  refine g_aload_n C (gd DX5_init_0 39 rfl) 0 rfl rfl ?_
  refine g_iconst (v := 0) C (gd DX5_init_0 40 rfl) (by decide) ?_
  refine g_puti (ci := 5) (k := 10) C rfl (by decide) rfl lf_TestJudge_Search_47 hC_K0 (Or.inl rfl) rfl (gd DX5_init_0 41 rfl) ?_
  rw [hC_i]
  refine g_aload_n C (gd DX5_init_0 42 rfl) 0 rfl rfl ?_
  refine g_iconst (v := 0) C (gd DX5_init_0 43 rfl) (by decide) ?_
  refine g_puti (ci := 5) (k := 11) C rfl (by decide) rfl lf_TestJudge_Search_50 hC_K0 (Or.inl rfl) rfl (gd DX5_init_0 44 rfl) ?_
  rw [hC_i]
  refine g_aload_n C (gd DX5_init_0 45 rfl) 0 rfl rfl ?_
  refine g_iconst (v := 0) C (gd DX5_init_0 46 rfl) (by decide) ?_
  refine g_puti (ci := 5) (k := 12) C rfl (by decide) rfl lf_TestJudge_Search_53 hC_K0 (Or.inl rfl) rfl (gd DX5_init_0 47 rfl) ?_
  rw [hC_i]
  refine g_aload_n C (gd DX5_init_0 48 rfl) 0 rfl rfl ?_
  refine g_iconst (v := 0) C (gd DX5_init_0 49 rfl) (by decide) ?_
  refine g_puti (ci := 5) (k := 13) C rfl (by decide) rfl lf_TestJudge_Search_56 hC_K0 (Or.inl rfl) rfl (gd DX5_init_0 50 rfl) ?_
  rw [hC_i]
  refine g_aload_n C (gd DX5_init_0 51 rfl) 0 rfl rfl ?_
  refine g_iconst (v := 0) C (gd DX5_init_0 52 rfl) (by decide) ?_
  refine g_puti (ci := 5) (k := 14) C rfl (by decide) rfl lf_TestJudge_Search_59 hC_K0 (Or.inl rfl) rfl (gd DX5_init_0 53 rfl) ?_
  rw [hC_i]
  refine g_aload_n C (gd DX5_init_0 54 rfl) 0 rfl rfl ?_
  refine g_sipush (v := 16385) C (gd DX5_init_0 55 rfl) (by decide) ?_
  refine g_newa (atype := .int) (kind := 12) (N := 16385) C (by decide) (by decide +kernel) (Nat.le_of_ble_eq_true rfl) (by omega) (by omega) (by decide) (gd DX5_init_0 56 rfl) ?_
  rw [hC_Tn (n := 14) (by rfl), hC_n]
  refine g_putr (ci := 5) (k := 15) (ty := .array .int) C rfl (by decide) rfl lf_TestJudge_Search_62 hC_K0 (Or.inr ⟨rfl, rfl, rfl⟩) rfl rfl rfl (gd DX5_init_0 57 rfl) ?_
  rw [hC_r]
  refine g_aload_n C (gd DX5_init_0 58 rfl) 0 rfl rfl ?_
  refine g_sipush (v := 16385) C (gd DX5_init_0 59 rfl) (by decide) ?_
  refine g_newa (atype := .int) (kind := 12) (N := 16385) C (by decide) (by decide +kernel) (Nat.le_of_ble_eq_true rfl) (by omega) (by omega) (by decide) (gd DX5_init_1 0 rfl) ?_
  rw [hC_Tn (n := 15) (by rfl), hC_n]
  refine g_putr (ci := 5) (k := 16) (ty := .array .int) C rfl (by decide) rfl lf_TestJudge_Search_65 hC_K0 (Or.inr ⟨rfl, rfl, rfl⟩) rfl rfl rfl (gd DX5_init_1 1 rfl) ?_
  rw [hC_r]
  refine g_aload_n C (gd DX5_init_1 2 rfl) 0 rfl rfl ?_
  refine g_sipush (v := 16385) C (gd DX5_init_1 3 rfl) (by decide) ?_
  refine g_newa (atype := .int) (kind := 12) (N := 16385) C (by decide) (by decide +kernel) (Nat.le_of_ble_eq_true rfl) (by omega) (by omega) (by decide) (gd DX5_init_1 4 rfl) ?_
  rw [hC_Tn (n := 16) (by rfl), hC_n]
  refine g_putr (ci := 5) (k := 17) (ty := .array .int) C rfl (by decide) rfl lf_TestJudge_Search_68 hC_K0 (Or.inr ⟨rfl, rfl, rfl⟩) rfl rfl rfl (gd DX5_init_1 5 rfl) ?_
  rw [hC_r]
  refine g_aload_n C (gd DX5_init_1 6 rfl) 0 rfl rfl ?_
  refine g_sipush (v := 3845) C (gd DX5_init_1 7 rfl) (by decide) ?_
  refine g_newa (atype := .long) (kind := 13) (N := 3845) C (by decide) (by decide +kernel) (Nat.le_of_ble_eq_true rfl) (by omega) (by omega) (by decide) (gd DX5_init_1 8 rfl) ?_
  rw [hC_Tn (n := 17) (by rfl), hC_n]
  refine g_putr (ci := 5) (k := 18) (ty := .array .long) C rfl (by decide) rfl lf_TestJudge_Search_71 hC_K0 (Or.inr ⟨rfl, rfl, rfl⟩) rfl rfl rfl (gd DX5_init_1 9 rfl) ?_
  rw [hC_r]
  refine g_aload_n C (gd DX5_init_1 10 rfl) 0 rfl rfl ?_
  refine g_sipush (v := 3845) C (gd DX5_init_1 11 rfl) (by decide) ?_
  refine g_newa (atype := .long) (kind := 13) (N := 3845) C (by decide) (by decide +kernel) (Nat.le_of_ble_eq_true rfl) (by omega) (by omega) (by decide) (gd DX5_init_1 12 rfl) ?_
  rw [hC_Tn (n := 18) (by rfl), hC_n]
  refine g_putr (ci := 5) (k := 19) (ty := .array .long) C rfl (by decide) rfl lf_TestJudge_Search_75 hC_K0 (Or.inr ⟨rfl, rfl, rfl⟩) rfl rfl rfl (gd DX5_init_1 13 rfl) ?_
  rw [hC_r]
  exact g_vret C (by omega) (by omega) ⟨rfl, rfl⟩ (gd DX5_init_1 14 rfl)
def cX3 (a : Nat) (T : Nat) (np : Nat) : List Cl := (4, 0, (upd (upd (upd (fun _ => 0) 1 (0)) 2 (-1)) 5 (0)), (updO (updO (updO (fun _ => none) 0 (some (a + 1))) 4 (some (a + 7))) 3 (some T))) :: (([] ++ (cX8 (a + 1) np)) ++ [zc 12 14])
theorem e_X3_init {T : Nat} : EvF w 3 11 107 yX3_init cX3_init 2 none [.ref (hT h), .ref T] (sN h 4 0) none (hC h (hT h) (cX3 (hT h) T w.2.2.2)) := by
  refine g_start (by decide) (Nat.le_of_ble_eq_true rfl) [(0, _), (1, _)] rfl (fun z hfl C => ?_)
  rw [sN_hC]
  generalize hT h = a
  unfold zc
  refine g_aload_n C (gd DX3_init_0 0 rfl) 0 rfl rfl ?_
  refine g_objInit C lm_TestJudge_Reader_3 goi goc (by decide) rfl (gd DX3_init_0 1 rfl) ?_
  refine g_aload_n C (gd DX3_init_0 2 rfl) 0 rfl rfl ?_
  refine g_new (ci := 8) C rfl lc_TestJudge_Reader_9 lI_TestJudge_World li_TestJudge_World (by decide) (by decide) (gd DX3_init_0 3 rfl) (gdv8) ?_
  refine g_dup C (gd DX3_init_0 4 rfl) rfl ?_
  refine g_cIN C [] mX8_init (List.mem_of_getElem? (i := 7) rfl) e_X8_init hfl (by first | decide | omega) (by decide) (by omega) (by omega) rfl rfl (Nat.le_of_ble_eq_true rfl) (gd DX3_init_0 5 rfl) ?_
  rw [hC_Tn (n := 1) (by rfl), hC_c (n := 1) (by rfl)]
  refine g_putr (ci := 3) (k := 0) (ty := .object "TestJudge$World") C rfl (by decide) rfl lf_TestJudge_Reader_12 hC_K0 (Or.inr ⟨rfl, rfl, rfl⟩) rfl rfl rfl (gd DX3_init_0 6 rfl) ?_
  rw [hC_r]
  refine g_aload_n C (gd DX3_init_0 7 rfl) 0 rfl rfl ?_
  refine g_iconst (v := 0) C (gd DX3_init_0 8 rfl) (by decide) ?_
  refine g_puti (ci := 3) (k := 1) C rfl (by decide) rfl lf_TestJudge_Reader_18 hC_K0 (Or.inl rfl) rfl (gd DX3_init_0 9 rfl) ?_
  rw [hC_i]
  refine g_aload_n C (gd DX3_init_0 10 rfl) 0 rfl rfl ?_
  refine g_iconst (v := -1) C (gd DX3_init_0 11 rfl) (by decide) ?_
  refine g_puti (ci := 3) (k := 2) C rfl (by decide) rfl lf_TestJudge_Reader_22 hC_K0 (Or.inl rfl) rfl (gd DX3_init_0 12 rfl) ?_
  rw [hC_i]
  refine g_aload_n C (gd DX3_init_0 13 rfl) 0 rfl rfl ?_
  refine g_bipush (v := 14) C (gd DX3_init_0 14 rfl) (by decide) ?_
  refine g_newa (atype := .int) (kind := 12) (N := 14) C (by decide) (by decide +kernel) (Nat.le_of_ble_eq_true rfl) (by omega) (by omega) (by decide) (gd DX3_init_0 15 rfl) ?_
  rw [hC_Tn (n := 7) (by rfl), hC_n]
  refine g_putr (ci := 3) (k := 4) (ty := .array .int) C rfl (by decide) rfl lf_TestJudge_Reader_25 hC_K0 (Or.inr ⟨rfl, rfl, rfl⟩) rfl rfl rfl (gd DX3_init_0 16 rfl) ?_
  rw [hC_r]
  refine g_aload_n C (gd DX3_init_0 17 rfl) 0 rfl rfl ?_
  refine g_iconst (v := 0) C (gd DX3_init_0 18 rfl) (by decide) ?_
  refine g_putz (ci := 3) (k := 5) C rfl (by decide) rfl lf_TestJudge_Reader_29 hC_K0 (Or.inl rfl) rfl (by decide) (gd DX3_init_0 19 rfl) ?_
  rw [hC_i]
  refine g_aload_n C (gd DX3_init_0 20 rfl) 0 rfl rfl ?_
  refine g_aload_n C (gd DX3_init_0 21 rfl) 1 rfl rfl ?_
  refine g_putr (ci := 3) (k := 3) (ty := .object "TestJudge$Tokens") C rfl (by decide) rfl lf_TestJudge_Reader_33 hC_K0 (Or.inr ⟨rfl, rfl, rfl⟩) rfl rfl rfl (gd DX3_init_0 22 rfl) ?_
  rw [hC_r]
  exact g_vret C (by omega) (by omega) ⟨rfl, rfl⟩ (gd DX3_init_0 23 rfl)
end CT
