/-! the reference's constructor -/
section CT10
variable {w : gD} {h : HS}
def cX10 (a : Nat) : List Cl := (11, 0, (upd (upd (upd (fun _ => 0) 12 (-1)) 13 (-1)) 14 (-1)), (updO (updO (updO (updO (updO (updO (updO (updO (updO (updO (updO (updO (updO (updO (updO (updO (updO (updO (updO (updO (updO (updO (updO (updO (updO (updO (fun _ => none) 0 (some (a + 1))) 8 (some (a + 2))) 9 (some (a + 3))) 28 (some (a + 4))) 33 (some (a + 5))) 34 (some (a + 6))) 35 (some (a + 7))) 36 (some (a + 8))) 37 (some (a + 9))) 38 (some (a + 10))) 39 (some (a + 11))) 40 (some (a + 12))) 41 (some (a + 13))) 43 (some (a + 14))) 44 (some (a + 15))) 45 (some (a + 16))) 46 (some (a + 17))) 47 (some (a + 18))) 48 (some (a + 19))) 49 (some (a + 20))) 50 (some (a + 21))) 51 (some (a + 22))) 52 (some (a + 23))) 53 (some (a + 24))) 55 (some (a + 25))) 56 (some (a + 26)))) :: (((((((((((((((((((((((((([] ++ [zc 12 31314]) ++ [zc 12 19664]) ++ [zc 12 500]) ++ [zc 13 14]) ++ [zc 13 16500]) ++ [zc 12 32768]) ++ [zc 12 396000]) ++ [zc 12 16500]) ++ [zc 12 16500]) ++ [zc 12 16500]) ++ [zc 12 16500]) ++ [zc 12 16500]) ++ [zc 15 16500]) ++ [zc 12 16500]) ++ [zc 13 16500]) ++ [zc 13 16500]) ++ [zc 12 16500]) ++ [zc 12 16500]) ++ [zc 12 16500]) ++ [zc 12 16500]) ++ [zc 12 16500]) ++ [zc 12 16500]) ++ [zc 12 16500]) ++ [zc 12 16500]) ++ [zc 15 16500]) ++ [zc 14 12000])
theorem e_X10_init : EvF w 1 26 805760 yX10_init cX10_init 1 none [.ref (hT h)] (sN h 11 0) none (hC h (hT h) (cX10 (hT h))) := by
  refine g_start (by decide) (Nat.le_of_ble_eq_true rfl) [(0, _)] rfl (fun z hfl C => ?_)
  rw [sN_hC]
  generalize hT h = a
  unfold zc
  refine g_aload_n C (gd DX10_init_0 0 rfl) 0 rfl rfl ?_
  refine g_objInit C lm_TestJudgeModel_1 goi goc (by decide) rfl (gd DX10_init_0 1 rfl) ?_
  refine g_aload_n C (gd DX10_init_0 2 rfl) 0 rfl rfl ?_
  refine g_sipush (v := 31314) C (gd DX10_init_0 3 rfl) (by decide) ?_
  refine g_newa (atype := .int) (kind := 12) (N := 31314) C (by decide) (by decide +kernel) (Nat.le_of_ble_eq_true rfl) (by omega) (by omega) (by decide) (gd DX10_init_0 4 rfl) ?_
  rw [hC_Tn (n := 1) (by rfl), hC_n]
  refine g_putr (ci := 10) (k := 0) (ty := .array .int) C rfl (by decide) rfl lf_TestJudgeModel_7 hC_K0 (Or.inr ⟨rfl, rfl, rfl⟩) rfl rfl rfl (gd DX10_init_0 5 rfl) ?_
  rw [hC_r]
  refine g_aload_n C (gd DX10_init_0 6 rfl) 0 rfl rfl ?_
  refine g_sipush (v := 19664) C (gd DX10_init_0 7 rfl) (by decide) ?_
  refine g_newa (atype := .int) (kind := 12) (N := 19664) C (by decide) (by decide +kernel) (Nat.le_of_ble_eq_true rfl) (by omega) (by omega) (by decide) (gd DX10_init_0 8 rfl) ?_
  rw [hC_Tn (n := 2) (by rfl), hC_n]
  refine g_putr (ci := 10) (k := 8) (ty := .array .int) C rfl (by decide) rfl lf_TestJudgeModel_13 hC_K0 (Or.inr ⟨rfl, rfl, rfl⟩) rfl rfl rfl (gd DX10_init_0 9 rfl) ?_
  rw [hC_r]
  refine g_aload_n C (gd DX10_init_0 10 rfl) 0 rfl rfl ?_
  refine g_sipush (v := 500) C (gd DX10_init_0 11 rfl) (by decide) ?_
  refine g_newa (atype := .int) (kind := 12) (N := 500) C (by decide) (by decide +kernel) (Nat.le_of_ble_eq_true rfl) (by omega) (by omega) (by decide) (gd DX10_init_0 12 rfl) ?_
  rw [hC_Tn (n := 3) (by rfl), hC_n]
  refine g_putr (ci := 10) (k := 9) (ty := .array .int) C rfl (by decide) rfl lf_TestJudgeModel_16 hC_K0 (Or.inr ⟨rfl, rfl, rfl⟩) rfl rfl rfl (gd DX10_init_0 13 rfl) ?_
  rw [hC_r]
  refine g_aload_n C (gd DX10_init_0 14 rfl) 0 rfl rfl ?_
  refine g_iconst (v := -1) C (gd DX10_init_0 15 rfl) (by decide) ?_
  refine g_puti (ci := 10) (k := 12) C rfl (by decide) rfl lf_TestJudgeModel_19 hC_K0 (Or.inl rfl) rfl (gd DX10_init_0 16 rfl) ?_
  rw [hC_i]
  refine g_aload_n C (gd DX10_init_0 17 rfl) 0 rfl rfl ?_
  refine g_iconst (v := -1) C (gd DX10_init_0 18 rfl) (by decide) ?_
  refine g_puti (ci := 10) (k := 13) C rfl (by decide) rfl lf_TestJudgeModel_23 hC_K0 (Or.inl rfl) rfl (gd DX10_init_0 19 rfl) ?_
  rw [hC_i]
  refine g_aload_n C (gd DX10_init_0 20 rfl) 0 rfl rfl ?_
  refine g_iconst (v := -1) C (gd DX10_init_0 21 rfl) (by decide) ?_
  refine g_puti (ci := 10) (k := 14) C rfl (by decide) rfl lf_TestJudgeModel_26 hC_K0 (Or.inl rfl) rfl (gd DX10_init_0 22 rfl) ?_
  rw [hC_i]
  refine g_aload_n C (gd DX10_init_0 23 rfl) 0 rfl rfl ?_
  refine g_bipush (v := 14) C (gd DX10_init_0 24 rfl) (by decide) ?_
  refine g_newa (atype := .long) (kind := 13) (N := 14) C (by decide) (by decide +kernel) (Nat.le_of_ble_eq_true rfl) (by omega) (by omega) (by decide) (gd DX10_init_0 25 rfl) ?_
  rw [hC_Tn (n := 4) (by rfl), hC_n]
  refine g_putr (ci := 10) (k := 28) (ty := .array .long) C rfl (by decide) rfl lf_TestJudgeModel_29 hC_K0 (Or.inr ⟨rfl, rfl, rfl⟩) rfl rfl rfl (gd DX10_init_0 26 rfl) ?_
  rw [hC_r]
  refine g_aload_n C (gd DX10_init_0 27 rfl) 0 rfl rfl ?_
  refine g_sipush (v := 16500) C (gd DX10_init_0 28 rfl) (by decide) ?_
  refine g_newa (atype := .long) (kind := 13) (N := 16500) C (by decide) (by decide +kernel) (Nat.le_of_ble_eq_true rfl) (by omega) (by omega) (by decide) (gd DX10_init_0 29 rfl) ?_
  rw [hC_Tn (n := 5) (by rfl), hC_n]
  refine g_putr (ci := 10) (k := 33) (ty := .array .long) C rfl (by decide) rfl lf_TestJudgeModel_33 hC_K0 (Or.inr ⟨rfl, rfl, rfl⟩) rfl rfl rfl (gd DX10_init_0 30 rfl) ?_
  rw [hC_r]
  refine g_aload_n C (gd DX10_init_0 31 rfl) 0 rfl rfl ?_
  refine g_ldc (v := 32768) C (gd DX10_init_0 32 rfl) lk_TestJudgeModel_36 ?_
  refine g_newa (atype := .int) (kind := 12) (N := 32768) C (by decide) (by decide +kernel) (Nat.le_of_ble_eq_true rfl) (by omega) (by omega) (by decide) (gd DX10_init_0 33 rfl) ?_
  rw [hC_Tn (n := 6) (by rfl), hC_n]
  refine g_putr (ci := 10) (k := 34) (ty := .array .int) C rfl (by decide) rfl lf_TestJudgeModel_37 hC_K0 (Or.inr ⟨rfl, rfl, rfl⟩) rfl rfl rfl (gd DX10_init_0 34 rfl) ?_
  rw [hC_r]
  refine g_aload_n C (gd DX10_init_0 35 rfl) 0 rfl rfl ?_
  refine g_ldc (v := 396000) C (gd DX10_init_0 36 rfl) lk_TestJudgeModel_40 ?_
  refine g_newa (atype := .int) (kind := 12) (N := 396000) C (by decide) (by decide +kernel) (Nat.le_of_ble_eq_true rfl) (by omega) (by omega) (by decide) (gd DX10_init_0 37 rfl) ?_
  rw [hC_Tn (n := 7) (by rfl), hC_n]
  refine g_putr (ci := 10) (k := 35) (ty := .array .int) C rfl (by decide) rfl lf_TestJudgeModel_41 hC_K0 (Or.inr ⟨rfl, rfl, rfl⟩) rfl rfl rfl (gd DX10_init_0 38 rfl) ?_
  rw [hC_r]
  refine g_aload_n C (gd DX10_init_0 39 rfl) 0 rfl rfl ?_
  refine g_sipush (v := 16500) C (gd DX10_init_0 40 rfl) (by decide) ?_
  refine g_newa (atype := .int) (kind := 12) (N := 16500) C (by decide) (by decide +kernel) (Nat.le_of_ble_eq_true rfl) (by omega) (by omega) (by decide) (gd DX10_init_0 41 rfl) ?_
  rw [hC_Tn (n := 8) (by rfl), hC_n]
  refine g_putr (ci := 10) (k := 36) (ty := .array .int) C rfl (by decide) rfl lf_TestJudgeModel_44 hC_K0 (Or.inr ⟨rfl, rfl, rfl⟩) rfl rfl rfl (gd DX10_init_0 42 rfl) ?_
  rw [hC_r]
  refine g_aload_n C (gd DX10_init_0 43 rfl) 0 rfl rfl ?_
  refine g_sipush (v := 16500) C (gd DX10_init_0 44 rfl) (by decide) ?_
  refine g_newa (atype := .int) (kind := 12) (N := 16500) C (by decide) (by decide +kernel) (Nat.le_of_ble_eq_true rfl) (by omega) (by omega) (by decide) (gd DX10_init_0 45 rfl) ?_
  rw [hC_Tn (n := 9) (by rfl), hC_n]
  refine g_putr (ci := 10) (k := 37) (ty := .array .int) C rfl (by decide) rfl lf_TestJudgeModel_47 hC_K0 (Or.inr ⟨rfl, rfl, rfl⟩) rfl rfl rfl (gd DX10_init_0 46 rfl) ?_
  rw [hC_r]
  refine g_aload_n C (gd DX10_init_0 47 rfl) 0 rfl rfl ?_
  refine g_sipush (v := 16500) C (gd DX10_init_0 48 rfl) (by decide) ?_
  refine g_newa (atype := .int) (kind := 12) (N := 16500) C (by decide) (by decide +kernel) (Nat.le_of_ble_eq_true rfl) (by omega) (by omega) (by decide) (gd DX10_init_0 49 rfl) ?_
  rw [hC_Tn (n := 10) (by rfl), hC_n]
  refine g_putr (ci := 10) (k := 38) (ty := .array .int) C rfl (by decide) rfl lf_TestJudgeModel_50 hC_K0 (Or.inr ⟨rfl, rfl, rfl⟩) rfl rfl rfl (gd DX10_init_0 50 rfl) ?_
  rw [hC_r]
  refine g_aload_n C (gd DX10_init_0 51 rfl) 0 rfl rfl ?_
  refine g_sipush (v := 16500) C (gd DX10_init_0 52 rfl) (by decide) ?_
  refine g_newa (atype := .int) (kind := 12) (N := 16500) C (by decide) (by decide +kernel) (Nat.le_of_ble_eq_true rfl) (by omega) (by omega) (by decide) (gd DX10_init_0 53 rfl) ?_
  rw [hC_Tn (n := 11) (by rfl), hC_n]
  refine g_putr (ci := 10) (k := 39) (ty := .array .int) C rfl (by decide) rfl lf_TestJudgeModel_53 hC_K0 (Or.inr ⟨rfl, rfl, rfl⟩) rfl rfl rfl (gd DX10_init_0 54 rfl) ?_
  rw [hC_r]
  refine g_aload_n C (gd DX10_init_0 55 rfl) 0 rfl rfl ?_
  refine g_sipush (v := 16500) C (gd DX10_init_0 56 rfl) (by decide) ?_
  refine g_newa (atype := .int) (kind := 12) (N := 16500) C (by decide) (by decide +kernel) (Nat.le_of_ble_eq_true rfl) (by omega) (by omega) (by decide) (gd DX10_init_0 57 rfl) ?_
  rw [hC_Tn (n := 12) (by rfl), hC_n]
  refine g_putr (ci := 10) (k := 40) (ty := .array .int) C rfl (by decide) rfl lf_TestJudgeModel_56 hC_K0 (Or.inr ⟨rfl, rfl, rfl⟩) rfl rfl rfl (gd DX10_init_0 58 rfl) ?_
  rw [hC_r]
  refine g_aload_n C (gd DX10_init_0 59 rfl) 0 rfl rfl ?_
  refine g_sipush (v := 16500) C (gd DX10_init_1 0 rfl) (by decide) ?_
  refine g_newa (atype := .boolean) (kind := 15) (N := 16500) C (by decide) (by decide +kernel) (Nat.le_of_ble_eq_true rfl) (by omega) (by omega) (by decide) (gd DX10_init_1 1 rfl) ?_
  rw [hC_Tn (n := 13) (by rfl), hC_n]
  refine g_putr (ci := 10) (k := 41) (ty := .array .boolean) C rfl (by decide) rfl lf_TestJudgeModel_59 hC_K0 (Or.inr ⟨rfl, rfl, rfl⟩) rfl rfl rfl (gd DX10_init_1 2 rfl) ?_
  rw [hC_r]
  refine g_aload_n C (gd DX10_init_1 3 rfl) 0 rfl rfl ?_
  refine g_sipush (v := 16500) C (gd DX10_init_1 4 rfl) (by decide) ?_
  refine g_newa (atype := .int) (kind := 12) (N := 16500) C (by decide) (by decide +kernel) (Nat.le_of_ble_eq_true rfl) (by omega) (by omega) (by decide) (gd DX10_init_1 5 rfl) ?_
  rw [hC_Tn (n := 14) (by rfl), hC_n]
  refine g_putr (ci := 10) (k := 43) (ty := .array .int) C rfl (by decide) rfl lf_TestJudgeModel_63 hC_K0 (Or.inr ⟨rfl, rfl, rfl⟩) rfl rfl rfl (gd DX10_init_1 6 rfl) ?_
  rw [hC_r]
  refine g_aload_n C (gd DX10_init_1 7 rfl) 0 rfl rfl ?_
  refine g_sipush (v := 16500) C (gd DX10_init_1 8 rfl) (by decide) ?_
  refine g_newa (atype := .long) (kind := 13) (N := 16500) C (by decide) (by decide +kernel) (Nat.le_of_ble_eq_true rfl) (by omega) (by omega) (by decide) (gd DX10_init_1 9 rfl) ?_
  rw [hC_Tn (n := 15) (by rfl), hC_n]
  refine g_putr (ci := 10) (k := 44) (ty := .array .long) C rfl (by decide) rfl lf_TestJudgeModel_66 hC_K0 (Or.inr ⟨rfl, rfl, rfl⟩) rfl rfl rfl (gd DX10_init_1 10 rfl) ?_
  rw [hC_r]
  refine g_aload_n C (gd DX10_init_1 11 rfl) 0 rfl rfl ?_
  refine g_sipush (v := 16500) C (gd DX10_init_1 12 rfl) (by decide) ?_
  refine g_newa (atype := .long) (kind := 13) (N := 16500) C (by decide) (by decide +kernel) (Nat.le_of_ble_eq_true rfl) (by omega) (by omega) (by decide) (gd DX10_init_1 13 rfl) ?_
  rw [hC_Tn (n := 16) (by rfl), hC_n]
  refine g_putr (ci := 10) (k := 45) (ty := .array .long) C rfl (by decide) rfl lf_TestJudgeModel_69 hC_K0 (Or.inr ⟨rfl, rfl, rfl⟩) rfl rfl rfl (gd DX10_init_1 14 rfl) ?_
  rw [hC_r]
  refine g_aload_n C (gd DX10_init_1 15 rfl) 0 rfl rfl ?_
  refine g_sipush (v := 16500) C (gd DX10_init_1 16 rfl) (by decide) ?_
  refine g_newa (atype := .int) (kind := 12) (N := 16500) C (by decide) (by decide +kernel) (Nat.le_of_ble_eq_true rfl) (by omega) (by omega) (by decide) (gd DX10_init_1 17 rfl) ?_
  rw [hC_Tn (n := 17) (by rfl), hC_n]
  refine g_putr (ci := 10) (k := 46) (ty := .array .int) C rfl (by decide) rfl lf_TestJudgeModel_72 hC_K0 (Or.inr ⟨rfl, rfl, rfl⟩) rfl rfl rfl (gd DX10_init_1 18 rfl) ?_
  rw [hC_r]
  refine g_aload_n C (gd DX10_init_1 19 rfl) 0 rfl rfl ?_
  refine g_sipush (v := 16500) C (gd DX10_init_1 20 rfl) (by decide) ?_
  refine g_newa (atype := .int) (kind := 12) (N := 16500) C (by decide) (by decide +kernel) (Nat.le_of_ble_eq_true rfl) (by omega) (by omega) (by decide) (gd DX10_init_1 21 rfl) ?_
  rw [hC_Tn (n := 18) (by rfl), hC_n]
  refine g_putr (ci := 10) (k := 47) (ty := .array .int) C rfl (by decide) rfl lf_TestJudgeModel_75 hC_K0 (Or.inr ⟨rfl, rfl, rfl⟩) rfl rfl rfl (gd DX10_init_1 22 rfl) ?_
  rw [hC_r]
  refine g_aload_n C (gd DX10_init_1 23 rfl) 0 rfl rfl ?_
  refine g_sipush (v := 16500) C (gd DX10_init_1 24 rfl) (by decide) ?_
  refine g_newa (atype := .int) (kind := 12) (N := 16500) C (by decide) (by decide +kernel) (Nat.le_of_ble_eq_true rfl) (by omega) (by omega) (by decide) (gd DX10_init_1 25 rfl) ?_
  rw [hC_Tn (n := 19) (by rfl), hC_n]
  refine g_putr (ci := 10) (k := 48) (ty := .array .int) C rfl (by decide) rfl lf_TestJudgeModel_78 hC_K0 (Or.inr ⟨rfl, rfl, rfl⟩) rfl rfl rfl (gd DX10_init_1 26 rfl) ?_
  rw [hC_r]
  refine g_aload_n C (gd DX10_init_1 27 rfl) 0 rfl rfl ?_
  refine g_sipush (v := 16500) C (gd DX10_init_1 28 rfl) (by decide) ?_
  refine g_newa (atype := .int) (kind := 12) (N := 16500) C (by decide) (by decide +kernel) (Nat.le_of_ble_eq_true rfl) (by omega) (by omega) (by decide) (gd DX10_init_1 29 rfl) ?_
  rw [hC_Tn (n := 20) (by rfl), hC_n]
  refine g_putr (ci := 10) (k := 49) (ty := .array .int) C rfl (by decide) rfl lf_TestJudgeModel_81 hC_K0 (Or.inr ⟨rfl, rfl, rfl⟩) rfl rfl rfl (gd DX10_init_1 30 rfl) ?_
  rw [hC_r]
  refine g_aload_n C (gd DX10_init_1 31 rfl) 0 rfl rfl ?_
  refine g_sipush (v := 16500) C (gd DX10_init_1 32 rfl) (by decide) ?_
  refine g_newa (atype := .int) (kind := 12) (N := 16500) C (by decide) (by decide +kernel) (Nat.le_of_ble_eq_true rfl) (by omega) (by omega) (by decide) (gd DX10_init_1 33 rfl) ?_
  rw [hC_Tn (n := 21) (by rfl), hC_n]
  refine g_putr (ci := 10) (k := 50) (ty := .array .int) C rfl (by decide) rfl lf_TestJudgeModel_84 hC_K0 (Or.inr ⟨rfl, rfl, rfl⟩) rfl rfl rfl (gd DX10_init_1 34 rfl) ?_
  rw [hC_r]
  refine g_aload_n C (gd DX10_init_1 35 rfl) 0 rfl rfl ?_
  refine g_sipush (v := 16500) C (gd DX10_init_1 36 rfl) (by decide) ?_
  refine g_newa (atype := .int) (kind := 12) (N := 16500) C (by decide) (by decide +kernel) (Nat.le_of_ble_eq_true rfl) (by omega) (by omega) (by decide) (gd DX10_init_1 37 rfl) ?_
  rw [hC_Tn (n := 22) (by rfl), hC_n]
  refine g_putr (ci := 10) (k := 51) (ty := .array .int) C rfl (by decide) rfl lf_TestJudgeModel_87 hC_K0 (Or.inr ⟨rfl, rfl, rfl⟩) rfl rfl rfl (gd DX10_init_1 38 rfl) ?_
  rw [hC_r]
  refine g_aload_n C (gd DX10_init_1 39 rfl) 0 rfl rfl ?_
  refine g_sipush (v := 16500) C (gd DX10_init_1 40 rfl) (by decide) ?_
  refine g_newa (atype := .int) (kind := 12) (N := 16500) C (by decide) (by decide +kernel) (Nat.le_of_ble_eq_true rfl) (by omega) (by omega) (by decide) (gd DX10_init_1 41 rfl) ?_
  rw [hC_Tn (n := 23) (by rfl), hC_n]
  refine g_putr (ci := 10) (k := 52) (ty := .array .int) C rfl (by decide) rfl lf_TestJudgeModel_90 hC_K0 (Or.inr ⟨rfl, rfl, rfl⟩) rfl rfl rfl (gd DX10_init_1 42 rfl) ?_
  rw [hC_r]
  refine g_aload_n C (gd DX10_init_1 43 rfl) 0 rfl rfl ?_
  refine g_sipush (v := 16500) C (gd DX10_init_1 44 rfl) (by decide) ?_
  refine g_newa (atype := .int) (kind := 12) (N := 16500) C (by decide) (by decide +kernel) (Nat.le_of_ble_eq_true rfl) (by omega) (by omega) (by decide) (gd DX10_init_1 45 rfl) ?_
  rw [hC_Tn (n := 24) (by rfl), hC_n]
  refine g_putr (ci := 10) (k := 53) (ty := .array .int) C rfl (by decide) rfl lf_TestJudgeModel_93 hC_K0 (Or.inr ⟨rfl, rfl, rfl⟩) rfl rfl rfl (gd DX10_init_1 46 rfl) ?_
  rw [hC_r]
  refine g_aload_n C (gd DX10_init_1 47 rfl) 0 rfl rfl ?_
  refine g_sipush (v := 16500) C (gd DX10_init_1 48 rfl) (by decide) ?_
  refine g_newa (atype := .boolean) (kind := 15) (N := 16500) C (by decide) (by decide +kernel) (Nat.le_of_ble_eq_true rfl) (by omega) (by omega) (by decide) (gd DX10_init_1 49 rfl) ?_
  rw [hC_Tn (n := 25) (by rfl), hC_n]
  refine g_putr (ci := 10) (k := 55) (ty := .array .boolean) C rfl (by decide) rfl lf_TestJudgeModel_96 hC_K0 (Or.inr ⟨rfl, rfl, rfl⟩) rfl rfl rfl (gd DX10_init_1 50 rfl) ?_
  rw [hC_r]
  refine g_aload_n C (gd DX10_init_1 51 rfl) 0 rfl rfl ?_
  refine g_sipush (v := 12000) C (gd DX10_init_1 52 rfl) (by decide) ?_
  refine g_newa (atype := .byte) (kind := 14) (N := 12000) C (by decide) (by decide +kernel) (Nat.le_of_ble_eq_true rfl) (by omega) (by omega) (by decide) (gd DX10_init_1 53 rfl) ?_
  rw [hC_Tn (n := 26) (by rfl), hC_n]
  refine g_putr (ci := 10) (k := 56) (ty := .array .byte) C rfl (by decide) rfl lf_TestJudgeModel_99 hC_K0 (Or.inr ⟨rfl, rfl, rfl⟩) rfl rfl rfl (gd DX10_init_1 54 rfl) ?_
  rw [hC_r]
  exact g_vret C (by omega) (by omega) ⟨rfl, rfl⟩ (gd DX10_init_1 55 rfl)
end CT10
