/-! the class's constructor -/
section CT9
variable {w : gD} {h : HS}
def cX9 (a : Nat) (np : Nat) : List Cl := (10, 0, (upd (upd (upd (upd (upd (upd (upd (fun _ => 0) 2 (0)) 3 (0)) 4 (-1)) 5 (-1)) 12 (-1)) 13 (0)) 14 (0)), (updO (updO (updO (updO (updO (updO (updO (updO (fun _ => none) 0 (some (a + 1))) 1 (some (a + 2))) 6 (some (a + 6))) 7 (some (a + 12))) 8 (some (a + 17))) 9 (some (a + 36))) 10 (some (a + 47))) 11 (some (a + 49)))) :: (((((((([] ++ [zc 14 500]) ++ (cX7 (a + 2))) ++ (cX8 (a + 6) np)) ++ (cX0 (a + 12))) ++ (cX5 (a + 17))) ++ (cX6 (a + 36))) ++ (cX1 (a + 47))) ++ [(3, 0, pcI 0 0 0, pcR4 np np np np)])
theorem e_X9_init : EvF w 4 57 73934 yX9_init cX9_init 1 none [.ref (hT h)] (sN h 10 0) none (hC h (hT h) (cX9 (hT h) w.2.2.2)) := by
  refine g_start (by decide) (Nat.le_of_ble_eq_true rfl) [(0, _)] rfl (fun z hfl C => ?_)
  rw [sN_hC]
  generalize hT h = a
  unfold zc
  refine g_aload_n C (gd DX9_init_0 0 rfl) 0 rfl rfl ?_
  refine g_objInit C lm_TestJudge_3 goi goc (by decide) rfl (gd DX9_init_0 1 rfl) ?_
  refine g_aload_n C (gd DX9_init_0 2 rfl) 0 rfl rfl ?_
  refine g_sipush (v := 500) C (gd DX9_init_0 3 rfl) (by decide) ?_
  refine g_newa (atype := .byte) (kind := 14) (N := 500) C (by decide) (by decide +kernel) (Nat.le_of_ble_eq_true rfl) (by omega) (by omega) (by decide) (gd DX9_init_0 4 rfl) ?_
  rw [hC_Tn (n := 1) (by rfl), hC_n]
  refine g_putr (ci := 9) (k := 0) (ty := .array .byte) C rfl (by decide) rfl lf_TestJudge_9 hC_K0 (Or.inr ⟨rfl, rfl, rfl⟩) rfl rfl rfl (gd DX9_init_0 5 rfl) ?_
  rw [hC_r]
  refine g_aload_n C (gd DX9_init_0 6 rfl) 0 rfl rfl ?_
  refine g_new (ci := 7) C rfl lc_TestJudge_13 lI_TestJudge_Tokens li_TestJudge_Tokens (by decide) (by decide) (gd DX9_init_0 7 rfl) (gdv7) ?_
  refine g_dup C (gd DX9_init_0 8 rfl) rfl ?_
  refine g_cIN C [] mX7_init (List.mem_of_getElem? (i := 0) rfl) e_X7_init hfl (by first | decide | omega) (by decide) (by omega) (by omega) rfl rfl (Nat.le_of_ble_eq_true rfl) (gd DX9_init_0 9 rfl) ?_
  rw [hC_Tn (n := 2) (by rfl), hC_c (n := 2) (by rfl)]
  refine g_putr (ci := 9) (k := 1) (ty := .object "TestJudge$Tokens") C rfl (by decide) rfl lf_TestJudge_16 hC_K0 (Or.inr ⟨rfl, rfl, rfl⟩) rfl rfl rfl (gd DX9_init_0 10 rfl) ?_
  rw [hC_r]
  refine g_aload_n C (gd DX9_init_0 11 rfl) 0 rfl rfl ?_
  refine g_iconst (v := 0) C (gd DX9_init_0 12 rfl) (by decide) ?_
  refine g_puti (ci := 9) (k := 2) C rfl (by decide) rfl lf_TestJudge_20 hC_K0 (Or.inl rfl) rfl (gd DX9_init_0 13 rfl) ?_
  rw [hC_i]
  refine g_aload_n C (gd DX9_init_0 14 rfl) 0 rfl rfl ?_
  refine g_iconst (v := 0) C (gd DX9_init_0 15 rfl) (by decide) ?_
  refine g_puti (ci := 9) (k := 3) C rfl (by decide) rfl lf_TestJudge_24 hC_K0 (Or.inl rfl) rfl (gd DX9_init_0 16 rfl) ?_
  rw [hC_i]
  refine g_aload_n C (gd DX9_init_0 17 rfl) 0 rfl rfl ?_
  refine g_iconst (v := -1) C (gd DX9_init_0 18 rfl) (by decide) ?_
  refine g_puti (ci := 9) (k := 4) C rfl (by decide) rfl lf_TestJudge_27 hC_K0 (Or.inl rfl) rfl (gd DX9_init_0 19 rfl) ?_
  rw [hC_i]
  refine g_aload_n C (gd DX9_init_0 20 rfl) 0 rfl rfl ?_
  refine g_iconst (v := -1) C (gd DX9_init_0 21 rfl) (by decide) ?_
  refine g_puti (ci := 9) (k := 5) C rfl (by decide) rfl lf_TestJudge_30 hC_K0 (Or.inl rfl) rfl (gd DX9_init_0 22 rfl) ?_
  rw [hC_i]
  refine g_aload_n C (gd DX9_init_0 23 rfl) 0 rfl rfl ?_
  refine g_new (ci := 8) C rfl lc_TestJudge_33 lI_TestJudge_World li_TestJudge_World (by decide) (by decide) (gd DX9_init_0 24 rfl) (gdv8) ?_
  refine g_dup C (gd DX9_init_0 25 rfl) rfl ?_
  refine g_cIN C [] mX8_init (List.mem_of_getElem? (i := 1) rfl) e_X8_init hfl (by first | decide | omega) (by decide) (by omega) (by omega) rfl rfl (Nat.le_of_ble_eq_true rfl) (gd DX9_init_0 26 rfl) ?_
  rw [hC_Tn (n := 6) (by rfl), hC_c (n := 6) (by rfl)]
  refine g_putr (ci := 9) (k := 6) (ty := .object "TestJudge$World") C rfl (by decide) rfl lf_TestJudge_36 hC_K0 (Or.inl rfl) rfl rfl rfl (gd DX9_init_0 27 rfl) ?_
  rw [hC_r]
  refine g_aload_n C (gd DX9_init_0 28 rfl) 0 rfl rfl ?_
  refine g_new (ci := 0) C rfl lc_TestJudge_40 lI_TestJudge_Deeds li_TestJudge_Deeds (by decide) (by decide) (gd DX9_init_0 29 rfl) (gdv0) ?_
  refine g_dup C (gd DX9_init_0 30 rfl) rfl ?_
  refine g_cIN C [] mX0_init (List.mem_of_getElem? (i := 2) rfl) e_X0_init hfl (by first | decide | omega) (by decide) (by omega) (by omega) rfl rfl (Nat.le_of_ble_eq_true rfl) (gd DX9_init_0 31 rfl) ?_
  rw [hC_Tn (n := 12) (by rfl), hC_c (n := 12) (by rfl)]
  refine g_putr (ci := 9) (k := 7) (ty := .object "TestJudge$Deeds") C rfl (by decide) rfl lf_TestJudge_43 hC_K0 (Or.inr ⟨rfl, rfl, rfl⟩) rfl rfl rfl (gd DX9_init_0 32 rfl) ?_
  rw [hC_r]
  refine g_aload_n C (gd DX9_init_0 33 rfl) 0 rfl rfl ?_
  refine g_new (ci := 5) C rfl lc_TestJudge_47 lI_TestJudge_Search li_TestJudge_Search (by decide) (by decide) (gd DX9_init_0 34 rfl) (gdv5) ?_
  refine g_dup C (gd DX9_init_0 35 rfl) rfl ?_
  refine g_cIN C [] mX5_init (List.mem_of_getElem? (i := 3) rfl) e_X5_init hfl (by first | decide | omega) (by decide) (by omega) (by omega) rfl rfl (Nat.le_of_ble_eq_true rfl) (gd DX9_init_0 36 rfl) ?_
  rw [hC_Tn (n := 17) (by rfl), hC_c (n := 17) (by rfl)]
  refine g_putr (ci := 9) (k := 8) (ty := .object "TestJudge$Search") C rfl (by decide) rfl lf_TestJudge_50 hC_K0 (Or.inr ⟨rfl, rfl, rfl⟩) rfl rfl rfl (gd DX9_init_0 37 rfl) ?_
  rw [hC_r]
  refine g_aload_n C (gd DX9_init_0 38 rfl) 0 rfl rfl ?_
  refine g_new (ci := 6) C rfl lc_TestJudge_54 lI_TestJudge_Table li_TestJudge_Table (by decide) (by decide) (gd DX9_init_0 39 rfl) (gdv6) ?_
  refine g_dup C (gd DX9_init_0 40 rfl) rfl ?_
  refine g_cIN C [] mX6_init (List.mem_of_getElem? (i := 5) rfl) e_X6_init hfl (by first | decide | omega) (by decide) (by omega) (by omega) rfl rfl (Nat.le_of_ble_eq_true rfl) (gd DX9_init_0 41 rfl) ?_
  rw [hC_Tn (n := 36) (by rfl), hC_c (n := 36) (by rfl)]
  refine g_putr (ci := 9) (k := 9) (ty := .object "TestJudge$Table") C rfl (by decide) rfl lf_TestJudge_57 hC_K0 (Or.inr ⟨rfl, rfl, rfl⟩) rfl rfl rfl (gd DX9_init_0 42 rfl) ?_
  rw [hC_r]
  refine g_aload_n C (gd DX9_init_0 43 rfl) 0 rfl rfl ?_
  refine g_new (ci := 1) C rfl lc_TestJudge_61 lI_TestJudge_Paper li_TestJudge_Paper (by decide) (by decide) (gd DX9_init_0 44 rfl) (gdv1) ?_
  refine g_dup C (gd DX9_init_0 45 rfl) rfl ?_
  refine g_cIN C [] mX1_init (List.mem_of_getElem? (i := 6) rfl) e_X1_init hfl (by first | decide | omega) (by decide) (by omega) (by omega) rfl rfl (Nat.le_of_ble_eq_true rfl) (gd DX9_init_0 46 rfl) ?_
  rw [hC_Tn (n := 47) (by rfl), hC_c (n := 47) (by rfl)]
  refine g_putr (ci := 9) (k := 10) (ty := .object "TestJudge$Paper") C rfl (by decide) rfl lf_TestJudge_64 hC_K0 (Or.inr ⟨rfl, rfl, rfl⟩) rfl rfl rfl (gd DX9_init_0 47 rfl) ?_
  rw [hC_r]
  refine g_aload_n C (gd DX9_init_0 48 rfl) 0 rfl rfl ?_
  refine g_new (ci := 2) C rfl lc_TestJudge_68 lI_TestJudge_Piece li_TestJudge_Piece (by decide) (by decide) (gd DX9_init_0 49 rfl) (gdv2) ?_
  refine g_dup C (gd DX9_init_0 50 rfl) rfl ?_
  refine g_iconst (v := 0) C (gd DX9_init_0 51 rfl) (by decide) ?_
  refine g_iconst (v := 0) C (gd DX9_init_0 52 rfl) (by decide) ?_
  refine g_cI C [_, _] mX2_init lm_TestJudge_70 (e_pc_init 0 (by omega) _) hfl (by first | decide | omega) (by decide) (by omega) (by omega) rfl rfl (Nat.le_of_ble_eq_true rfl) (gd DX9_init_0 53 rfl) ?_
  rw [pcF_hC, hC_Tn (n := 49) (by rfl), hC_c (n := 49) (by rfl)]
  refine g_putr (ci := 9) (k := 11) (ty := .object "TestJudge$Piece") C rfl (by decide) rfl lf_TestJudge_73 hC_K0 (Or.inr ⟨rfl, rfl, rfl⟩) rfl rfl rfl (gd DX9_init_0 54 rfl) ?_
  rw [hC_r]
  refine g_aload_n C (gd DX9_init_0 55 rfl) 0 rfl rfl ?_
  refine g_iconst (v := -1) C (gd DX9_init_0 56 rfl) (by decide) ?_
  refine g_puti (ci := 9) (k := 12) C rfl (by decide) rfl lf_TestJudge_77 hC_K0 (Or.inl rfl) rfl (gd DX9_init_0 57 rfl) ?_
  rw [hC_i]
  refine g_aload_n C (gd DX9_init_0 58 rfl) 0 rfl rfl ?_
  refine g_iconst (v := 0) C (gd DX9_init_0 59 rfl) (by decide) ?_
  refine g_puti (ci := 9) (k := 13) C rfl (by decide) rfl lf_TestJudge_80 hC_K0 (Or.inl rfl) rfl (gd DX9_init_1 0 rfl) ?_
  rw [hC_i]
  refine g_aload_n C (gd DX9_init_1 1 rfl) 0 rfl rfl ?_
  refine g_iconst (v := 0) C (gd DX9_init_1 2 rfl) (by decide) ?_
  refine g_puti (ci := 9) (k := 14) C rfl (by decide) rfl lf_TestJudge_83 hC_K0 (Or.inl rfl) rfl (gd DX9_init_1 3 rfl) ?_
  rw [hC_i]
  exact g_vret C (by omega) (by omega) ⟨rfl, rfl⟩ (gd DX9_init_1 4 rfl)
end CT9
