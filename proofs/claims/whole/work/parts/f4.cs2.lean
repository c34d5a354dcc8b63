/-! The law's cases, each a pair of calls (made by gen_law.py) -/
section CS
variable {z : gZ} {D : lD} {Q : State → Prop} {m x b L i k : Nat} {xs : Nat → Int32} {V : aV} {M : aM} {ov : Int64} {H : Heap} {cn sn : Nat}
theorem l_c_both (J : lJ z D m x b L xs i k V M ov H cn sn) (N : lGo z D m x b i k Q) : LW z 7 (fun q => (zS z).heap.size ≤ q) Q cn sn 877 (lL b x m i) [] H := by
  obtain ⟨C, hX, hbl, hi, hL, hk, v, hc, hs⟩ := J
  have hbA : ¬ (zS z).heap.size ≤ b := Nat.not_le.mpr hbl
  have hV := lIV.ok v
  have h5 := lIV.m5 v
  have wk := lIV.wk v
  have hn : vNp V < 100000 := by have := hV.np; omega
  have hk5 : k ≤ 511 := by omega
  refine l_aload_n C.l (gd DL_law_8 16 rfl) 1 rfl rfl ?_
  refine l_aload_n C.l (gd DL_law_8 17 rfl) 0 rfl rfl ?_
  refine l_iload C.l (gd DL_law_8 18 rfl) 4 rfl ?_
  refine l_iconst (v := 1) C.l (gd DL_law_8 19 rfl) (by decide) ?_
  refine l_iadd C.l (gd DL_law_8 20 rfl) ?_
  refine l_sld C.l hX hbl hbA (l_in1 hi hL) (gd DL_law_8 21 rfl) ?_
  refine l_aload_n C.l (gd DL_law_8 22 rfl) 0 rfl rfl ?_
  refine l_iload C.l (gd DL_law_8 23 rfl) 4 rfl ?_
  refine l_iconst (v := 2) C.l (gd DL_law_8 24 rfl) (by decide) ?_
  refine l_iadd C.l (gd DL_law_8 25 rfl) ?_
  refine l_sld C.l hX hbl hbA (l_in2 hi hL) (gd DL_law_8 26 rfl) ?_
  refine l_aload_n C.l (gd DL_law_8 27 rfl) 0 rfl rfl ?_
  refine l_iload C.l (gd DL_law_8 28 rfl) 4 rfl ?_
  refine l_iconst (v := 3) C.l (gd DL_law_8 29 rfl) (by decide) ?_
  refine l_iadd C.l (gd DL_law_8 30 rfl) ?_
  refine l_sld C.l hX hbl hbA (l_in3 hi hL) (gd DL_law_8 31 rfl) ?_
  refine l_Xl (mc := 0) (ms := 0) (B := M.1.1) C v [.int _, .int _, .int _] mX9_both lm_TestJudgeLaw_104 rfl (fun w h si W RC K hM => e_x_both K hM _ _ _) rL_q (by decide) (by decide) (by omega) (by omega) rfl rfl (gd DL_law_8 32 rfl) (fun i1 V1 M1 H1 q1 t1 v => ?_)
  refine l_aload_n C.l (gd DL_law_8 33 rfl) 2 rfl rfl ?_
  refine l_aload_n C.l (gd DL_law_8 34 rfl) 0 rfl rfl ?_
  refine l_iload C.l (gd DL_law_8 35 rfl) 4 rfl ?_
  refine l_iconst (v := 1) C.l (gd DL_law_8 36 rfl) (by decide) ?_
  refine l_iadd C.l (gd DL_law_8 37 rfl) ?_
  refine l_sld C.l hX hbl hbA (l_in1 hi hL) (gd DL_law_8 38 rfl) ?_
  refine l_aload_n C.l (gd DL_law_8 39 rfl) 0 rfl rfl ?_
  refine l_iload C.l (gd DL_law_8 40 rfl) 4 rfl ?_
  refine l_iconst (v := 2) C.l (gd DL_law_8 41 rfl) (by decide) ?_
  refine l_iadd C.l (gd DL_law_8 42 rfl) ?_
  refine l_sld C.l hX hbl hbA (l_in2 hi hL) (gd DL_law_8 43 rfl) ?_
  refine l_aload_n C.l (gd DL_law_8 44 rfl) 0 rfl rfl ?_
  refine l_iload C.l (gd DL_law_8 45 rfl) 4 rfl ?_
  refine l_iconst (v := 3) C.l (gd DL_law_8 46 rfl) (by decide) ?_
  refine l_iadd C.l (gd DL_law_8 47 rfl) ?_
  refine l_sld C.l hX hbl hbA (l_in3 hi hL) (gd DL_law_8 48 rfl) ?_
  exact l_MeL C v [.int _, .int _, .int _] mX10_both lm_TestJudgeLaw_108 rfl (fun w h si v => b_m_both v _ _ _) (by decide) (by decide) (by omega) (by omega) rfl rfl (gd DL_law_8 49 rfl) (gd DL_law_8 50 rfl) (gd DL_law_8 51 rfl) (by decide) (fn_bth hV) q1 (fun H1 v => N V1 M1 ov H1 _ _ v (by omega) (by omega))
theorem l_c_rests (J : lJ z D m x b L xs i k V M ov H cn sn) (N : lGo z D m x b i k Q) : LW z 7 (fun q => (zS z).heap.size ≤ q) Q cn sn 927 (lL b x m i) [] H := by
  obtain ⟨C, hX, hbl, hi, hL, hk, v, hc, hs⟩ := J
  have hbA : ¬ (zS z).heap.size ≤ b := Nat.not_le.mpr hbl
  have hV := lIV.ok v
  have h5 := lIV.m5 v
  have wk := lIV.wk v
  have hn : vNp V < 100000 := by have := hV.np; omega
  have hk5 : k ≤ 511 := by omega
  refine l_aload_n C.l (gd DL_law_8 54 rfl) 1 rfl rfl ?_
  refine l_aload_n C.l (gd DL_law_8 55 rfl) 0 rfl rfl ?_
  refine l_iload C.l (gd DL_law_8 56 rfl) 4 rfl ?_
  refine l_iconst (v := 1) C.l (gd DL_law_8 57 rfl) (by decide) ?_
  refine l_iadd C.l (gd DL_law_8 58 rfl) ?_
  refine l_sld C.l hX hbl hbA (l_in1 hi hL) (gd DL_law_8 59 rfl) ?_
  refine l_Xi (mc := 0) (ms := 0) (B := M.1.1) C v [.int _] mX9_rests lm_TestJudgeLaw_109 rfl (fun w h si W RC K hM => e_x_rests K hM _) rI_q (by decide) (by decide) (by omega) (by omega) rfl rfl (gd DL_law_9 0 rfl) (fun i1 V1 M1 H1 q1 t1 v => ?_)
  refine l_aload_n C.l (gd DL_law_9 1 rfl) 2 rfl rfl ?_
  refine l_aload_n C.l (gd DL_law_9 2 rfl) 0 rfl rfl ?_
  refine l_iload C.l (gd DL_law_9 3 rfl) 4 rfl ?_
  refine l_iconst (v := 1) C.l (gd DL_law_9 4 rfl) (by decide) ?_
  refine l_iadd C.l (gd DL_law_9 5 rfl) ?_
  refine l_sld C.l hX hbl hbA (l_in1 hi hL) (gd DL_law_9 6 rfl) ?_
  exact l_Me C v [.int _] mX10_rests lm_TestJudgeLaw_112 rfl (fun w h si v => b_m_rests v _) (by decide) (by decide) (by omega) (by omega) rfl rfl (gd DL_law_9 7 rfl) (gd DL_law_9 8 rfl) (by decide) (ag2.one hn (fun r _ => ag_res)).q q1 (fun H1 v => N V1 M1 ov H1 _ _ v (by omega) (by omega))
theorem l_c_rest (J : lJ z D m x b L xs i k V M ov H cn sn) (N : lGo z D m x b i k Q) : LW z 7 (fun q => (zS z).heap.size ≤ q) Q cn sn 952 (lL b x m i) [] H := by
  obtain ⟨C, hX, hbl, hi, hL, hk, v, hc, hs⟩ := J
  have hbA : ¬ (zS z).heap.size ≤ b := Nat.not_le.mpr hbl
  have hV := lIV.ok v
  have h5 := lIV.m5 v
  have wk := lIV.wk v
  have hn : vNp V < 100000 := by have := hV.np; omega
  have hk5 : k ≤ 511 := by omega
  refine l_aload_n C.l (gd DL_law_9 11 rfl) 1 rfl rfl ?_
  refine l_aload_n C.l (gd DL_law_9 12 rfl) 0 rfl rfl ?_
  refine l_iload C.l (gd DL_law_9 13 rfl) 4 rfl ?_
  refine l_iconst (v := 1) C.l (gd DL_law_9 14 rfl) (by decide) ?_
  refine l_iadd C.l (gd DL_law_9 15 rfl) ?_
  refine l_sld C.l hX hbl hbA (l_in1 hi hL) (gd DL_law_9 16 rfl) ?_
  refine l_aload_n C.l (gd DL_law_9 17 rfl) 0 rfl rfl ?_
  refine l_iload C.l (gd DL_law_9 18 rfl) 4 rfl ?_
  refine l_iconst (v := 2) C.l (gd DL_law_9 19 rfl) (by decide) ?_
  refine l_iadd C.l (gd DL_law_9 20 rfl) ?_
  refine l_sld C.l hX hbl hbA (l_in2 hi hL) (gd DL_law_9 21 rfl) ?_
  refine l_Xi (mc := 0) (ms := 0) (B := M.1.1) C v [.int _, .int _] mX9_rest lm_TestJudgeLaw_113 rfl (fun w h si W RC K hM => e_x_rest K hM _ _) rI_q (by decide) (by decide) (by omega) (by omega) rfl rfl (gd DL_law_9 22 rfl) (fun i1 V1 M1 H1 q1 t1 v => ?_)
  refine l_aload_n C.l (gd DL_law_9 23 rfl) 2 rfl rfl ?_
  refine l_aload_n C.l (gd DL_law_9 24 rfl) 0 rfl rfl ?_
  refine l_iload C.l (gd DL_law_9 25 rfl) 4 rfl ?_
  refine l_iconst (v := 1) C.l (gd DL_law_9 26 rfl) (by decide) ?_
  refine l_iadd C.l (gd DL_law_9 27 rfl) ?_
  refine l_sld C.l hX hbl hbA (l_in1 hi hL) (gd DL_law_9 28 rfl) ?_
  refine l_aload_n C.l (gd DL_law_9 29 rfl) 0 rfl rfl ?_
  refine l_iload C.l (gd DL_law_9 30 rfl) 4 rfl ?_
  refine l_iconst (v := 2) C.l (gd DL_law_9 31 rfl) (by decide) ?_
  refine l_iadd C.l (gd DL_law_9 32 rfl) ?_
  refine l_sld C.l hX hbl hbA (l_in2 hi hL) (gd DL_law_9 33 rfl) ?_
  exact l_Me C v [.int _, .int _] mX10_rest lm_TestJudgeLaw_116 rfl (fun w h si v => b_m_rest v _ _) (by decide) (by decide) (by omega) (by omega) rfl rfl (gd DL_law_9 34 rfl) (gd DL_law_9 35 rfl) (by decide) (ag2.one hn (fun r _ => ag_rst)).q q1 (fun H1 v => N V1 M1 ov H1 _ _ v (by omega) (by omega))
theorem l_c_next (J : lJ z D m x b L xs i k V M ov H cn sn) (N : lGo z D m x b i k Q) : LW z 7 (fun q => (zS z).heap.size ≤ q) Q cn sn 989 (lL b x m i) [] H := by
  obtain ⟨C, hX, hbl, hi, hL, hk, v, hc, hs⟩ := J
  have hbA : ¬ (zS z).heap.size ≤ b := Nat.not_le.mpr hbl
  have hV := lIV.ok v
  have h5 := lIV.m5 v
  have wk := lIV.wk v
  have hn : vNp V < 100000 := by have := hV.np; omega
  have hk5 : k ≤ 511 := by omega
  refine l_aload_n C.l (gd DL_law_9 38 rfl) 1 rfl rfl ?_
  refine l_aload_n C.l (gd DL_law_9 39 rfl) 0 rfl rfl ?_
  refine l_iload C.l (gd DL_law_9 40 rfl) 4 rfl ?_
  refine l_iconst (v := 1) C.l (gd DL_law_9 41 rfl) (by decide) ?_
  refine l_iadd C.l (gd DL_law_9 42 rfl) ?_
  refine l_sld C.l hX hbl hbA (l_in1 hi hL) (gd DL_law_9 43 rfl) ?_
  refine l_aload_n C.l (gd DL_law_9 44 rfl) 0 rfl rfl ?_
  refine l_iload C.l (gd DL_law_9 45 rfl) 4 rfl ?_
  refine l_iconst (v := 2) C.l (gd DL_law_9 46 rfl) (by decide) ?_
  refine l_iadd C.l (gd DL_law_9 47 rfl) ?_
  refine l_sld C.l hX hbl hbA (l_in2 hi hL) (gd DL_law_9 48 rfl) ?_
  refine l_aload_n C.l (gd DL_law_9 49 rfl) 0 rfl rfl ?_
  refine l_iload C.l (gd DL_law_9 50 rfl) 4 rfl ?_
  refine l_iconst (v := 3) C.l (gd DL_law_9 51 rfl) (by decide) ?_
  refine l_iadd C.l (gd DL_law_9 52 rfl) ?_
  refine l_sld C.l hX hbl hbA (l_in3 hi hL) (gd DL_law_9 53 rfl) ?_
  refine l_aload_n C.l (gd DL_law_9 54 rfl) 0 rfl rfl ?_
  refine l_iload C.l (gd DL_law_9 55 rfl) 4 rfl ?_
  refine l_iconst (v := 4) C.l (gd DL_law_9 56 rfl) (by decide) ?_
  refine l_iadd C.l (gd DL_law_9 57 rfl) ?_
  refine l_sld C.l hX hbl hbA (l_in4 hi hL) (gd DL_law_9 58 rfl) ?_
  refine l_Xi (mc := 0) (ms := 0) (B := M.1.1) C v [.int _, .int _, .int _, .int _] mX9_next lm_TestJudgeLaw_117 rfl (fun w h si W RC K hM => e_x_next K hM _ _ _ _) rI_q (by decide) (by decide) (by omega) (by omega) rfl rfl (gd DL_law_9 59 rfl) (fun i1 V1 M1 H1 q1 t1 v => ?_)
  refine l_aload_n C.l (gd DL_law_10 0 rfl) 2 rfl rfl ?_
  refine l_aload_n C.l (gd DL_law_10 1 rfl) 0 rfl rfl ?_
  refine l_iload C.l (gd DL_law_10 2 rfl) 4 rfl ?_
  refine l_iconst (v := 1) C.l (gd DL_law_10 3 rfl) (by decide) ?_
  refine l_iadd C.l (gd DL_law_10 4 rfl) ?_
  refine l_sld C.l hX hbl hbA (l_in1 hi hL) (gd DL_law_10 5 rfl) ?_
  refine l_aload_n C.l (gd DL_law_10 6 rfl) 0 rfl rfl ?_
  refine l_iload C.l (gd DL_law_10 7 rfl) 4 rfl ?_
  refine l_iconst (v := 2) C.l (gd DL_law_10 8 rfl) (by decide) ?_
  refine l_iadd C.l (gd DL_law_10 9 rfl) ?_
  refine l_sld C.l hX hbl hbA (l_in2 hi hL) (gd DL_law_10 10 rfl) ?_
  refine l_aload_n C.l (gd DL_law_10 11 rfl) 0 rfl rfl ?_
  refine l_iload C.l (gd DL_law_10 12 rfl) 4 rfl ?_
  refine l_iconst (v := 3) C.l (gd DL_law_10 13 rfl) (by decide) ?_
  refine l_iadd C.l (gd DL_law_10 14 rfl) ?_
  refine l_sld C.l hX hbl hbA (l_in3 hi hL) (gd DL_law_10 15 rfl) ?_
  refine l_aload_n C.l (gd DL_law_10 16 rfl) 0 rfl rfl ?_
  refine l_iload C.l (gd DL_law_10 17 rfl) 4 rfl ?_
  refine l_iconst (v := 4) C.l (gd DL_law_10 18 rfl) (by decide) ?_
  refine l_iadd C.l (gd DL_law_10 19 rfl) ?_
  refine l_sld C.l hX hbl hbA (l_in4 hi hL) (gd DL_law_10 20 rfl) ?_
  exact l_Me C v [.int _, .int _, .int _, .int _] mX10_next_ lm_TestJudgeLaw_121 rfl (fun w h si v => b_m_next v _ _ _ _) (by decide) (by decide) (by omega) (by omega) rfl rfl (gd DL_law_10 21 rfl) (gd DL_law_10 22 rfl) (by decide) (ag_next hV).q q1 (fun H1 v => N V1 M1 ov H1 _ _ v (by omega) (by omega))
theorem l_c_clear (J : lJ z D m x b L xs i k V M ov H cn sn) (N : lGo z D m x b i k Q) : LW z 7 (fun q => (zS z).heap.size ≤ q) Q cn sn 1050 (lL b x m i) [] H := by
  obtain ⟨C, hX, hbl, hi, hL, hk, v, hc, hs⟩ := J
  have hbA : ¬ (zS z).heap.size ≤ b := Nat.not_le.mpr hbl
  have hV := lIV.ok v
  have h5 := lIV.m5 v
  have wk := lIV.wk v
  have hn : vNp V < 100000 := by have := hV.np; omega
  have hk5 : k ≤ 511 := by omega
  refine l_aload_n C.l (gd DL_law_10 25 rfl) 1 rfl rfl ?_
  refine l_aload_n C.l (gd DL_law_10 26 rfl) 0 rfl rfl ?_
  refine l_iload C.l (gd DL_law_10 27 rfl) 4 rfl ?_
  refine l_iconst (v := 1) C.l (gd DL_law_10 28 rfl) (by decide) ?_
  refine l_iadd C.l (gd DL_law_10 29 rfl) ?_
  refine l_sld C.l hX hbl hbA (l_in1 hi hL) (gd DL_law_10 30 rfl) ?_
  refine l_Xi (mc := 0) (ms := 0) (B := M.1.1) C v [.int _] mX9_clear lm_TestJudgeLaw_122 rfl (fun w h si W RC K hM => e_x_clear K hM _) rI_q (by decide) (by decide) (by omega) (by omega) rfl rfl (gd DL_law_10 31 rfl) (fun i1 V1 M1 H1 q1 t1 v => ?_)
  refine l_aload_n C.l (gd DL_law_10 32 rfl) 2 rfl rfl ?_
  refine l_aload_n C.l (gd DL_law_10 33 rfl) 0 rfl rfl ?_
  refine l_iload C.l (gd DL_law_10 34 rfl) 4 rfl ?_
  refine l_iconst (v := 1) C.l (gd DL_law_10 35 rfl) (by decide) ?_
  refine l_iadd C.l (gd DL_law_10 36 rfl) ?_
  refine l_sld C.l hX hbl hbA (l_in1 hi hL) (gd DL_law_10 37 rfl) ?_
  exact l_Me C v [.int _] mX10_clear lm_TestJudgeLaw_125 rfl (fun w h si v => b_m_clear v _) (by decide) (by decide) (by omega) (by omega) rfl rfl (gd DL_law_10 38 rfl) (gd DL_law_10 39 rfl) (by decide) (ag2.one hn (fun r _ => ag_clr hV)).q q1 (fun H1 v => N V1 M1 ov H1 _ _ v (by omega) (by omega))
theorem l_c_far (J : lJ z D m x b L xs i k V M ov H cn sn) (N : lGo z D m x b i k Q) : LW z 7 (fun q => (zS z).heap.size ≤ q) Q cn sn 1075 (lL b x m i) [] H := by
  obtain ⟨C, hX, hbl, hi, hL, hk, v, hc, hs⟩ := J
  have hbA : ¬ (zS z).heap.size ≤ b := Nat.not_le.mpr hbl
  have hV := lIV.ok v
  have h5 := lIV.m5 v
  have wk := lIV.wk v
  have hn : vNp V < 100000 := by have := hV.np; omega
  have hk5 : k ≤ 511 := by omega
  refine l_aload_n C.l (gd DL_law_10 42 rfl) 1 rfl rfl ?_
  refine l_aload_n C.l (gd DL_law_10 43 rfl) 0 rfl rfl ?_
  refine l_iload C.l (gd DL_law_10 44 rfl) 4 rfl ?_
  refine l_iconst (v := 1) C.l (gd DL_law_10 45 rfl) (by decide) ?_
  refine l_iadd C.l (gd DL_law_10 46 rfl) ?_
  refine l_sld C.l hX hbl hbA (l_in1 hi hL) (gd DL_law_10 47 rfl) ?_
  refine l_aload_n C.l (gd DL_law_10 48 rfl) 0 rfl rfl ?_
  refine l_iload C.l (gd DL_law_10 49 rfl) 4 rfl ?_
  refine l_iconst (v := 2) C.l (gd DL_law_10 50 rfl) (by decide) ?_
  refine l_iadd C.l (gd DL_law_10 51 rfl) ?_
  refine l_sld C.l hX hbl hbA (l_in2 hi hL) (gd DL_law_10 52 rfl) ?_
  refine l_Xi (mc := 0) (ms := 0) (B := M.1.1) C v [.int _, .int _] mX9_far lm_TestJudgeLaw_126 rfl (fun w h si W RC K hM => e_x_far K hM _ _) rI_q (by decide) (by decide) (by omega) (by omega) rfl rfl (gd DL_law_10 53 rfl) (fun i1 V1 M1 H1 q1 t1 v => ?_)
  refine l_aload_n C.l (gd DL_law_10 54 rfl) 2 rfl rfl ?_
  refine l_aload_n C.l (gd DL_law_10 55 rfl) 0 rfl rfl ?_
  refine l_iload C.l (gd DL_law_10 56 rfl) 4 rfl ?_
  refine l_iconst (v := 1) C.l (gd DL_law_10 57 rfl) (by decide) ?_
  refine l_iadd C.l (gd DL_law_10 58 rfl) ?_
  refine l_sld C.l hX hbl hbA (l_in1 hi hL) (gd DL_law_10 59 rfl) ?_
  refine l_aload_n C.l (gd DL_law_11 0 rfl) 0 rfl rfl ?_
  refine l_iload C.l (gd DL_law_11 1 rfl) 4 rfl ?_
  refine l_iconst (v := 2) C.l (gd DL_law_11 2 rfl) (by decide) ?_
  refine l_iadd C.l (gd DL_law_11 3 rfl) ?_
  refine l_sld C.l hX hbl hbA (l_in2 hi hL) (gd DL_law_11 4 rfl) ?_
  exact l_Me C v [.int _, .int _] mX10_far lm_TestJudgeLaw_129 rfl (fun w h si v => b_m_far v _ _) (by decide) (by decide) (by omega) (by omega) rfl rfl (gd DL_law_11 5 rfl) (gd DL_law_11 6 rfl) (by decide) (ag2.one hn (fun r _ => ag_far)).q q1 (fun H1 v => N V1 M1 ov H1 _ _ v (by omega) (by omega))
theorem l_c_right (J : lJ z D m x b L xs i k V M ov H cn sn) (N : lGo z D m x b i k Q) : LW z 7 (fun q => (zS z).heap.size ≤ q) Q cn sn 1112 (lL b x m i) [] H := by
  obtain ⟨C, hX, hbl, hi, hL, hk, v, hc, hs⟩ := J
  have hbA : ¬ (zS z).heap.size ≤ b := Nat.not_le.mpr hbl
  have hV := lIV.ok v
  have h5 := lIV.m5 v
  have wk := lIV.wk v
  have hn : vNp V < 100000 := by have := hV.np; omega
  have hk5 : k ≤ 511 := by omega
  refine l_aload_n C.l (gd DL_law_11 9 rfl) 1 rfl rfl ?_
  refine l_aload_n C.l (gd DL_law_11 10 rfl) 0 rfl rfl ?_
  refine l_iload C.l (gd DL_law_11 11 rfl) 4 rfl ?_
  refine l_iconst (v := 1) C.l (gd DL_law_11 12 rfl) (by decide) ?_
  refine l_iadd C.l (gd DL_law_11 13 rfl) ?_
  refine l_sld C.l hX hbl hbA (l_in1 hi hL) (gd DL_law_11 14 rfl) ?_
  refine l_aload_n C.l (gd DL_law_11 15 rfl) 0 rfl rfl ?_
  refine l_iload C.l (gd DL_law_11 16 rfl) 4 rfl ?_
  refine l_iconst (v := 2) C.l (gd DL_law_11 17 rfl) (by decide) ?_
  refine l_iadd C.l (gd DL_law_11 18 rfl) ?_
  refine l_sld C.l hX hbl hbA (l_in2 hi hL) (gd DL_law_11 19 rfl) ?_
  refine l_aload_n C.l (gd DL_law_11 20 rfl) 0 rfl rfl ?_
  refine l_iload C.l (gd DL_law_11 21 rfl) 4 rfl ?_
  refine l_iconst (v := 3) C.l (gd DL_law_11 22 rfl) (by decide) ?_
  refine l_iadd C.l (gd DL_law_11 23 rfl) ?_
  refine l_sld C.l hX hbl hbA (l_in3 hi hL) (gd DL_law_11 24 rfl) ?_
  refine l_Xi (mc := 0) (ms := 0) (B := M.1.1) C v [.int _, .int _, .int _] mX9_right lm_TestJudgeLaw_130 rfl (fun w h si W RC K hM => e_x_right K hM _ _ _) rI_q (by decide) (by decide) (by omega) (by omega) rfl rfl (gd DL_law_11 25 rfl) (fun i1 V1 M1 H1 q1 t1 v => ?_)
  refine l_aload_n C.l (gd DL_law_11 26 rfl) 2 rfl rfl ?_
  refine l_aload_n C.l (gd DL_law_11 27 rfl) 0 rfl rfl ?_
  refine l_iload C.l (gd DL_law_11 28 rfl) 4 rfl ?_
  refine l_iconst (v := 1) C.l (gd DL_law_11 29 rfl) (by decide) ?_
  refine l_iadd C.l (gd DL_law_11 30 rfl) ?_
  refine l_sld C.l hX hbl hbA (l_in1 hi hL) (gd DL_law_11 31 rfl) ?_
  refine l_aload_n C.l (gd DL_law_11 32 rfl) 0 rfl rfl ?_
  refine l_iload C.l (gd DL_law_11 33 rfl) 4 rfl ?_
  refine l_iconst (v := 2) C.l (gd DL_law_11 34 rfl) (by decide) ?_
  refine l_iadd C.l (gd DL_law_11 35 rfl) ?_
  refine l_sld C.l hX hbl hbA (l_in2 hi hL) (gd DL_law_11 36 rfl) ?_
  refine l_aload_n C.l (gd DL_law_11 37 rfl) 0 rfl rfl ?_
  refine l_iload C.l (gd DL_law_11 38 rfl) 4 rfl ?_
  refine l_iconst (v := 3) C.l (gd DL_law_11 39 rfl) (by decide) ?_
  refine l_iadd C.l (gd DL_law_11 40 rfl) ?_
  refine l_sld C.l hX hbl hbA (l_in3 hi hL) (gd DL_law_11 41 rfl) ?_
  exact l_Me C v [.int _, .int _, .int _] mX10_right lm_TestJudgeLaw_133 rfl (fun w h si v => b_m_right v _ _ _) (by decide) (by decide) (by omega) (by omega) rfl rfl (gd DL_law_11 42 rfl) (gd DL_law_11 43 rfl) (by decide) (ag2.gat (fun c => ag2.one hn (fun r _ => ag_rig))).q q1 (fun H1 v => N V1 M1 ov H1 _ _ v (by omega) (by omega))
theorem l_c_weakest (J : lJ z D m x b L xs i k V M ov H cn sn) (N : lGo z D m x b i k Q) : LW z 7 (fun q => (zS z).heap.size ≤ q) Q cn sn 1161 (lL b x m i) [] H := by
  obtain ⟨C, hX, hbl, hi, hL, hk, v, hc, hs⟩ := J
  have hbA : ¬ (zS z).heap.size ≤ b := Nat.not_le.mpr hbl
  have hV := lIV.ok v
  have h5 := lIV.m5 v
  have wk := lIV.wk v
  have hn : vNp V < 100000 := by have := hV.np; omega
  have hk5 : k ≤ 511 := by omega
  refine l_aload_n C.l (gd DL_law_11 46 rfl) 1 rfl rfl ?_
  refine l_aload_n C.l (gd DL_law_11 47 rfl) 0 rfl rfl ?_
  refine l_iload C.l (gd DL_law_11 48 rfl) 4 rfl ?_
  refine l_iconst (v := 1) C.l (gd DL_law_11 49 rfl) (by decide) ?_
  refine l_iadd C.l (gd DL_law_11 50 rfl) ?_
  refine l_sld C.l hX hbl hbA (l_in1 hi hL) (gd DL_law_11 51 rfl) ?_
  refine l_aload_n C.l (gd DL_law_11 52 rfl) 0 rfl rfl ?_
  refine l_iload C.l (gd DL_law_11 53 rfl) 4 rfl ?_
  refine l_iconst (v := 2) C.l (gd DL_law_11 54 rfl) (by decide) ?_
  refine l_iadd C.l (gd DL_law_11 55 rfl) ?_
  refine l_sld C.l hX hbl hbA (l_in2 hi hL) (gd DL_law_11 56 rfl) ?_
  refine l_Xi (mc := 0) (ms := 0) (B := M.1.1) C v [.int _, .int _] mX9_weakest lm_TestJudgeLaw_134 rfl (fun w h si W RC K hM => e_x_weakest K hM _ _) rI_q (by decide) (by decide) (by omega) (by omega) rfl rfl (gd DL_law_11 57 rfl) (fun i1 V1 M1 H1 q1 t1 v => ?_)
  refine l_aload_n C.l (gd DL_law_11 58 rfl) 2 rfl rfl ?_
  refine l_aload_n C.l (gd DL_law_11 59 rfl) 0 rfl rfl ?_
  refine l_iload C.l (gd DL_law_12 0 rfl) 4 rfl ?_
  refine l_iconst (v := 1) C.l (gd DL_law_12 1 rfl) (by decide) ?_
  refine l_iadd C.l (gd DL_law_12 2 rfl) ?_
  refine l_sld C.l hX hbl hbA (l_in1 hi hL) (gd DL_law_12 3 rfl) ?_
  refine l_aload_n C.l (gd DL_law_12 4 rfl) 0 rfl rfl ?_
  refine l_iload C.l (gd DL_law_12 5 rfl) 4 rfl ?_
  refine l_iconst (v := 2) C.l (gd DL_law_12 6 rfl) (by decide) ?_
  refine l_iadd C.l (gd DL_law_12 7 rfl) ?_
  refine l_sld C.l hX hbl hbA (l_in2 hi hL) (gd DL_law_12 8 rfl) ?_
  exact l_Me C v [.int _, .int _] mX10_weakest lm_TestJudgeLaw_137 rfl (fun w h si v => b_m_weakest v _ _) (by decide) (by decide) (by omega) (by omega) rfl rfl (gd DL_law_12 9 rfl) (gd DL_law_12 10 rfl) (by decide) (ag2.gat (fun c => ag2.one hn (fun r _ => ag_wea hV))).q q1 (fun H1 v => N V1 M1 ov H1 _ _ v (by omega) (by omega))
theorem l_c_strongest (J : lJ z D m x b L xs i k V M ov H cn sn) (N : lGo z D m x b i k Q) : LW z 7 (fun q => (zS z).heap.size ≤ q) Q cn sn 1198 (lL b x m i) [] H := by
  obtain ⟨C, hX, hbl, hi, hL, hk, v, hc, hs⟩ := J
  have hbA : ¬ (zS z).heap.size ≤ b := Nat.not_le.mpr hbl
  have hV := lIV.ok v
  have h5 := lIV.m5 v
  have wk := lIV.wk v
  have hn : vNp V < 100000 := by have := hV.np; omega
  have hk5 : k ≤ 511 := by omega
  refine l_aload_n C.l (gd DL_law_12 13 rfl) 1 rfl rfl ?_
  refine l_aload_n C.l (gd DL_law_12 14 rfl) 0 rfl rfl ?_
  refine l_iload C.l (gd DL_law_12 15 rfl) 4 rfl ?_
  refine l_iconst (v := 1) C.l (gd DL_law_12 16 rfl) (by decide) ?_
  refine l_iadd C.l (gd DL_law_12 17 rfl) ?_
  refine l_sld C.l hX hbl hbA (l_in1 hi hL) (gd DL_law_12 18 rfl) ?_
  refine l_aload_n C.l (gd DL_law_12 19 rfl) 0 rfl rfl ?_
  refine l_iload C.l (gd DL_law_12 20 rfl) 4 rfl ?_
  refine l_iconst (v := 2) C.l (gd DL_law_12 21 rfl) (by decide) ?_
  refine l_iadd C.l (gd DL_law_12 22 rfl) ?_
  refine l_sld C.l hX hbl hbA (l_in2 hi hL) (gd DL_law_12 23 rfl) ?_
  refine l_Xi (mc := 0) (ms := 0) (B := M.1.1) C v [.int _, .int _] mX9_strongest lm_TestJudgeLaw_138 rfl (fun w h si W RC K hM => e_x_strongest K hM _ _) rI_q (by decide) (by decide) (by omega) (by omega) rfl rfl (gd DL_law_12 24 rfl) (fun i1 V1 M1 H1 q1 t1 v => ?_)
  refine l_aload_n C.l (gd DL_law_12 25 rfl) 2 rfl rfl ?_
  refine l_aload_n C.l (gd DL_law_12 26 rfl) 0 rfl rfl ?_
  refine l_iload C.l (gd DL_law_12 27 rfl) 4 rfl ?_
  refine l_iconst (v := 1) C.l (gd DL_law_12 28 rfl) (by decide) ?_
  refine l_iadd C.l (gd DL_law_12 29 rfl) ?_
  refine l_sld C.l hX hbl hbA (l_in1 hi hL) (gd DL_law_12 30 rfl) ?_
  refine l_aload_n C.l (gd DL_law_12 31 rfl) 0 rfl rfl ?_
  refine l_iload C.l (gd DL_law_12 32 rfl) 4 rfl ?_
  refine l_iconst (v := 2) C.l (gd DL_law_12 33 rfl) (by decide) ?_
  refine l_iadd C.l (gd DL_law_12 34 rfl) ?_
  refine l_sld C.l hX hbl hbA (l_in2 hi hL) (gd DL_law_12 35 rfl) ?_
  exact l_Me C v [.int _, .int _] mX10_strongest lm_TestJudgeLaw_141 rfl (fun w h si v => b_m_strongest v _ _) (by decide) (by decide) (by omega) (by omega) rfl rfl (gd DL_law_12 36 rfl) (gd DL_law_12 37 rfl) (by decide) (ag2.gat (fun c => ag2.one hn (fun r _ => ag_str))).q q1 (fun H1 v => N V1 M1 ov H1 _ _ v (by omega) (by omega))
theorem l_c_keeps (J : lJ z D m x b L xs i k V M ov H cn sn) (N : lGo z D m x b i k Q) : LW z 7 (fun q => (zS z).heap.size ≤ q) Q cn sn 1235 (lL b x m i) [] H := by
  obtain ⟨C, hX, hbl, hi, hL, hk, v, hc, hs⟩ := J
  have hbA : ¬ (zS z).heap.size ≤ b := Nat.not_le.mpr hbl
  have hV := lIV.ok v
  have h5 := lIV.m5 v
  have wk := lIV.wk v
  have hn : vNp V < 100000 := by have := hV.np; omega
  have hk5 : k ≤ 511 := by omega
  refine l_aload_n C.l (gd DL_law_12 40 rfl) 1 rfl rfl ?_
  refine l_aload_n C.l (gd DL_law_12 41 rfl) 0 rfl rfl ?_
  refine l_iload C.l (gd DL_law_12 42 rfl) 4 rfl ?_
  refine l_iconst (v := 1) C.l (gd DL_law_12 43 rfl) (by decide) ?_
  refine l_iadd C.l (gd DL_law_12 44 rfl) ?_
  refine l_sld C.l hX hbl hbA (l_in1 hi hL) (gd DL_law_12 45 rfl) ?_
  refine l_aload_n C.l (gd DL_law_12 46 rfl) 0 rfl rfl ?_
  refine l_iload C.l (gd DL_law_12 47 rfl) 4 rfl ?_
  refine l_iconst (v := 2) C.l (gd DL_law_12 48 rfl) (by decide) ?_
  refine l_iadd C.l (gd DL_law_12 49 rfl) ?_
  refine l_sld C.l hX hbl hbA (l_in2 hi hL) (gd DL_law_12 50 rfl) ?_
  refine l_Xi (mc := 0) (ms := 0) (B := M.1.1) C v [.int _, .int _] mX9_keeps lm_TestJudgeLaw_142 rfl (fun w h si W RC K hM => e_x_keeps K hM _ _) rI_q (by decide) (by decide) (by omega) (by omega) rfl rfl (gd DL_law_12 51 rfl) (fun i1 V1 M1 H1 q1 t1 v => ?_)
  refine l_aload_n C.l (gd DL_law_12 52 rfl) 2 rfl rfl ?_
  refine l_aload_n C.l (gd DL_law_12 53 rfl) 0 rfl rfl ?_
  refine l_iload C.l (gd DL_law_12 54 rfl) 4 rfl ?_
  refine l_iconst (v := 1) C.l (gd DL_law_12 55 rfl) (by decide) ?_
  refine l_iadd C.l (gd DL_law_12 56 rfl) ?_
  refine l_sld C.l hX hbl hbA (l_in1 hi hL) (gd DL_law_12 57 rfl) ?_
  refine l_aload_n C.l (gd DL_law_12 58 rfl) 0 rfl rfl ?_
  refine l_iload C.l (gd DL_law_12 59 rfl) 4 rfl ?_
  refine l_iconst (v := 2) C.l (gd DL_law_13 0 rfl) (by decide) ?_
  refine l_iadd C.l (gd DL_law_13 1 rfl) ?_
  refine l_sld C.l hX hbl hbA (l_in2 hi hL) (gd DL_law_13 2 rfl) ?_
  exact l_Me C v [.int _, .int _] mX10_keeps lm_TestJudgeLaw_145 rfl (fun w h si v => b_m_keeps v _ _) (by decide) (by decide) (by omega) (by omega) rfl rfl (gd DL_law_13 3 rfl) (gd DL_law_13 4 rfl) (by decide) (ag2.gat (fun c => ag2.one hn (fun r _ => ag_kee hV c))).q q1 (fun H1 v => N V1 M1 ov H1 _ _ v (by omega) (by omega))
theorem l_c_needs (J : lJ z D m x b L xs i k V M ov H cn sn) (N : lGo z D m x b i k Q) : LW z 7 (fun q => (zS z).heap.size ≤ q) Q cn sn 1272 (lL b x m i) [] H := by
  obtain ⟨C, hX, hbl, hi, hL, hk, v, hc, hs⟩ := J
  have hbA : ¬ (zS z).heap.size ≤ b := Nat.not_le.mpr hbl
  have hV := lIV.ok v
  have h5 := lIV.m5 v
  have wk := lIV.wk v
  have hn : vNp V < 100000 := by have := hV.np; omega
  have hk5 : k ≤ 511 := by omega
  refine l_aload_n C.l (gd DL_law_13 7 rfl) 1 rfl rfl ?_
  refine l_aload_n C.l (gd DL_law_13 8 rfl) 0 rfl rfl ?_
  refine l_iload C.l (gd DL_law_13 9 rfl) 4 rfl ?_
  refine l_iconst (v := 1) C.l (gd DL_law_13 10 rfl) (by decide) ?_
  refine l_iadd C.l (gd DL_law_13 11 rfl) ?_
  refine l_sld C.l hX hbl hbA (l_in1 hi hL) (gd DL_law_13 12 rfl) ?_
  refine l_aload_n C.l (gd DL_law_13 13 rfl) 0 rfl rfl ?_
  refine l_iload C.l (gd DL_law_13 14 rfl) 4 rfl ?_
  refine l_iconst (v := 2) C.l (gd DL_law_13 15 rfl) (by decide) ?_
  refine l_iadd C.l (gd DL_law_13 16 rfl) ?_
  refine l_sld C.l hX hbl hbA (l_in2 hi hL) (gd DL_law_13 17 rfl) ?_
  refine l_Xi (mc := 0) (ms := 0) (B := M.1.1) C v [.int _, .int _] mX9_needs lm_TestJudgeLaw_146 rfl (fun w h si W RC K hM => e_x_needs K hM _ _) rI_q (by decide) (by decide) (by omega) (by omega) rfl rfl (gd DL_law_13 18 rfl) (fun i1 V1 M1 H1 q1 t1 v => ?_)
  refine l_aload_n C.l (gd DL_law_13 19 rfl) 2 rfl rfl ?_
  refine l_aload_n C.l (gd DL_law_13 20 rfl) 0 rfl rfl ?_
  refine l_iload C.l (gd DL_law_13 21 rfl) 4 rfl ?_
  refine l_iconst (v := 1) C.l (gd DL_law_13 22 rfl) (by decide) ?_
  refine l_iadd C.l (gd DL_law_13 23 rfl) ?_
  refine l_sld C.l hX hbl hbA (l_in1 hi hL) (gd DL_law_13 24 rfl) ?_
  refine l_aload_n C.l (gd DL_law_13 25 rfl) 0 rfl rfl ?_
  refine l_iload C.l (gd DL_law_13 26 rfl) 4 rfl ?_
  refine l_iconst (v := 2) C.l (gd DL_law_13 27 rfl) (by decide) ?_
  refine l_iadd C.l (gd DL_law_13 28 rfl) ?_
  refine l_sld C.l hX hbl hbA (l_in2 hi hL) (gd DL_law_13 29 rfl) ?_
  exact l_Me C v [.int _, .int _] mX10_needs_ lm_TestJudgeLaw_149 rfl (fun w h si v => b_m_needs v _ _) (by decide) (by decide) (by omega) (by omega) rfl rfl (gd DL_law_13 30 rfl) (gd DL_law_13 31 rfl) (by decide) (fQ2.two hn (fun r q _ _ => fn_nee)).q q1 (fun H1 v => N V1 M1 ov H1 _ _ v (by omega) (by omega))
theorem l_c_fewest (J : lJ z D m x b L xs i k V M ov H cn sn) (N : lGo z D m x b i k Q) : LW z 7 (fun q => (zS z).heap.size ≤ q) Q cn sn 1309 (lL b x m i) [] H := by
  obtain ⟨C, hX, hbl, hi, hL, hk, v, hc, hs⟩ := J
  have hbA : ¬ (zS z).heap.size ≤ b := Nat.not_le.mpr hbl
  have hV := lIV.ok v
  have h5 := lIV.m5 v
  have wk := lIV.wk v
  have hn : vNp V < 100000 := by have := hV.np; omega
  have hk5 : k ≤ 511 := by omega
  refine l_aload_n C.l (gd DL_law_13 34 rfl) 1 rfl rfl ?_
  refine l_aload_n C.l (gd DL_law_13 35 rfl) 0 rfl rfl ?_
  refine l_iload C.l (gd DL_law_13 36 rfl) 4 rfl ?_
  refine l_iconst (v := 1) C.l (gd DL_law_13 37 rfl) (by decide) ?_
  refine l_iadd C.l (gd DL_law_13 38 rfl) ?_
  refine l_sld C.l hX hbl hbA (l_in1 hi hL) (gd DL_law_13 39 rfl) ?_
  refine l_aload_n C.l (gd DL_law_13 40 rfl) 0 rfl rfl ?_
  refine l_iload C.l (gd DL_law_13 41 rfl) 4 rfl ?_
  refine l_iconst (v := 2) C.l (gd DL_law_13 42 rfl) (by decide) ?_
  refine l_iadd C.l (gd DL_law_13 43 rfl) ?_
  refine l_sld C.l hX hbl hbA (l_in2 hi hL) (gd DL_law_13 44 rfl) ?_
  refine l_Xi (mc := 0) (ms := 0) (B := M.1.1) C v [.int _, .int _] mX9_fewest lm_TestJudgeLaw_150 rfl (fun w h si W RC K hM => e_x_fewest K hM _ _) rI_q (by decide) (by decide) (by omega) (by omega) rfl rfl (gd DL_law_13 45 rfl) (fun i1 V1 M1 H1 q1 t1 v => ?_)
  refine l_aload_n C.l (gd DL_law_13 46 rfl) 2 rfl rfl ?_
  refine l_aload_n C.l (gd DL_law_13 47 rfl) 0 rfl rfl ?_
  refine l_iload C.l (gd DL_law_13 48 rfl) 4 rfl ?_
  refine l_iconst (v := 1) C.l (gd DL_law_13 49 rfl) (by decide) ?_
  refine l_iadd C.l (gd DL_law_13 50 rfl) ?_
  refine l_sld C.l hX hbl hbA (l_in1 hi hL) (gd DL_law_13 51 rfl) ?_
  refine l_aload_n C.l (gd DL_law_13 52 rfl) 0 rfl rfl ?_
  refine l_iload C.l (gd DL_law_13 53 rfl) 4 rfl ?_
  refine l_iconst (v := 2) C.l (gd DL_law_13 54 rfl) (by decide) ?_
  refine l_iadd C.l (gd DL_law_13 55 rfl) ?_
  refine l_sld C.l hX hbl hbA (l_in2 hi hL) (gd DL_law_13 56 rfl) ?_
  exact l_Me C v [.int _, .int _] mX10_fewest lm_TestJudgeLaw_153 rfl (fun w h si v => b_m_fewest v _ _) (by decide) (by decide) (by omega) (by omega) rfl rfl (gd DL_law_13 57 rfl) (gd DL_law_13 58 rfl) (by decide) (fQ2.two hn (fun r q _ _ => fn_few)).q q1 (fun H1 v => N V1 M1 ov H1 _ _ v (by omega) (by omega))
theorem l_c_walk (J : lJ z D m x b L xs i k V M ov H cn sn) (N : lGo z D m x b i k Q) : LW z 7 (fun q => (zS z).heap.size ≤ q) Q cn sn 1346 (lL b x m i) [] H := by
  obtain ⟨C, hX, hbl, hi, hL, hk, v, hc, hs⟩ := J
  have hbA : ¬ (zS z).heap.size ≤ b := Nat.not_le.mpr hbl
  have hV := lIV.ok v
  have h5 := lIV.m5 v
  have wk := lIV.wk v
  have hn : vNp V < 100000 := by have := hV.np; omega
  have hk5 : k ≤ 511 := by omega
  refine l_aload_n C.l (gd DL_law_14 1 rfl) 1 rfl rfl ?_
  refine l_aload_n C.l (gd DL_law_14 2 rfl) 0 rfl rfl ?_
  refine l_iload C.l (gd DL_law_14 3 rfl) 4 rfl ?_
  refine l_iconst (v := 1) C.l (gd DL_law_14 4 rfl) (by decide) ?_
  refine l_iadd C.l (gd DL_law_14 5 rfl) ?_
  refine l_sld C.l hX hbl hbA (l_in1 hi hL) (gd DL_law_14 6 rfl) ?_
  refine l_Xi (mc := 0) (ms := 0) (B := M.1.1) C v [.int _] mX9_walk lm_TestJudgeLaw_154 rfl (fun w h si W RC K hM => e_x_walk K hM _) rI_wlk (by decide) (by decide) (by omega) (by omega) rfl rfl (gd DL_law_14 7 rfl) (fun i1 V1 M1 H1 q1 t1 v => ?_)
  refine l_aload_n C.l (gd DL_law_14 8 rfl) 2 rfl rfl ?_
  refine l_aload_n C.l (gd DL_law_14 9 rfl) 0 rfl rfl ?_
  refine l_iload C.l (gd DL_law_14 10 rfl) 4 rfl ?_
  refine l_iconst (v := 1) C.l (gd DL_law_14 11 rfl) (by decide) ?_
  refine l_iadd C.l (gd DL_law_14 12 rfl) ?_
  refine l_sld C.l hX hbl hbA (l_in1 hi hL) (gd DL_law_14 13 rfl) ?_
  exact l_Me C v [.int _] mX10_walk lm_TestJudgeLaw_157 rfl (fun w h si v => b_m_walk v _) (by decide) (by decide) (by omega) (by omega) rfl rfl (gd DL_law_14 14 rfl) (gd DL_law_14 15 rfl) (by decide) (ag_walk hV) q1 (fun H1 v => N V1 M1 ov H1 _ _ v (by omega) (by omega))
theorem l_c_step (J : lJ z D m x b L xs i k V M ov H cn sn) (N : lGo z D m x b i k Q) : LW z 7 (fun q => (zS z).heap.size ≤ q) Q cn sn 1371 (lL b x m i) [] H := by
  obtain ⟨C, hX, hbl, hi, hL, hk, v, hc, hs⟩ := J
  have hbA : ¬ (zS z).heap.size ≤ b := Nat.not_le.mpr hbl
  have hV := lIV.ok v
  have h5 := lIV.m5 v
  have wk := lIV.wk v
  have hn : vNp V < 100000 := by have := hV.np; omega
  have hk5 : k ≤ 511 := by omega
  refine l_aload_n C.l (gd DL_law_14 18 rfl) 1 rfl rfl ?_
  refine l_aload_n C.l (gd DL_law_14 19 rfl) 0 rfl rfl ?_
  refine l_iload C.l (gd DL_law_14 20 rfl) 4 rfl ?_
  refine l_iconst (v := 1) C.l (gd DL_law_14 21 rfl) (by decide) ?_
  refine l_iadd C.l (gd DL_law_14 22 rfl) ?_
  refine l_sld C.l hX hbl hbA (l_in1 hi hL) (gd DL_law_14 23 rfl) ?_
  refine l_aload_n C.l (gd DL_law_14 24 rfl) 0 rfl rfl ?_
  refine l_iload C.l (gd DL_law_14 25 rfl) 4 rfl ?_
  refine l_iconst (v := 2) C.l (gd DL_law_14 26 rfl) (by decide) ?_
  refine l_iadd C.l (gd DL_law_14 27 rfl) ?_
  refine l_sld C.l hX hbl hbA (l_in2 hi hL) (gd DL_law_14 28 rfl) ?_
  refine l_Xi (mc := 0) (ms := 0) (B := M.1.1) C v [.int _, .int _] mX9_step lm_TestJudgeLaw_158 rfl (fun w h si W RC K hM => e_x_step K hM wk _ _) rI_stp (by decide) (by decide) (by omega) (by omega) rfl rfl (gd DL_law_14 29 rfl) (fun i1 V1 M1 H1 q1 t1 v => ?_)
  refine l_aload_n C.l (gd DL_law_14 30 rfl) 2 rfl rfl ?_
  refine l_aload_n C.l (gd DL_law_14 31 rfl) 0 rfl rfl ?_
  refine l_iload C.l (gd DL_law_14 32 rfl) 4 rfl ?_
  refine l_iconst (v := 1) C.l (gd DL_law_14 33 rfl) (by decide) ?_
  refine l_iadd C.l (gd DL_law_14 34 rfl) ?_
  refine l_sld C.l hX hbl hbA (l_in1 hi hL) (gd DL_law_14 35 rfl) ?_
  refine l_aload_n C.l (gd DL_law_14 36 rfl) 0 rfl rfl ?_
  refine l_iload C.l (gd DL_law_14 37 rfl) 4 rfl ?_
  refine l_iconst (v := 2) C.l (gd DL_law_14 38 rfl) (by decide) ?_
  refine l_iadd C.l (gd DL_law_14 39 rfl) ?_
  refine l_sld C.l hX hbl hbA (l_in2 hi hL) (gd DL_law_14 40 rfl) ?_
  exact l_Me C v [.int _, .int _] mX10_step lm_TestJudgeLaw_161 rfl (fun w h si v => b_m_step v _ _) (by decide) (by decide) (by omega) (by omega) rfl rfl (gd DL_law_14 41 rfl) (gd DL_law_14 42 rfl) (by decide) (ag_step hV) q1 (fun H1 v => N V1 M1 ov H1 _ _ v (by omega) (by omega))
theorem l_c_walked (J : lJ z D m x b L xs i k V M ov H cn sn) (N : lGo z D m x b i k Q) : LW z 7 (fun q => (zS z).heap.size ≤ q) Q cn sn 1408 (lL b x m i) [] H := by
  obtain ⟨C, hX, hbl, hi, hL, hk, v, hc, hs⟩ := J
  have hbA : ¬ (zS z).heap.size ≤ b := Nat.not_le.mpr hbl
  have hV := lIV.ok v
  have h5 := lIV.m5 v
  have wk := lIV.wk v
  have hn : vNp V < 100000 := by have := hV.np; omega
  have hk5 : k ≤ 511 := by omega
  refine l_aload_n C.l (gd DL_law_14 45 rfl) 1 rfl rfl ?_
  refine l_aload_n C.l (gd DL_law_14 46 rfl) 0 rfl rfl ?_
  refine l_iload C.l (gd DL_law_14 47 rfl) 4 rfl ?_
  refine l_iconst (v := 1) C.l (gd DL_law_14 48 rfl) (by decide) ?_
  refine l_iadd C.l (gd DL_law_14 49 rfl) ?_
  refine l_sld C.l hX hbl hbA (l_in1 hi hL) (gd DL_law_14 50 rfl) ?_
  refine l_Xi (mc := 0) (ms := 0) (B := M.1.1) C v [.int _] mX9_walked lm_TestJudgeLaw_162 rfl (fun w h si W RC K hM => e_x_walked K hM wk _) rI_q (by decide) (by decide) (by omega) (by omega) rfl rfl (gd DL_law_14 51 rfl) (fun i1 V1 M1 H1 q1 t1 v => ?_)
  refine l_aload_n C.l (gd DL_law_14 52 rfl) 2 rfl rfl ?_
  refine l_aload_n C.l (gd DL_law_14 53 rfl) 0 rfl rfl ?_
  refine l_iload C.l (gd DL_law_14 54 rfl) 4 rfl ?_
  refine l_iconst (v := 1) C.l (gd DL_law_14 55 rfl) (by decide) ?_
  refine l_iadd C.l (gd DL_law_14 56 rfl) ?_
  refine l_sld C.l hX hbl hbA (l_in1 hi hL) (gd DL_law_14 57 rfl) ?_
  exact l_Me C v [.int _] mX10_walked lm_TestJudgeLaw_165 rfl (fun w h si v => b_m_walked v _) (by decide) (by decide) (by omega) (by omega) rfl rfl (gd DL_law_14 58 rfl) (gd DL_law_14 59 rfl) (by decide) (ag_wkd hV wk).q q1 (fun H1 v => N V1 M1 ov H1 _ _ v (by omega) (by omega))
theorem l_c_make (J : lJ z D m x b L xs i k V M ov H cn sn) (N : lGo z D m x b i k Q) : LW z 7 (fun q => (zS z).heap.size ≤ q) Q cn sn 1433 (lL b x m i) [] H := by
  obtain ⟨C, hX, hbl, hi, hL, hk, v, hc, hs⟩ := J
  have hbA : ¬ (zS z).heap.size ≤ b := Nat.not_le.mpr hbl
  have hV := lIV.ok v
  have h5 := lIV.m5 v
  have wk := lIV.wk v
  have hn : vNp V < 100000 := by have := hV.np; omega
  have hk5 : k ≤ 511 := by omega
  refine l_aload_n C.l (gd DL_law_15 2 rfl) 1 rfl rfl ?_
  refine l_aload_n C.l (gd DL_law_15 3 rfl) 0 rfl rfl ?_
  refine l_iload C.l (gd DL_law_15 4 rfl) 4 rfl ?_
  refine l_iconst (v := 1) C.l (gd DL_law_15 5 rfl) (by decide) ?_
  refine l_iadd C.l (gd DL_law_15 6 rfl) ?_
  refine l_sld C.l hX hbl hbA (l_in1 hi hL) (gd DL_law_15 7 rfl) ?_
  refine l_aload_n C.l (gd DL_law_15 8 rfl) 0 rfl rfl ?_
  refine l_iload C.l (gd DL_law_15 9 rfl) 4 rfl ?_
  refine l_iconst (v := 2) C.l (gd DL_law_15 10 rfl) (by decide) ?_
  refine l_iadd C.l (gd DL_law_15 11 rfl) ?_
  refine l_sld C.l hX hbl hbA (l_in2 hi hL) (gd DL_law_15 12 rfl) ?_
  refine l_aload_n C.l (gd DL_law_15 13 rfl) 0 rfl rfl ?_
  refine l_iload C.l (gd DL_law_15 14 rfl) 4 rfl ?_
  refine l_iconst (v := 3) C.l (gd DL_law_15 15 rfl) (by decide) ?_
  refine l_iadd C.l (gd DL_law_15 16 rfl) ?_
  refine l_sld C.l hX hbl hbA (l_in3 hi hL) (gd DL_law_15 17 rfl) ?_
  refine l_aload_n C.l (gd DL_law_15 18 rfl) 0 rfl rfl ?_
  refine l_iload C.l (gd DL_law_15 19 rfl) 4 rfl ?_
  refine l_iconst (v := 4) C.l (gd DL_law_15 20 rfl) (by decide) ?_
  refine l_iadd C.l (gd DL_law_15 21 rfl) ?_
  refine l_sld C.l hX hbl hbA (l_in4 hi hL) (gd DL_law_15 22 rfl) ?_
  refine l_Xi (mc := 25) (ms := 305) (B := M.1.1) C v [.int _, .int _, .int _, .int _] mX9_make lm_TestJudgeLaw_166 rfl (fun w h si W RC K hM => e_x_make K hM _ _ _ _) rI_mak (by decide) (by decide) (by omega) (by omega) rfl rfl (gd DL_law_15 23 rfl) (fun i1 V1 M1 H1 q1 t1 v => ?_)
  refine l_aload_n C.l (gd DL_law_15 24 rfl) 2 rfl rfl ?_
  refine l_aload_n C.l (gd DL_law_15 25 rfl) 0 rfl rfl ?_
  refine l_iload C.l (gd DL_law_15 26 rfl) 4 rfl ?_
  refine l_iconst (v := 1) C.l (gd DL_law_15 27 rfl) (by decide) ?_
  refine l_iadd C.l (gd DL_law_15 28 rfl) ?_
  refine l_sld C.l hX hbl hbA (l_in1 hi hL) (gd DL_law_15 29 rfl) ?_
  refine l_aload_n C.l (gd DL_law_15 30 rfl) 0 rfl rfl ?_
  refine l_iload C.l (gd DL_law_15 31 rfl) 4 rfl ?_
  refine l_iconst (v := 2) C.l (gd DL_law_15 32 rfl) (by decide) ?_
  refine l_iadd C.l (gd DL_law_15 33 rfl) ?_
  refine l_sld C.l hX hbl hbA (l_in2 hi hL) (gd DL_law_15 34 rfl) ?_
  refine l_aload_n C.l (gd DL_law_15 35 rfl) 0 rfl rfl ?_
  refine l_iload C.l (gd DL_law_15 36 rfl) 4 rfl ?_
  refine l_iconst (v := 3) C.l (gd DL_law_15 37 rfl) (by decide) ?_
  refine l_iadd C.l (gd DL_law_15 38 rfl) ?_
  refine l_sld C.l hX hbl hbA (l_in3 hi hL) (gd DL_law_15 39 rfl) ?_
  refine l_aload_n C.l (gd DL_law_15 40 rfl) 0 rfl rfl ?_
  refine l_iload C.l (gd DL_law_15 41 rfl) 4 rfl ?_
  refine l_iconst (v := 4) C.l (gd DL_law_15 42 rfl) (by decide) ?_
  refine l_iadd C.l (gd DL_law_15 43 rfl) ?_
  refine l_sld C.l hX hbl hbA (l_in4 hi hL) (gd DL_law_15 44 rfl) ?_
  exact l_Me C v [.int _, .int _, .int _, .int _] mX10_make lm_TestJudgeLaw_169 rfl (fun w h si v => b_m_make v _ _ _ _) (by decide) (by decide) (by omega) (by omega) rfl rfl (gd DL_law_15 45 rfl) (gd DL_law_15 46 rfl) (by decide) (fn_mak hV) q1 (fun H1 v => N V1 M1 ov H1 _ _ v (by omega) (by omega))
theorem l_c_drop (J : lJ z D m x b L xs i k V M ov H cn sn) (N : lGo z D m x b i k Q) : LW z 7 (fun q => (zS z).heap.size ≤ q) Q cn sn 1494 (lL b x m i) [] H := by
  obtain ⟨C, hX, hbl, hi, hL, hk, v, hc, hs⟩ := J
  have hbA : ¬ (zS z).heap.size ≤ b := Nat.not_le.mpr hbl
  have hV := lIV.ok v
  have h5 := lIV.m5 v
  have wk := lIV.wk v
  have hn : vNp V < 100000 := by have := hV.np; omega
  have hk5 : k ≤ 511 := by omega
  refine l_aload_n C.l (gd DL_law_15 49 rfl) 1 rfl rfl ?_
  refine l_aload_n C.l (gd DL_law_15 50 rfl) 0 rfl rfl ?_
  refine l_iload C.l (gd DL_law_15 51 rfl) 4 rfl ?_
  refine l_iconst (v := 1) C.l (gd DL_law_15 52 rfl) (by decide) ?_
  refine l_iadd C.l (gd DL_law_15 53 rfl) ?_
  refine l_sld C.l hX hbl hbA (l_in1 hi hL) (gd DL_law_15 54 rfl) ?_
  refine l_Xi (mc := 0) (ms := 0) (B := M.1.1) C v [.int _] mX9_drop lm_TestJudgeLaw_170 rfl (fun w h si W RC K hM => e_x_drop K hM _) rI_dro (by decide) (by decide) (by omega) (by omega) rfl rfl (gd DL_law_15 55 rfl) (fun i1 V1 M1 H1 q1 t1 v => ?_)
  refine l_aload_n C.l (gd DL_law_15 56 rfl) 2 rfl rfl ?_
  refine l_aload_n C.l (gd DL_law_15 57 rfl) 0 rfl rfl ?_
  refine l_iload C.l (gd DL_law_15 58 rfl) 4 rfl ?_
  refine l_iconst (v := 1) C.l (gd DL_law_15 59 rfl) (by decide) ?_
  refine l_iadd C.l (gd DL_law_16 0 rfl) ?_
  refine l_sld C.l hX hbl hbA (l_in1 hi hL) (gd DL_law_16 1 rfl) ?_
  exact l_Me C v [.int _] mX10_drop lm_TestJudgeLaw_173 rfl (fun w h si v => b_m_drop v _) (by decide) (by decide) (by omega) (by omega) rfl rfl (gd DL_law_16 2 rfl) (gd DL_law_16 3 rfl) (by decide) (fn_dro hV) q1 (fun H1 v => N V1 M1 ov H1 _ _ v (by omega) (by omega))
theorem l_c_undo (J : lJ z D m x b L xs i k V M ov H cn sn) (N : lGo z D m x b i k Q) : LW z 7 (fun q => (zS z).heap.size ≤ q) Q cn sn 1572 (lL b x m i) [] H := by
  obtain ⟨C, hX, hbl, hi, hL, hk, v, hc, hs⟩ := J
  have hbA : ¬ (zS z).heap.size ≤ b := Nat.not_le.mpr hbl
  have hV := lIV.ok v
  have h5 := lIV.m5 v
  have wk := lIV.wk v
  have hn : vNp V < 100000 := by have := hV.np; omega
  have hk5 : k ≤ 511 := by omega
  refine l_aload_n C.l (gd DL_law_16 41 rfl) 1 rfl rfl ?_
  refine l_Xi (mc := 0) (ms := 0) (B := M.1.1) C v [] mX9_undo lm_TestJudgeLaw_179 rfl (fun w h si W RC K hM => e_x_undo K hM ) rI_und (by decide) (by decide) (by omega) (by omega) rfl rfl (gd DL_law_16 42 rfl) (fun i1 V1 M1 H1 q1 t1 v => ?_)
  refine l_aload_n C.l (gd DL_law_16 43 rfl) 2 rfl rfl ?_
  exact l_Me C v [] mX10_undo lm_TestJudgeLaw_182 rfl (fun w h si v => b_m_undo v ) (by decide) (by decide) (by omega) (by omega) rfl rfl (gd DL_law_16 44 rfl) (gd DL_law_16 45 rfl) (by decide) fn_und q1 (fun H1 v => N V1 M1 ov H1 _ _ v (by omega) (by omega))
theorem l_c_print (J : lJ z D m x b L xs i k V M ov H cn sn) (N : lGo z D m x b i k Q) : LW z 7 (fun q => (zS z).heap.size ≤ q) Q cn sn 1585 (lL b x m i) [] H := by
  obtain ⟨C, hX, hbl, hi, hL, hk, v, hc, hs⟩ := J
  have hbA : ¬ (zS z).heap.size ≤ b := Nat.not_le.mpr hbl
  have hV := lIV.ok v
  have h5 := lIV.m5 v
  have wk := lIV.wk v
  have hn : vNp V < 100000 := by have := hV.np; omega
  have hk5 : k ≤ 511 := by omega
  refine l_aload_n C.l (gd DL_law_16 48 rfl) 1 rfl rfl ?_
  refine l_aload_n C.l (gd DL_law_16 49 rfl) 0 rfl rfl ?_
  refine l_iload C.l (gd DL_law_16 50 rfl) 4 rfl ?_
  refine l_iconst (v := 1) C.l (gd DL_law_16 51 rfl) (by decide) ?_
  refine l_iadd C.l (gd DL_law_16 52 rfl) ?_
  refine l_sld C.l hX hbl hbA (l_in1 hi hL) (gd DL_law_16 53 rfl) ?_
  refine l_Xi (mc := 0) (ms := 0) (B := M.1.1) C v [.int _] mX9_print lm_TestJudgeLaw_183 rfl (fun w h si W RC K hM => e_x_print K hM _) rI_pri (by decide) (by decide) (by omega) (by omega) rfl rfl (gd DL_law_16 54 rfl) (fun i1 V1 M1 H1 q1 t1 v => ?_)
  refine l_aload_n C.l (gd DL_law_16 55 rfl) 2 rfl rfl ?_
  refine l_aload_n C.l (gd DL_law_16 56 rfl) 0 rfl rfl ?_
  refine l_iload C.l (gd DL_law_16 57 rfl) 4 rfl ?_
  refine l_iconst (v := 1) C.l (gd DL_law_16 58 rfl) (by decide) ?_
  refine l_iadd C.l (gd DL_law_16 59 rfl) ?_
  refine l_sld C.l hX hbl hbA (l_in1 hi hL) (gd DL_law_17 0 rfl) ?_
  exact l_Me C v [.int _] mX10_print lm_TestJudgeLaw_186 rfl (fun w h si v => b_m_print v _) (by decide) (by decide) (by omega) (by omega) rfl rfl (gd DL_law_17 1 rfl) (gd DL_law_17 2 rfl) (by decide) (ag_print hV) q1 (fun H1 v => N V1 M1 ov H1 _ _ v (by omega) (by omega))
end CS
