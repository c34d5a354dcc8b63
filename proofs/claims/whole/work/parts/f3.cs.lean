/-! The law's cases, each a pair of calls (made by gen_law.py) -/
section CS
variable {z : gZ} {D : lD} {Q : State → Prop} {m x b L i k : Nat} {xs : Nat → Int32} {V : aV} {M : aM} {ov : Int64} {H : Heap} {cn sn : Nat}
theorem l_c_status (J : lJ z D m x b L xs i k V M ov H cn sn) (N : lGo z D m x b i k Q) : LW z 7 (fun q => (zS z).heap.size ≤ q) Q cn sn 220 (lL b x m i) [] H := by
  obtain ⟨C, hX, hbl, hi, hL, hk, v, hc, hs⟩ := J
  have hbA : ¬ (zS z).heap.size ≤ b := Nat.not_le.mpr hbl
  have hV := lIV.ok v
  have h5 := lIV.m5 v
  have wk := lIV.wk v
  have hn : vNp V < 100000 := by have := hV.np; omega
  have hk5 : k ≤ 511 := by omega
  refine l_aload_n C.l (gd DL_law_0 25 rfl) 1 rfl rfl ?_
  refine l_Xi (mc := 0) (ms := 0) (B := M.1.1) C v [] mX9_status lm_TestJudgeLaw_19 rfl (fun w h si W RC K hM => e_x_status K hM ) rI_say (by decide) (by decide) (by omega) (by omega) rfl rfl (gd DL_law_0 26 rfl) (fun i1 V1 M1 H1 q1 t1 v => ?_)
  refine l_aload_n C.l (gd DL_law_0 27 rfl) 2 rfl rfl ?_
  exact l_Me C v [] mX10_status lm_TestJudgeLaw_23 rfl (fun w h si v => b_m_status v ) (by decide) (by decide) (by omega) (by omega) rfl rfl (gd DL_law_0 28 rfl) (gd DL_law_0 29 rfl) (by decide) fn_say q1 (fun H1 v => N V1 M1 ov H1 _ _ v (by omega) (by omega))
theorem l_c_feed (J : lJ z D m x b L xs i k V M ov H cn sn) (N : lGo z D m x b i k Q) : LW z 7 (fun q => (zS z).heap.size ≤ q) Q cn sn 233 (lL b x m i) [] H := by
  obtain ⟨C, hX, hbl, hi, hL, hk, v, hc, hs⟩ := J
  have hbA : ¬ (zS z).heap.size ≤ b := Nat.not_le.mpr hbl
  have hV := lIV.ok v
  have h5 := lIV.m5 v
  have wk := lIV.wk v
  have hn : vNp V < 100000 := by have := hV.np; omega
  have hk5 : k ≤ 511 := by omega
  refine l_aload_n C.l (gd DL_law_0 32 rfl) 1 rfl rfl ?_
  refine l_aload_n C.l (gd DL_law_0 33 rfl) 0 rfl rfl ?_
  refine l_iload C.l (gd DL_law_0 34 rfl) 4 rfl ?_
  refine l_iconst (v := 1) C.l (gd DL_law_0 35 rfl) (by decide) ?_
  refine l_iadd C.l (gd DL_law_0 36 rfl) ?_
  refine l_sld C.l hX hbl hbA (l_in1 hi hL) (gd DL_law_0 37 rfl) ?_
  refine l_aload_n C.l (gd DL_law_0 38 rfl) 0 rfl rfl ?_
  refine l_iload C.l (gd DL_law_0 39 rfl) 4 rfl ?_
  refine l_iconst (v := 2) C.l (gd DL_law_0 40 rfl) (by decide) ?_
  refine l_iadd C.l (gd DL_law_0 41 rfl) ?_
  refine l_sld C.l hX hbl hbA (l_in2 hi hL) (gd DL_law_0 42 rfl) ?_
  refine l_aload_n C.l (gd DL_law_0 43 rfl) 0 rfl rfl ?_
  refine l_iload C.l (gd DL_law_0 44 rfl) 4 rfl ?_
  refine l_iconst (v := 3) C.l (gd DL_law_0 45 rfl) (by decide) ?_
  refine l_iadd C.l (gd DL_law_0 46 rfl) ?_
  refine l_sld C.l hX hbl hbA (l_in3 hi hL) (gd DL_law_0 47 rfl) ?_
  refine l_aload_n C.l (gd DL_law_0 48 rfl) 0 rfl rfl ?_
  refine l_iload C.l (gd DL_law_0 49 rfl) 4 rfl ?_
  refine l_iconst (v := 4) C.l (gd DL_law_0 50 rfl) (by decide) ?_
  refine l_iadd C.l (gd DL_law_0 51 rfl) ?_
  refine l_sld C.l hX hbl hbA (l_in4 hi hL) (gd DL_law_0 52 rfl) ?_
  refine l_aload_n C.l (gd DL_law_0 53 rfl) 0 rfl rfl ?_
  refine l_iload C.l (gd DL_law_0 54 rfl) 4 rfl ?_
  refine l_iconst (v := 5) C.l (gd DL_law_0 55 rfl) (by decide) ?_
  refine l_iadd C.l (gd DL_law_0 56 rfl) ?_
  refine l_sld C.l hX hbl hbA (l_in5 hi hL) (gd DL_law_0 57 rfl) ?_
  refine l_Xi (mc := 0) (ms := 0) (B := M.1.1 + 20) C v [.int _, .int _, .int _, .int _, .int _] mX9_feed lm_TestJudgeLaw_24 rfl (fun w h si W RC K hM => e_x_feed K hM _ _ _ _ _) rI_fed (by decide) (by decide) (by omega) (by omega) rfl rfl (gd DL_law_0 58 rfl) (fun i1 V1 M1 H1 q1 t1 v => ?_)
  refine l_aload_n C.l (gd DL_law_0 59 rfl) 2 rfl rfl ?_
  refine l_aload_n C.l (gd DL_law_1 0 rfl) 0 rfl rfl ?_
  refine l_iload C.l (gd DL_law_1 1 rfl) 4 rfl ?_
  refine l_iconst (v := 1) C.l (gd DL_law_1 2 rfl) (by decide) ?_
  refine l_iadd C.l (gd DL_law_1 3 rfl) ?_
  refine l_sld C.l hX hbl hbA (l_in1 hi hL) (gd DL_law_1 4 rfl) ?_
  refine l_aload_n C.l (gd DL_law_1 5 rfl) 0 rfl rfl ?_
  refine l_iload C.l (gd DL_law_1 6 rfl) 4 rfl ?_
  refine l_iconst (v := 2) C.l (gd DL_law_1 7 rfl) (by decide) ?_
  refine l_iadd C.l (gd DL_law_1 8 rfl) ?_
  refine l_sld C.l hX hbl hbA (l_in2 hi hL) (gd DL_law_1 9 rfl) ?_
  refine l_aload_n C.l (gd DL_law_1 10 rfl) 0 rfl rfl ?_
  refine l_iload C.l (gd DL_law_1 11 rfl) 4 rfl ?_
  refine l_iconst (v := 3) C.l (gd DL_law_1 12 rfl) (by decide) ?_
  refine l_iadd C.l (gd DL_law_1 13 rfl) ?_
  refine l_sld C.l hX hbl hbA (l_in3 hi hL) (gd DL_law_1 14 rfl) ?_
  refine l_aload_n C.l (gd DL_law_1 15 rfl) 0 rfl rfl ?_
  refine l_iload C.l (gd DL_law_1 16 rfl) 4 rfl ?_
  refine l_iconst (v := 4) C.l (gd DL_law_1 17 rfl) (by decide) ?_
  refine l_iadd C.l (gd DL_law_1 18 rfl) ?_
  refine l_sld C.l hX hbl hbA (l_in4 hi hL) (gd DL_law_1 19 rfl) ?_
  refine l_aload_n C.l (gd DL_law_1 20 rfl) 0 rfl rfl ?_
  refine l_iload C.l (gd DL_law_1 21 rfl) 4 rfl ?_
  refine l_iconst (v := 5) C.l (gd DL_law_1 22 rfl) (by decide) ?_
  refine l_iadd C.l (gd DL_law_1 23 rfl) ?_
  refine l_sld C.l hX hbl hbA (l_in5 hi hL) (gd DL_law_1 24 rfl) ?_
  exact l_Me C v [.int _, .int _, .int _, .int _, .int _] mX10_feed lm_TestJudgeLaw_28 rfl (fun w h si v => b_m_feed v _ _ _ _ _) (by decide) (by decide) (by omega) (by omega) rfl rfl (gd DL_law_1 25 rfl) (gd DL_law_1 26 rfl) (by decide) fn_fed q1 (fun H1 v => N V1 M1 ov H1 _ _ v (by omega) (by omega))
theorem l_c_fault (J : lJ z D m x b L xs i k V M ov H cn sn) (N : lGo z D m x b i k Q) : LW z 7 (fun q => (zS z).heap.size ≤ q) Q cn sn 331 (lL b x m i) [] H := by
  obtain ⟨C, hX, hbl, hi, hL, hk, v, hc, hs⟩ := J
  have hbA : ¬ (zS z).heap.size ≤ b := Nat.not_le.mpr hbl
  have hV := lIV.ok v
  have h5 := lIV.m5 v
  have wk := lIV.wk v
  have hn : vNp V < 100000 := by have := hV.np; omega
  have hk5 : k ≤ 511 := by omega
  refine l_aload_n C.l (gd DL_law_1 46 rfl) 1 rfl rfl ?_
  refine l_aload_n C.l (gd DL_law_1 47 rfl) 0 rfl rfl ?_
  refine l_iload C.l (gd DL_law_1 48 rfl) 4 rfl ?_
  refine l_iconst (v := 1) C.l (gd DL_law_1 49 rfl) (by decide) ?_
  refine l_iadd C.l (gd DL_law_1 50 rfl) ?_
  refine l_sld C.l hX hbl hbA (l_in1 hi hL) (gd DL_law_1 51 rfl) ?_
  refine l_Xi (mc := 0) (ms := 0) (B := M.1.1) C v [.int _] mX9_fault lm_TestJudgeLaw_33 rfl (fun w h si W RC K hM => e_x_fault K hM _) rI_say (by decide) (by decide) (by omega) (by omega) rfl rfl (gd DL_law_1 52 rfl) (fun i1 V1 M1 H1 q1 t1 v => ?_)
  refine l_aload_n C.l (gd DL_law_1 53 rfl) 2 rfl rfl ?_
  refine l_aload_n C.l (gd DL_law_1 54 rfl) 0 rfl rfl ?_
  refine l_iload C.l (gd DL_law_1 55 rfl) 4 rfl ?_
  refine l_iconst (v := 1) C.l (gd DL_law_1 56 rfl) (by decide) ?_
  refine l_iadd C.l (gd DL_law_1 57 rfl) ?_
  refine l_sld C.l hX hbl hbA (l_in1 hi hL) (gd DL_law_1 58 rfl) ?_
  exact l_Me C v [.int _] mX10_fault lm_TestJudgeLaw_36 rfl (fun w h si v => b_m_fault v _) (by decide) (by decide) (by omega) (by omega) rfl rfl (gd DL_law_1 59 rfl) (gd DL_law_2 0 rfl) (by decide) fn_say q1 (fun H1 v => N V1 M1 ov H1 _ _ v (by omega) (by omega))
theorem l_c_many (J : lJ z D m x b L xs i k V M ov H cn sn) (N : lGo z D m x b i k Q) : LW z 7 (fun q => (zS z).heap.size ≤ q) Q cn sn 356 (lL b x m i) [] H := by
  obtain ⟨C, hX, hbl, hi, hL, hk, v, hc, hs⟩ := J
  have hbA : ¬ (zS z).heap.size ≤ b := Nat.not_le.mpr hbl
  have hV := lIV.ok v
  have h5 := lIV.m5 v
  have wk := lIV.wk v
  have hn : vNp V < 100000 := by have := hV.np; omega
  have hk5 : k ≤ 511 := by omega
  refine l_aload_n C.l (gd DL_law_2 3 rfl) 1 rfl rfl ?_
  refine l_aload_n C.l (gd DL_law_2 4 rfl) 0 rfl rfl ?_
  refine l_iload C.l (gd DL_law_2 5 rfl) 4 rfl ?_
  refine l_iconst (v := 1) C.l (gd DL_law_2 6 rfl) (by decide) ?_
  refine l_iadd C.l (gd DL_law_2 7 rfl) ?_
  refine l_sld C.l hX hbl hbA (l_in1 hi hL) (gd DL_law_2 8 rfl) ?_
  refine l_Xi (mc := 0) (ms := 0) (B := M.1.1) C v [.int _] mX9_many lm_TestJudgeLaw_37 rfl (fun w h si W RC K hM => e_x_many K hM _) rI_q (by decide) (by decide) (by omega) (by omega) rfl rfl (gd DL_law_2 9 rfl) (fun i1 V1 M1 H1 q1 t1 v => ?_)
  refine l_aload_n C.l (gd DL_law_2 10 rfl) 2 rfl rfl ?_
  refine l_aload_n C.l (gd DL_law_2 11 rfl) 0 rfl rfl ?_
  refine l_iload C.l (gd DL_law_2 12 rfl) 4 rfl ?_
  refine l_iconst (v := 1) C.l (gd DL_law_2 13 rfl) (by decide) ?_
  refine l_iadd C.l (gd DL_law_2 14 rfl) ?_
  refine l_sld C.l hX hbl hbA (l_in1 hi hL) (gd DL_law_2 15 rfl) ?_
  exact l_Me C v [.int _] mX10_many lm_TestJudgeLaw_40 rfl (fun w h si v => b_m_many v _) (by decide) (by decide) (by omega) (by omega) rfl rfl (gd DL_law_2 16 rfl) (gd DL_law_2 17 rfl) (by decide) fn_mny.q q1 (fun H1 v => N V1 M1 ov H1 _ _ v (by omega) (by omega))
theorem l_c_program (J : lJ z D m x b L xs i k V M ov H cn sn) (N : lGo z D m x b i k Q) : LW z 7 (fun q => (zS z).heap.size ≤ q) Q cn sn 381 (lL b x m i) [] H := by
  obtain ⟨C, hX, hbl, hi, hL, hk, v, hc, hs⟩ := J
  have hbA : ¬ (zS z).heap.size ≤ b := Nat.not_le.mpr hbl
  have hV := lIV.ok v
  have h5 := lIV.m5 v
  have wk := lIV.wk v
  have hn : vNp V < 100000 := by have := hV.np; omega
  have hk5 : k ≤ 511 := by omega
  refine l_aload_n C.l (gd DL_law_2 20 rfl) 1 rfl rfl ?_
  refine l_aload_n C.l (gd DL_law_2 21 rfl) 0 rfl rfl ?_
  refine l_iload C.l (gd DL_law_2 22 rfl) 4 rfl ?_
  refine l_iconst (v := 1) C.l (gd DL_law_2 23 rfl) (by decide) ?_
  refine l_iadd C.l (gd DL_law_2 24 rfl) ?_
  refine l_sld C.l hX hbl hbA (l_in1 hi hL) (gd DL_law_2 25 rfl) ?_
  refine l_aload_n C.l (gd DL_law_2 26 rfl) 0 rfl rfl ?_
  refine l_iload C.l (gd DL_law_2 27 rfl) 4 rfl ?_
  refine l_iconst (v := 2) C.l (gd DL_law_2 28 rfl) (by decide) ?_
  refine l_iadd C.l (gd DL_law_2 29 rfl) ?_
  refine l_sld C.l hX hbl hbA (l_in2 hi hL) (gd DL_law_2 30 rfl) ?_
  refine l_Xi (mc := 0) (ms := 0) (B := M.1.1) C v [.int _, .int _] mX9_program lm_TestJudgeLaw_41 rfl (fun w h si W RC K hM => e_x_program K hM _ _) rI_q (by decide) (by decide) (by omega) (by omega) rfl rfl (gd DL_law_2 31 rfl) (fun i1 V1 M1 H1 q1 t1 v => ?_)
  refine l_aload_n C.l (gd DL_law_2 32 rfl) 2 rfl rfl ?_
  refine l_aload_n C.l (gd DL_law_2 33 rfl) 0 rfl rfl ?_
  refine l_iload C.l (gd DL_law_2 34 rfl) 4 rfl ?_
  refine l_iconst (v := 1) C.l (gd DL_law_2 35 rfl) (by decide) ?_
  refine l_iadd C.l (gd DL_law_2 36 rfl) ?_
  refine l_sld C.l hX hbl hbA (l_in1 hi hL) (gd DL_law_2 37 rfl) ?_
  refine l_aload_n C.l (gd DL_law_2 38 rfl) 0 rfl rfl ?_
  refine l_iload C.l (gd DL_law_2 39 rfl) 4 rfl ?_
  refine l_iconst (v := 2) C.l (gd DL_law_2 40 rfl) (by decide) ?_
  refine l_iadd C.l (gd DL_law_2 41 rfl) ?_
  refine l_sld C.l hX hbl hbA (l_in2 hi hL) (gd DL_law_2 42 rfl) ?_
  exact l_Me C v [.int _, .int _] mX10_program lm_TestJudgeLaw_45 rfl (fun w h si v => b_m_program v _ _) (by decide) (by decide) (by omega) (by omega) rfl rfl (gd DL_law_2 43 rfl) (gd DL_law_2 44 rfl) (by decide) (fn_prg hV).q q1 (fun H1 v => N V1 M1 ov H1 _ _ v (by omega) (by omega))
theorem l_c_fact (J : lJ z D m x b L xs i k V M ov H cn sn) (N : lGo z D m x b i k Q) : LW z 7 (fun q => (zS z).heap.size ≤ q) Q cn sn 418 (lL b x m i) [] H := by
  obtain ⟨C, hX, hbl, hi, hL, hk, v, hc, hs⟩ := J
  have hbA : ¬ (zS z).heap.size ≤ b := Nat.not_le.mpr hbl
  have hV := lIV.ok v
  have h5 := lIV.m5 v
  have wk := lIV.wk v
  have hn : vNp V < 100000 := by have := hV.np; omega
  have hk5 : k ≤ 511 := by omega
  refine l_aload_n C.l (gd DL_law_2 47 rfl) 1 rfl rfl ?_
  refine l_aload_n C.l (gd DL_law_2 48 rfl) 0 rfl rfl ?_
  refine l_iload C.l (gd DL_law_2 49 rfl) 4 rfl ?_
  refine l_iconst (v := 1) C.l (gd DL_law_2 50 rfl) (by decide) ?_
  refine l_iadd C.l (gd DL_law_2 51 rfl) ?_
  refine l_sld C.l hX hbl hbA (l_in1 hi hL) (gd DL_law_2 52 rfl) ?_
  refine l_aload_n C.l (gd DL_law_2 53 rfl) 0 rfl rfl ?_
  refine l_iload C.l (gd DL_law_2 54 rfl) 4 rfl ?_
  refine l_iconst (v := 2) C.l (gd DL_law_2 55 rfl) (by decide) ?_
  refine l_iadd C.l (gd DL_law_2 56 rfl) ?_
  refine l_sld C.l hX hbl hbA (l_in2 hi hL) (gd DL_law_2 57 rfl) ?_
  refine l_Xi (mc := 0) (ms := 0) (B := M.1.1) C v [.int _, .int _] mX9_fact lm_TestJudgeLaw_46 rfl (fun w h si W RC K hM => e_x_fact K hM _ _) rI_q (by decide) (by decide) (by omega) (by omega) rfl rfl (gd DL_law_2 58 rfl) (fun i1 V1 M1 H1 q1 t1 v => ?_)
  refine l_aload_n C.l (gd DL_law_2 59 rfl) 2 rfl rfl ?_
  refine l_aload_n C.l (gd DL_law_3 0 rfl) 0 rfl rfl ?_
  refine l_iload C.l (gd DL_law_3 1 rfl) 4 rfl ?_
  refine l_iconst (v := 1) C.l (gd DL_law_3 2 rfl) (by decide) ?_
  refine l_iadd C.l (gd DL_law_3 3 rfl) ?_
  refine l_sld C.l hX hbl hbA (l_in1 hi hL) (gd DL_law_3 4 rfl) ?_
  refine l_aload_n C.l (gd DL_law_3 5 rfl) 0 rfl rfl ?_
  refine l_iload C.l (gd DL_law_3 6 rfl) 4 rfl ?_
  refine l_iconst (v := 2) C.l (gd DL_law_3 7 rfl) (by decide) ?_
  refine l_iadd C.l (gd DL_law_3 8 rfl) ?_
  refine l_sld C.l hX hbl hbA (l_in2 hi hL) (gd DL_law_3 9 rfl) ?_
  exact l_Me C v [.int _, .int _] mX10_fact lm_TestJudgeLaw_49 rfl (fun w h si v => b_m_fact v _ _) (by decide) (by decide) (by omega) (by omega) rfl rfl (gd DL_law_3 10 rfl) (gd DL_law_3 11 rfl) (by decide) (fn_fct hV).q q1 (fun H1 v => N V1 M1 ov H1 _ _ v (by omega) (by omega))
theorem l_c_atoms (J : lJ z D m x b L xs i k V M ov H cn sn) (N : lGo z D m x b i k Q) : LW z 7 (fun q => (zS z).heap.size ≤ q) Q cn sn 455 (lL b x m i) [] H := by
  obtain ⟨C, hX, hbl, hi, hL, hk, v, hc, hs⟩ := J
  have hbA : ¬ (zS z).heap.size ≤ b := Nat.not_le.mpr hbl
  have hV := lIV.ok v
  have h5 := lIV.m5 v
  have wk := lIV.wk v
  have hn : vNp V < 100000 := by have := hV.np; omega
  have hk5 : k ≤ 511 := by omega
  refine l_aload_n C.l (gd DL_law_3 14 rfl) 1 rfl rfl ?_
  refine l_aload_n C.l (gd DL_law_3 15 rfl) 0 rfl rfl ?_
  refine l_iload C.l (gd DL_law_3 16 rfl) 4 rfl ?_
  refine l_iconst (v := 1) C.l (gd DL_law_3 17 rfl) (by decide) ?_
  refine l_iadd C.l (gd DL_law_3 18 rfl) ?_
  refine l_sld C.l hX hbl hbA (l_in1 hi hL) (gd DL_law_3 19 rfl) ?_
  refine l_Xi (mc := 0) (ms := 0) (B := M.1.1) C v [.int _] mX9_atoms lm_TestJudgeLaw_50 rfl (fun w h si W RC K hM => e_x_atoms K hM _) rI_q (by decide) (by decide) (by omega) (by omega) rfl rfl (gd DL_law_3 20 rfl) (fun i1 V1 M1 H1 q1 t1 v => ?_)
  refine l_aload_n C.l (gd DL_law_3 21 rfl) 2 rfl rfl ?_
  refine l_aload_n C.l (gd DL_law_3 22 rfl) 0 rfl rfl ?_
  refine l_iload C.l (gd DL_law_3 23 rfl) 4 rfl ?_
  refine l_iconst (v := 1) C.l (gd DL_law_3 24 rfl) (by decide) ?_
  refine l_iadd C.l (gd DL_law_3 25 rfl) ?_
  refine l_sld C.l hX hbl hbA (l_in1 hi hL) (gd DL_law_3 26 rfl) ?_
  exact l_Me C v [.int _] mX10_atoms_ lm_TestJudgeLaw_53 rfl (fun w h si v => b_m_atoms v _) (by decide) (by decide) (by omega) (by omega) rfl rfl (gd DL_law_3 27 rfl) (gd DL_law_3 28 rfl) (by decide) (fQ2.one hn (fun r _ => fn_ato)).q q1 (fun H1 v => N V1 M1 ov H1 _ _ v (by omega) (by omega))
theorem l_c_uses (J : lJ z D m x b L xs i k V M ov H cn sn) (N : lGo z D m x b i k Q) : LW z 7 (fun q => (zS z).heap.size ≤ q) Q cn sn 480 (lL b x m i) [] H := by
  obtain ⟨C, hX, hbl, hi, hL, hk, v, hc, hs⟩ := J
  have hbA : ¬ (zS z).heap.size ≤ b := Nat.not_le.mpr hbl
  have hV := lIV.ok v
  have h5 := lIV.m5 v
  have wk := lIV.wk v
  have hn : vNp V < 100000 := by have := hV.np; omega
  have hk5 : k ≤ 511 := by omega
  refine l_aload_n C.l (gd DL_law_3 31 rfl) 1 rfl rfl ?_
  refine l_aload_n C.l (gd DL_law_3 32 rfl) 0 rfl rfl ?_
  refine l_iload C.l (gd DL_law_3 33 rfl) 4 rfl ?_
  refine l_iconst (v := 1) C.l (gd DL_law_3 34 rfl) (by decide) ?_
  refine l_iadd C.l (gd DL_law_3 35 rfl) ?_
  refine l_sld C.l hX hbl hbA (l_in1 hi hL) (gd DL_law_3 36 rfl) ?_
  refine l_aload_n C.l (gd DL_law_3 37 rfl) 0 rfl rfl ?_
  refine l_iload C.l (gd DL_law_3 38 rfl) 4 rfl ?_
  refine l_iconst (v := 2) C.l (gd DL_law_3 39 rfl) (by decide) ?_
  refine l_iadd C.l (gd DL_law_3 40 rfl) ?_
  refine l_sld C.l hX hbl hbA (l_in2 hi hL) (gd DL_law_3 41 rfl) ?_
  refine l_Xi (mc := 0) (ms := 0) (B := M.1.1) C v [.int _, .int _] mX9_uses lm_TestJudgeLaw_54 rfl (fun w h si W RC K hM => e_x_uses K hM _ _) rI_q (by decide) (by decide) (by omega) (by omega) rfl rfl (gd DL_law_3 42 rfl) (fun i1 V1 M1 H1 q1 t1 v => ?_)
  refine l_aload_n C.l (gd DL_law_3 43 rfl) 2 rfl rfl ?_
  refine l_aload_n C.l (gd DL_law_3 44 rfl) 0 rfl rfl ?_
  refine l_iload C.l (gd DL_law_3 45 rfl) 4 rfl ?_
  refine l_iconst (v := 1) C.l (gd DL_law_3 46 rfl) (by decide) ?_
  refine l_iadd C.l (gd DL_law_3 47 rfl) ?_
  refine l_sld C.l hX hbl hbA (l_in1 hi hL) (gd DL_law_3 48 rfl) ?_
  refine l_aload_n C.l (gd DL_law_3 49 rfl) 0 rfl rfl ?_
  refine l_iload C.l (gd DL_law_3 50 rfl) 4 rfl ?_
  refine l_iconst (v := 2) C.l (gd DL_law_3 51 rfl) (by decide) ?_
  refine l_iadd C.l (gd DL_law_3 52 rfl) ?_
  refine l_sld C.l hX hbl hbA (l_in2 hi hL) (gd DL_law_3 53 rfl) ?_
  exact l_Me C v [.int _, .int _] mX10_uses lm_TestJudgeLaw_57 rfl (fun w h si v => b_m_uses v _ _) (by decide) (by decide) (by omega) (by omega) rfl rfl (gd DL_law_3 54 rfl) (gd DL_law_3 55 rfl) (by decide) (ag2.gat (fun c => ag2.one hn (fun r _ => ag_use hV))).q q1 (fun H1 v => N V1 M1 ov H1 _ _ v (by omega) (by omega))
theorem l_c_count (J : lJ z D m x b L xs i k V M ov H cn sn) (N : lGo z D m x b i k Q) : LW z 7 (fun q => (zS z).heap.size ≤ q) Q cn sn 517 (lL b x m i) [] H := by
  obtain ⟨C, hX, hbl, hi, hL, hk, v, hc, hs⟩ := J
  have hbA : ¬ (zS z).heap.size ≤ b := Nat.not_le.mpr hbl
  have hV := lIV.ok v
  have h5 := lIV.m5 v
  have wk := lIV.wk v
  have hn : vNp V < 100000 := by have := hV.np; omega
  have hk5 : k ≤ 511 := by omega
  refine l_aload_n C.l (gd DL_law_3 58 rfl) 1 rfl rfl ?_
  refine l_aload_n C.l (gd DL_law_3 59 rfl) 0 rfl rfl ?_
  refine l_iload C.l (gd DL_law_4 0 rfl) 4 rfl ?_
  refine l_iconst (v := 1) C.l (gd DL_law_4 1 rfl) (by decide) ?_
  refine l_iadd C.l (gd DL_law_4 2 rfl) ?_
  refine l_sld C.l hX hbl hbA (l_in1 hi hL) (gd DL_law_4 3 rfl) ?_
  refine l_aload_n C.l (gd DL_law_4 4 rfl) 0 rfl rfl ?_
  refine l_iload C.l (gd DL_law_4 5 rfl) 4 rfl ?_
  refine l_iconst (v := 2) C.l (gd DL_law_4 6 rfl) (by decide) ?_
  refine l_iadd C.l (gd DL_law_4 7 rfl) ?_
  refine l_sld C.l hX hbl hbA (l_in2 hi hL) (gd DL_law_4 8 rfl) ?_
  refine l_Xl (mc := 0) (ms := 0) (B := M.1.1) C v [.int _, .int _] mX9_count lm_TestJudgeLaw_58 rfl (fun w h si W RC K hM => e_x_count K hM _ _) rL_q (by decide) (by decide) (by omega) (by omega) rfl rfl (gd DL_law_4 9 rfl) (fun i1 V1 M1 H1 q1 t1 v => ?_)
  refine l_aload_n C.l (gd DL_law_4 10 rfl) 2 rfl rfl ?_
  refine l_aload_n C.l (gd DL_law_4 11 rfl) 0 rfl rfl ?_
  refine l_iload C.l (gd DL_law_4 12 rfl) 4 rfl ?_
  refine l_iconst (v := 1) C.l (gd DL_law_4 13 rfl) (by decide) ?_
  refine l_iadd C.l (gd DL_law_4 14 rfl) ?_
  refine l_sld C.l hX hbl hbA (l_in1 hi hL) (gd DL_law_4 15 rfl) ?_
  refine l_aload_n C.l (gd DL_law_4 16 rfl) 0 rfl rfl ?_
  refine l_iload C.l (gd DL_law_4 17 rfl) 4 rfl ?_
  refine l_iconst (v := 2) C.l (gd DL_law_4 18 rfl) (by decide) ?_
  refine l_iadd C.l (gd DL_law_4 19 rfl) ?_
  refine l_sld C.l hX hbl hbA (l_in2 hi hL) (gd DL_law_4 20 rfl) ?_
  exact l_MeL C v [.int _, .int _] mX10_count lm_TestJudgeLaw_62 rfl (fun w h si v => b_m_count v _ _) (by decide) (by decide) (by omega) (by omega) rfl rfl (gd DL_law_4 21 rfl) (gd DL_law_4 22 rfl) (gd DL_law_4 23 rfl) (by decide) (fn_bth hV) q1 (fun H1 v => N V1 M1 ov H1 _ _ v (by omega) (by omega))
theorem l_c_least (J : lJ z D m x b L xs i k V M ov H cn sn) (N : lGo z D m x b i k Q) : LW z 7 (fun q => (zS z).heap.size ≤ q) Q cn sn 555 (lL b x m i) [] H := by
  obtain ⟨C, hX, hbl, hi, hL, hk, v, hc, hs⟩ := J
  have hbA : ¬ (zS z).heap.size ≤ b := Nat.not_le.mpr hbl
  have hV := lIV.ok v
  have h5 := lIV.m5 v
  have wk := lIV.wk v
  have hn : vNp V < 100000 := by have := hV.np; omega
  have hk5 : k ≤ 511 := by omega
  refine l_aload_n C.l (gd DL_law_4 26 rfl) 1 rfl rfl ?_
  refine l_aload_n C.l (gd DL_law_4 27 rfl) 0 rfl rfl ?_
  refine l_iload C.l (gd DL_law_4 28 rfl) 4 rfl ?_
  refine l_iconst (v := 1) C.l (gd DL_law_4 29 rfl) (by decide) ?_
  refine l_iadd C.l (gd DL_law_4 30 rfl) ?_
  refine l_sld C.l hX hbl hbA (l_in1 hi hL) (gd DL_law_4 31 rfl) ?_
  refine l_Xi (mc := 0) (ms := 0) (B := M.1.1) C v [.int _] mX9_least lm_TestJudgeLaw_63 rfl (fun w h si W RC K hM => e_x_least K hM _) rI_q (by decide) (by decide) (by omega) (by omega) rfl rfl (gd DL_law_4 32 rfl) (fun i1 V1 M1 H1 q1 t1 v => ?_)
  refine l_aload_n C.l (gd DL_law_4 33 rfl) 2 rfl rfl ?_
  refine l_aload_n C.l (gd DL_law_4 34 rfl) 0 rfl rfl ?_
  refine l_iload C.l (gd DL_law_4 35 rfl) 4 rfl ?_
  refine l_iconst (v := 1) C.l (gd DL_law_4 36 rfl) (by decide) ?_
  refine l_iadd C.l (gd DL_law_4 37 rfl) ?_
  refine l_sld C.l hX hbl hbA (l_in1 hi hL) (gd DL_law_4 38 rfl) ?_
  exact l_Me C v [.int _] mX10_least lm_TestJudgeLaw_66 rfl (fun w h si v => b_m_least v _) (by decide) (by decide) (by omega) (by omega) rfl rfl (gd DL_law_4 39 rfl) (gd DL_law_4 40 rfl) (by decide) (fQ2.one hn (fun r _ => fn_sp)).q q1 (fun H1 v => N V1 M1 ov H1 _ _ v (by omega) (by omega))
theorem l_c_greatest (J : lJ z D m x b L xs i k V M ov H cn sn) (N : lGo z D m x b i k Q) : LW z 7 (fun q => (zS z).heap.size ≤ q) Q cn sn 580 (lL b x m i) [] H := by
  obtain ⟨C, hX, hbl, hi, hL, hk, v, hc, hs⟩ := J
  have hbA : ¬ (zS z).heap.size ≤ b := Nat.not_le.mpr hbl
  have hV := lIV.ok v
  have h5 := lIV.m5 v
  have wk := lIV.wk v
  have hn : vNp V < 100000 := by have := hV.np; omega
  have hk5 : k ≤ 511 := by omega
  refine l_aload_n C.l (gd DL_law_4 43 rfl) 1 rfl rfl ?_
  refine l_aload_n C.l (gd DL_law_4 44 rfl) 0 rfl rfl ?_
  refine l_iload C.l (gd DL_law_4 45 rfl) 4 rfl ?_
  refine l_iconst (v := 1) C.l (gd DL_law_4 46 rfl) (by decide) ?_
  refine l_iadd C.l (gd DL_law_4 47 rfl) ?_
  refine l_sld C.l hX hbl hbA (l_in1 hi hL) (gd DL_law_4 48 rfl) ?_
  refine l_Xi (mc := 0) (ms := 0) (B := M.1.1) C v [.int _] mX9_greatest lm_TestJudgeLaw_67 rfl (fun w h si W RC K hM => e_x_greatest K hM _) rI_q (by decide) (by decide) (by omega) (by omega) rfl rfl (gd DL_law_4 49 rfl) (fun i1 V1 M1 H1 q1 t1 v => ?_)
  refine l_aload_n C.l (gd DL_law_4 50 rfl) 2 rfl rfl ?_
  refine l_aload_n C.l (gd DL_law_4 51 rfl) 0 rfl rfl ?_
  refine l_iload C.l (gd DL_law_4 52 rfl) 4 rfl ?_
  refine l_iconst (v := 1) C.l (gd DL_law_4 53 rfl) (by decide) ?_
  refine l_iadd C.l (gd DL_law_4 54 rfl) ?_
  refine l_sld C.l hX hbl hbA (l_in1 hi hL) (gd DL_law_4 55 rfl) ?_
  exact l_Me C v [.int _] mX10_greatest lm_TestJudgeLaw_70 rfl (fun w h si v => b_m_greatest v _) (by decide) (by decide) (by omega) (by omega) rfl rfl (gd DL_law_4 56 rfl) (gd DL_law_4 57 rfl) (by decide) (ag2.one hn (fun r _ => ag_gre)).q q1 (fun H1 v => N V1 M1 ov H1 _ _ v (by omega) (by omega))
theorem l_c_first (J : lJ z D m x b L xs i k V M ov H cn sn) (N : lGo z D m x b i k Q) : LW z 7 (fun q => (zS z).heap.size ≤ q) Q cn sn 605 (lL b x m i) [] H := by
  obtain ⟨C, hX, hbl, hi, hL, hk, v, hc, hs⟩ := J
  have hbA : ¬ (zS z).heap.size ≤ b := Nat.not_le.mpr hbl
  have hV := lIV.ok v
  have h5 := lIV.m5 v
  have wk := lIV.wk v
  have hn : vNp V < 100000 := by have := hV.np; omega
  have hk5 : k ≤ 511 := by omega
  refine l_aload_n C.l (gd DL_law_5 0 rfl) 1 rfl rfl ?_
  refine l_aload_n C.l (gd DL_law_5 1 rfl) 0 rfl rfl ?_
  refine l_iload C.l (gd DL_law_5 2 rfl) 4 rfl ?_
  refine l_iconst (v := 1) C.l (gd DL_law_5 3 rfl) (by decide) ?_
  refine l_iadd C.l (gd DL_law_5 4 rfl) ?_
  refine l_sld C.l hX hbl hbA (l_in1 hi hL) (gd DL_law_5 5 rfl) ?_
  refine l_aload_n C.l (gd DL_law_5 6 rfl) 0 rfl rfl ?_
  refine l_iload C.l (gd DL_law_5 7 rfl) 4 rfl ?_
  refine l_iconst (v := 2) C.l (gd DL_law_5 8 rfl) (by decide) ?_
  refine l_iadd C.l (gd DL_law_5 9 rfl) ?_
  refine l_sld C.l hX hbl hbA (l_in2 hi hL) (gd DL_law_5 10 rfl) ?_
  refine l_Xi (mc := 0) (ms := 0) (B := M.1.1) C v [.int _, .int _] mX9_first lm_TestJudgeLaw_71 rfl (fun w h si W RC K hM => e_x_first K hM _ _) rI_q (by decide) (by decide) (by omega) (by omega) rfl rfl (gd DL_law_5 11 rfl) (fun i1 V1 M1 H1 q1 t1 v => ?_)
  refine l_aload_n C.l (gd DL_law_5 12 rfl) 2 rfl rfl ?_
  refine l_aload_n C.l (gd DL_law_5 13 rfl) 0 rfl rfl ?_
  refine l_iload C.l (gd DL_law_5 14 rfl) 4 rfl ?_
  refine l_iconst (v := 1) C.l (gd DL_law_5 15 rfl) (by decide) ?_
  refine l_iadd C.l (gd DL_law_5 16 rfl) ?_
  refine l_sld C.l hX hbl hbA (l_in1 hi hL) (gd DL_law_5 17 rfl) ?_
  refine l_aload_n C.l (gd DL_law_5 18 rfl) 0 rfl rfl ?_
  refine l_iload C.l (gd DL_law_5 19 rfl) 4 rfl ?_
  refine l_iconst (v := 2) C.l (gd DL_law_5 20 rfl) (by decide) ?_
  refine l_iadd C.l (gd DL_law_5 21 rfl) ?_
  refine l_sld C.l hX hbl hbA (l_in2 hi hL) (gd DL_law_5 22 rfl) ?_
  exact l_Me C v [.int _, .int _] mX10_first lm_TestJudgeLaw_74 rfl (fun w h si v => b_m_first v _ _) (by decide) (by decide) (by omega) (by omega) rfl rfl (gd DL_law_5 23 rfl) (gd DL_law_5 24 rfl) (by decide) (fQ2.gat (fun _ => fQ2.one hn (fun r _ => fn_sp))).q q1 (fun H1 v => N V1 M1 ov H1 _ _ v (by omega) (by omega))
theorem l_c_equal (J : lJ z D m x b L xs i k V M ov H cn sn) (N : lGo z D m x b i k Q) : LW z 7 (fun q => (zS z).heap.size ≤ q) Q cn sn 642 (lL b x m i) [] H := by
  obtain ⟨C, hX, hbl, hi, hL, hk, v, hc, hs⟩ := J
  have hbA : ¬ (zS z).heap.size ≤ b := Nat.not_le.mpr hbl
  have hV := lIV.ok v
  have h5 := lIV.m5 v
  have wk := lIV.wk v
  have hn : vNp V < 100000 := by have := hV.np; omega
  have hk5 : k ≤ 511 := by omega
  refine l_aload_n C.l (gd DL_law_5 27 rfl) 1 rfl rfl ?_
  refine l_aload_n C.l (gd DL_law_5 28 rfl) 0 rfl rfl ?_
  refine l_iload C.l (gd DL_law_5 29 rfl) 4 rfl ?_
  refine l_iconst (v := 1) C.l (gd DL_law_5 30 rfl) (by decide) ?_
  refine l_iadd C.l (gd DL_law_5 31 rfl) ?_
  refine l_sld C.l hX hbl hbA (l_in1 hi hL) (gd DL_law_5 32 rfl) ?_
  refine l_aload_n C.l (gd DL_law_5 33 rfl) 0 rfl rfl ?_
  refine l_iload C.l (gd DL_law_5 34 rfl) 4 rfl ?_
  refine l_iconst (v := 2) C.l (gd DL_law_5 35 rfl) (by decide) ?_
  refine l_iadd C.l (gd DL_law_5 36 rfl) ?_
  refine l_sld C.l hX hbl hbA (l_in2 hi hL) (gd DL_law_5 37 rfl) ?_
  refine l_Xi (mc := 0) (ms := 0) (B := M.1.1) C v [.int _, .int _] mX9_equal lm_TestJudgeLaw_75 rfl (fun w h si W RC K hM => e_x_equal K hM _ _) rI_q (by decide) (by decide) (by omega) (by omega) rfl rfl (gd DL_law_5 38 rfl) (fun i1 V1 M1 H1 q1 t1 v => ?_)
  refine l_aload_n C.l (gd DL_law_5 39 rfl) 2 rfl rfl ?_
  refine l_aload_n C.l (gd DL_law_5 40 rfl) 0 rfl rfl ?_
  refine l_iload C.l (gd DL_law_5 41 rfl) 4 rfl ?_
  refine l_iconst (v := 1) C.l (gd DL_law_5 42 rfl) (by decide) ?_
  refine l_iadd C.l (gd DL_law_5 43 rfl) ?_
  refine l_sld C.l hX hbl hbA (l_in1 hi hL) (gd DL_law_5 44 rfl) ?_
  refine l_aload_n C.l (gd DL_law_5 45 rfl) 0 rfl rfl ?_
  refine l_iload C.l (gd DL_law_5 46 rfl) 4 rfl ?_
  refine l_iconst (v := 2) C.l (gd DL_law_5 47 rfl) (by decide) ?_
  refine l_iadd C.l (gd DL_law_5 48 rfl) ?_
  refine l_sld C.l hX hbl hbA (l_in2 hi hL) (gd DL_law_5 49 rfl) ?_
  exact l_Me C v [.int _, .int _] mX10_equal lm_TestJudgeLaw_78 rfl (fun w h si v => b_m_equal v _ _) (by decide) (by decide) (by omega) (by omega) rfl rfl (gd DL_law_5 50 rfl) (gd DL_law_5 51 rfl) (by decide) (fQ2.two hn (fun r q _ _ => fn_equ)).q q1 (fun H1 v => N V1 M1 ov H1 _ _ v (by omega) (by omega))
theorem l_c_within (J : lJ z D m x b L xs i k V M ov H cn sn) (N : lGo z D m x b i k Q) : LW z 7 (fun q => (zS z).heap.size ≤ q) Q cn sn 679 (lL b x m i) [] H := by
  obtain ⟨C, hX, hbl, hi, hL, hk, v, hc, hs⟩ := J
  have hbA : ¬ (zS z).heap.size ≤ b := Nat.not_le.mpr hbl
  have hV := lIV.ok v
  have h5 := lIV.m5 v
  have wk := lIV.wk v
  have hn : vNp V < 100000 := by have := hV.np; omega
  have hk5 : k ≤ 511 := by omega
  refine l_aload_n C.l (gd DL_law_5 54 rfl) 1 rfl rfl ?_
  refine l_aload_n C.l (gd DL_law_5 55 rfl) 0 rfl rfl ?_
  refine l_iload C.l (gd DL_law_5 56 rfl) 4 rfl ?_
  refine l_iconst (v := 1) C.l (gd DL_law_5 57 rfl) (by decide) ?_
  refine l_iadd C.l (gd DL_law_5 58 rfl) ?_
  refine l_sld C.l hX hbl hbA (l_in1 hi hL) (gd DL_law_5 59 rfl) ?_
  refine l_aload_n C.l (gd DL_law_6 0 rfl) 0 rfl rfl ?_
  refine l_iload C.l (gd DL_law_6 1 rfl) 4 rfl ?_
  refine l_iconst (v := 2) C.l (gd DL_law_6 2 rfl) (by decide) ?_
  refine l_iadd C.l (gd DL_law_6 3 rfl) ?_
  refine l_sld C.l hX hbl hbA (l_in2 hi hL) (gd DL_law_6 4 rfl) ?_
  refine l_Xi (mc := 0) (ms := 0) (B := M.1.1) C v [.int _, .int _] mX9_within lm_TestJudgeLaw_79 rfl (fun w h si W RC K hM => e_x_within K hM _ _) rI_q (by decide) (by decide) (by omega) (by omega) rfl rfl (gd DL_law_6 5 rfl) (fun i1 V1 M1 H1 q1 t1 v => ?_)
  refine l_aload_n C.l (gd DL_law_6 6 rfl) 2 rfl rfl ?_
  refine l_aload_n C.l (gd DL_law_6 7 rfl) 0 rfl rfl ?_
  refine l_iload C.l (gd DL_law_6 8 rfl) 4 rfl ?_
  refine l_iconst (v := 1) C.l (gd DL_law_6 9 rfl) (by decide) ?_
  refine l_iadd C.l (gd DL_law_6 10 rfl) ?_
  refine l_sld C.l hX hbl hbA (l_in1 hi hL) (gd DL_law_6 11 rfl) ?_
  refine l_aload_n C.l (gd DL_law_6 12 rfl) 0 rfl rfl ?_
  refine l_iload C.l (gd DL_law_6 13 rfl) 4 rfl ?_
  refine l_iconst (v := 2) C.l (gd DL_law_6 14 rfl) (by decide) ?_
  refine l_iadd C.l (gd DL_law_6 15 rfl) ?_
  refine l_sld C.l hX hbl hbA (l_in2 hi hL) (gd DL_law_6 16 rfl) ?_
  exact l_Me C v [.int _, .int _] mX10_within lm_TestJudgeLaw_82 rfl (fun w h si v => b_m_within v _ _) (by decide) (by decide) (by omega) (by omega) rfl rfl (gd DL_law_6 17 rfl) (gd DL_law_6 18 rfl) (by decide) (fQ2.two hn (fun r q _ _ => fn_wit)).q q1 (fun H1 v => N V1 M1 ov H1 _ _ v (by omega) (by omega))
theorem l_c_telling (J : lJ z D m x b L xs i k V M ov H cn sn) (N : lGo z D m x b i k Q) : LW z 7 (fun q => (zS z).heap.size ≤ q) Q cn sn 716 (lL b x m i) [] H := by
  obtain ⟨C, hX, hbl, hi, hL, hk, v, hc, hs⟩ := J
  have hbA : ¬ (zS z).heap.size ≤ b := Nat.not_le.mpr hbl
  have hV := lIV.ok v
  have h5 := lIV.m5 v
  have wk := lIV.wk v
  have hn : vNp V < 100000 := by have := hV.np; omega
  have hk5 : k ≤ 511 := by omega
  refine l_aload_n C.l (gd DL_law_6 21 rfl) 1 rfl rfl ?_
  refine l_aload_n C.l (gd DL_law_6 22 rfl) 0 rfl rfl ?_
  refine l_iload C.l (gd DL_law_6 23 rfl) 4 rfl ?_
  refine l_iconst (v := 1) C.l (gd DL_law_6 24 rfl) (by decide) ?_
  refine l_iadd C.l (gd DL_law_6 25 rfl) ?_
  refine l_sld C.l hX hbl hbA (l_in1 hi hL) (gd DL_law_6 26 rfl) ?_
  refine l_aload_n C.l (gd DL_law_6 27 rfl) 0 rfl rfl ?_
  refine l_iload C.l (gd DL_law_6 28 rfl) 4 rfl ?_
  refine l_iconst (v := 2) C.l (gd DL_law_6 29 rfl) (by decide) ?_
  refine l_iadd C.l (gd DL_law_6 30 rfl) ?_
  refine l_sld C.l hX hbl hbA (l_in2 hi hL) (gd DL_law_6 31 rfl) ?_
  refine l_aload_n C.l (gd DL_law_6 32 rfl) 0 rfl rfl ?_
  refine l_iload C.l (gd DL_law_6 33 rfl) 4 rfl ?_
  refine l_iconst (v := 3) C.l (gd DL_law_6 34 rfl) (by decide) ?_
  refine l_iadd C.l (gd DL_law_6 35 rfl) ?_
  refine l_sld C.l hX hbl hbA (l_in3 hi hL) (gd DL_law_6 36 rfl) ?_
  refine l_Xi (mc := 0) (ms := 0) (B := M.1.1) C v [.int _, .int _, .int _] mX9_telling lm_TestJudgeLaw_83 rfl (fun w h si W RC K hM => e_x_telling K hM _ _ _) rI_q (by decide) (by decide) (by omega) (by omega) rfl rfl (gd DL_law_6 37 rfl) (fun i1 V1 M1 H1 q1 t1 v => ?_)
  refine l_aload_n C.l (gd DL_law_6 38 rfl) 2 rfl rfl ?_
  refine l_aload_n C.l (gd DL_law_6 39 rfl) 0 rfl rfl ?_
  refine l_iload C.l (gd DL_law_6 40 rfl) 4 rfl ?_
  refine l_iconst (v := 1) C.l (gd DL_law_6 41 rfl) (by decide) ?_
  refine l_iadd C.l (gd DL_law_6 42 rfl) ?_
  refine l_sld C.l hX hbl hbA (l_in1 hi hL) (gd DL_law_6 43 rfl) ?_
  refine l_aload_n C.l (gd DL_law_6 44 rfl) 0 rfl rfl ?_
  refine l_iload C.l (gd DL_law_6 45 rfl) 4 rfl ?_
  refine l_iconst (v := 2) C.l (gd DL_law_6 46 rfl) (by decide) ?_
  refine l_iadd C.l (gd DL_law_6 47 rfl) ?_
  refine l_sld C.l hX hbl hbA (l_in2 hi hL) (gd DL_law_6 48 rfl) ?_
  refine l_aload_n C.l (gd DL_law_6 49 rfl) 0 rfl rfl ?_
  refine l_iload C.l (gd DL_law_6 50 rfl) 4 rfl ?_
  refine l_iconst (v := 3) C.l (gd DL_law_6 51 rfl) (by decide) ?_
  refine l_iadd C.l (gd DL_law_6 52 rfl) ?_
  refine l_sld C.l hX hbl hbA (l_in3 hi hL) (gd DL_law_6 53 rfl) ?_
  exact l_Me C v [.int _, .int _, .int _] mX10_telling lm_TestJudgeLaw_87 rfl (fun w h si v => b_m_telling v _ _ _) (by decide) (by decide) (by omega) (by omega) rfl rfl (gd DL_law_6 54 rfl) (gd DL_law_6 55 rfl) (by decide) (fQ2.gat (fun _ => fQ2.two hn (fun r q _ _ => fn_sp))).q q1 (fun H1 v => N V1 M1 ov H1 _ _ v (by omega) (by omega))
theorem l_c_whose (J : lJ z D m x b L xs i k V M ov H cn sn) (N : lGo z D m x b i k Q) : LW z 7 (fun q => (zS z).heap.size ≤ q) Q cn sn 765 (lL b x m i) [] H := by
  obtain ⟨C, hX, hbl, hi, hL, hk, v, hc, hs⟩ := J
  have hbA : ¬ (zS z).heap.size ≤ b := Nat.not_le.mpr hbl
  have hV := lIV.ok v
  have h5 := lIV.m5 v
  have wk := lIV.wk v
  have hn : vNp V < 100000 := by have := hV.np; omega
  have hk5 : k ≤ 511 := by omega
  refine l_aload_n C.l (gd DL_law_6 58 rfl) 1 rfl rfl ?_
  refine l_aload_n C.l (gd DL_law_6 59 rfl) 0 rfl rfl ?_
  refine l_iload C.l (gd DL_law_7 0 rfl) 4 rfl ?_
  refine l_iconst (v := 1) C.l (gd DL_law_7 1 rfl) (by decide) ?_
  refine l_iadd C.l (gd DL_law_7 2 rfl) ?_
  refine l_sld C.l hX hbl hbA (l_in1 hi hL) (gd DL_law_7 3 rfl) ?_
  refine l_aload_n C.l (gd DL_law_7 4 rfl) 0 rfl rfl ?_
  refine l_iload C.l (gd DL_law_7 5 rfl) 4 rfl ?_
  refine l_iconst (v := 2) C.l (gd DL_law_7 6 rfl) (by decide) ?_
  refine l_iadd C.l (gd DL_law_7 7 rfl) ?_
  refine l_sld C.l hX hbl hbA (l_in2 hi hL) (gd DL_law_7 8 rfl) ?_
  refine l_Xi (mc := 0) (ms := 0) (B := M.1.1) C v [.int _, .int _] mX9_whose lm_TestJudgeLaw_88 rfl (fun w h si W RC K hM => e_x_whose K hM _ _) rI_q (by decide) (by decide) (by omega) (by omega) rfl rfl (gd DL_law_7 9 rfl) (fun i1 V1 M1 H1 q1 t1 v => ?_)
  refine l_aload_n C.l (gd DL_law_7 10 rfl) 2 rfl rfl ?_
  refine l_aload_n C.l (gd DL_law_7 11 rfl) 0 rfl rfl ?_
  refine l_iload C.l (gd DL_law_7 12 rfl) 4 rfl ?_
  refine l_iconst (v := 1) C.l (gd DL_law_7 13 rfl) (by decide) ?_
  refine l_iadd C.l (gd DL_law_7 14 rfl) ?_
  refine l_sld C.l hX hbl hbA (l_in1 hi hL) (gd DL_law_7 15 rfl) ?_
  refine l_aload_n C.l (gd DL_law_7 16 rfl) 0 rfl rfl ?_
  refine l_iload C.l (gd DL_law_7 17 rfl) 4 rfl ?_
  refine l_iconst (v := 2) C.l (gd DL_law_7 18 rfl) (by decide) ?_
  refine l_iadd C.l (gd DL_law_7 19 rfl) ?_
  refine l_sld C.l hX hbl hbA (l_in2 hi hL) (gd DL_law_7 20 rfl) ?_
  exact l_Me C v [.int _, .int _] mX10_whose lm_TestJudgeLaw_91 rfl (fun w h si v => b_m_whose v _ _) (by decide) (by decide) (by omega) (by omega) rfl rfl (gd DL_law_7 21 rfl) (gd DL_law_7 22 rfl) (by decide) (fQ2.two hn (fun r q _ _ => fn_who)).q q1 (fun H1 v => N V1 M1 ov H1 _ _ v (by omega) (by omega))
theorem l_c_same (J : lJ z D m x b L xs i k V M ov H cn sn) (N : lGo z D m x b i k Q) : LW z 7 (fun q => (zS z).heap.size ≤ q) Q cn sn 802 (lL b x m i) [] H := by
  obtain ⟨C, hX, hbl, hi, hL, hk, v, hc, hs⟩ := J
  have hbA : ¬ (zS z).heap.size ≤ b := Nat.not_le.mpr hbl
  have hV := lIV.ok v
  have h5 := lIV.m5 v
  have wk := lIV.wk v
  have hn : vNp V < 100000 := by have := hV.np; omega
  have hk5 : k ≤ 511 := by omega
  refine l_aload_n C.l (gd DL_law_7 25 rfl) 1 rfl rfl ?_
  refine l_aload_n C.l (gd DL_law_7 26 rfl) 0 rfl rfl ?_
  refine l_iload C.l (gd DL_law_7 27 rfl) 4 rfl ?_
  refine l_iconst (v := 1) C.l (gd DL_law_7 28 rfl) (by decide) ?_
  refine l_iadd C.l (gd DL_law_7 29 rfl) ?_
  refine l_sld C.l hX hbl hbA (l_in1 hi hL) (gd DL_law_7 30 rfl) ?_
  refine l_Xi (mc := 0) (ms := 0) (B := M.1.1) C v [.int _] mX9_same lm_TestJudgeLaw_92 rfl (fun w h si W RC K hM => e_x_same K hM _) rI_q (by decide) (by decide) (by omega) (by omega) rfl rfl (gd DL_law_7 31 rfl) (fun i1 V1 M1 H1 q1 t1 v => ?_)
  refine l_aload_n C.l (gd DL_law_7 32 rfl) 2 rfl rfl ?_
  refine l_aload_n C.l (gd DL_law_7 33 rfl) 0 rfl rfl ?_
  refine l_iload C.l (gd DL_law_7 34 rfl) 4 rfl ?_
  refine l_iconst (v := 1) C.l (gd DL_law_7 35 rfl) (by decide) ?_
  refine l_iadd C.l (gd DL_law_7 36 rfl) ?_
  refine l_sld C.l hX hbl hbA (l_in1 hi hL) (gd DL_law_7 37 rfl) ?_
  exact l_Me C v [.int _] mX10_same lm_TestJudgeLaw_95 rfl (fun w h si v => b_m_same v _) (by decide) (by decide) (by omega) (by omega) rfl rfl (gd DL_law_7 38 rfl) (gd DL_law_7 39 rfl) (by decide) (fQ2.one hn (fun r _ => fn_sam)).q q1 (fun H1 v => N V1 M1 ov H1 _ _ v (by omega) (by omega))
theorem l_c_kinds (J : lJ z D m x b L xs i k V M ov H cn sn) (N : lGo z D m x b i k Q) : LW z 7 (fun q => (zS z).heap.size ≤ q) Q cn sn 827 (lL b x m i) [] H := by
  obtain ⟨C, hX, hbl, hi, hL, hk, v, hc, hs⟩ := J
  have hbA : ¬ (zS z).heap.size ≤ b := Nat.not_le.mpr hbl
  have hV := lIV.ok v
  have h5 := lIV.m5 v
  have wk := lIV.wk v
  have hn : vNp V < 100000 := by have := hV.np; omega
  have hk5 : k ≤ 511 := by omega
  refine l_aload_n C.l (gd DL_law_7 42 rfl) 1 rfl rfl ?_
  refine l_Xi (mc := 0) (ms := 0) (B := M.1.1) C v [] mX9_kinds lm_TestJudgeLaw_96 rfl (fun w h si W RC K hM => e_x_kinds K hM ) rI_q (by decide) (by decide) (by omega) (by omega) rfl rfl (gd DL_law_7 43 rfl) (fun i1 V1 M1 H1 q1 t1 v => ?_)
  refine l_aload_n C.l (gd DL_law_7 44 rfl) 2 rfl rfl ?_
  exact l_Me C v [] mX10_kinds lm_TestJudgeLaw_99 rfl (fun w h si v => b_m_kinds v ) (by decide) (by decide) (by omega) (by omega) rfl rfl (gd DL_law_7 45 rfl) (gd DL_law_7 46 rfl) (by decide) fn_kin.q q1 (fun H1 v => N V1 M1 ov H1 _ _ v (by omega) (by omega))
theorem l_c_swaps (J : lJ z D m x b L xs i k V M ov H cn sn) (N : lGo z D m x b i k Q) : LW z 7 (fun q => (zS z).heap.size ≤ q) Q cn sn 840 (lL b x m i) [] H := by
  obtain ⟨C, hX, hbl, hi, hL, hk, v, hc, hs⟩ := J
  have hbA : ¬ (zS z).heap.size ≤ b := Nat.not_le.mpr hbl
  have hV := lIV.ok v
  have h5 := lIV.m5 v
  have wk := lIV.wk v
  have hn : vNp V < 100000 := by have := hV.np; omega
  have hk5 : k ≤ 511 := by omega
  refine l_aload_n C.l (gd DL_law_7 49 rfl) 1 rfl rfl ?_
  refine l_aload_n C.l (gd DL_law_7 50 rfl) 0 rfl rfl ?_
  refine l_iload C.l (gd DL_law_7 51 rfl) 4 rfl ?_
  refine l_iconst (v := 1) C.l (gd DL_law_7 52 rfl) (by decide) ?_
  refine l_iadd C.l (gd DL_law_7 53 rfl) ?_
  refine l_sld C.l hX hbl hbA (l_in1 hi hL) (gd DL_law_7 54 rfl) ?_
  refine l_aload_n C.l (gd DL_law_7 55 rfl) 0 rfl rfl ?_
  refine l_iload C.l (gd DL_law_7 56 rfl) 4 rfl ?_
  refine l_iconst (v := 2) C.l (gd DL_law_7 57 rfl) (by decide) ?_
  refine l_iadd C.l (gd DL_law_7 58 rfl) ?_
  refine l_sld C.l hX hbl hbA (l_in2 hi hL) (gd DL_law_7 59 rfl) ?_
  refine l_Xi (mc := 10) (ms := 122) (B := M.1.1) C v [.int _, .int _] mX9_swaps lm_TestJudgeLaw_100 rfl (fun w h si W RC K hM => e_x_swaps K hM _ _) rI_q (by decide) (by decide) (by omega) (by omega) rfl rfl (gd DL_law_8 0 rfl) (fun i1 V1 M1 H1 q1 t1 v => ?_)
  refine l_aload_n C.l (gd DL_law_8 1 rfl) 2 rfl rfl ?_
  refine l_aload_n C.l (gd DL_law_8 2 rfl) 0 rfl rfl ?_
  refine l_iload C.l (gd DL_law_8 3 rfl) 4 rfl ?_
  refine l_iconst (v := 1) C.l (gd DL_law_8 4 rfl) (by decide) ?_
  refine l_iadd C.l (gd DL_law_8 5 rfl) ?_
  refine l_sld C.l hX hbl hbA (l_in1 hi hL) (gd DL_law_8 6 rfl) ?_
  refine l_aload_n C.l (gd DL_law_8 7 rfl) 0 rfl rfl ?_
  refine l_iload C.l (gd DL_law_8 8 rfl) 4 rfl ?_
  refine l_iconst (v := 2) C.l (gd DL_law_8 9 rfl) (by decide) ?_
  refine l_iadd C.l (gd DL_law_8 10 rfl) ?_
  refine l_sld C.l hX hbl hbA (l_in2 hi hL) (gd DL_law_8 11 rfl) ?_
  exact l_Me C v [.int _, .int _] mX10_swaps lm_TestJudgeLaw_103 rfl (fun w h si v => b_m_swaps v _ _) (by decide) (by decide) (by omega) (by omega) rfl rfl (gd DL_law_8 12 rfl) (gd DL_law_8 13 rfl) (by decide) (fQ2.two hn (fun r q _ _ => fn_swa)).q q1 (fun H1 v => N V1 M1 ov H1 _ _ v (by omega) (by omega))
end CS
