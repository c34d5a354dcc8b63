/-! The law's cases: load, assume -/
section CL
variable {z : gZ} {D : lD} {Q : State → Prop} {m x b L i k : Nat} {xs : Nat → Int32} {V : aV} {M : aM} {ov : Int64} {H : Heap} {cn sn : Nat}
theorem l_c_load (J : lJ z D m x b L xs i k V M ov H cn sn) (N : lGo z D m x b i k Q) : LW z 7 (fun q => (zS z).heap.size ≤ q) Q cn sn 306 (lL b x m i) [] H := by
  obtain ⟨C, hX, hbl, hi, hL, hk, v, hc, hs⟩ := J
  have hbA : ¬ (zS z).heap.size ≤ b := Nat.not_le.mpr hbl
  have hV := lIV.ok v
  have h5 := lIV.m5 v
  have wk := lIV.wk v
  have hn : vNp V < 100000 := by have := hV.np; omega
  have hk5 : k ≤ 511 := by omega
  refine l_aload_n C.l (gd DL_law_1 29 rfl) 1 rfl rfl ?_
  refine l_aload_n C.l (gd DL_law_1 30 rfl) 0 rfl rfl ?_
  refine l_iload C.l (gd DL_law_1 31 rfl) 4 rfl ?_
  refine l_iconst (v := 1) C.l (gd DL_law_1 32 rfl) (by decide) ?_
  refine l_iadd C.l (gd DL_law_1 33 rfl) ?_
  refine l_sld C.l hX hbl hbA (l_in1 hi hL) (gd DL_law_1 34 rfl) ?_
  by_cases hq : 0 ≤ xs (nI i + 1).toNatClampNeg ∧ xs (nI i + 1).toNatClampNeg ≤ nI M.1.1
  · refine l_Xi (mc := 20 * M.1.1 + 400) (ms := 244 * M.1.1 + 4200) (B := 0) C v [.int _] mX9_load lm_TestJudgeLaw_29 rfl (fun w h si W RC K hM => e_x_load K hM _) (rI_lod0 hq) (by decide) (by decide) (by omega) (by omega) rfl rfl (gd DL_law_1 35 rfl) (fun i1 V1 M1 H1 q1 t1 v => ?_)
    refine l_aload_n C.l (gd DL_law_1 36 rfl) 2 rfl rfl ?_
    refine l_aload_n C.l (gd DL_law_1 37 rfl) 0 rfl rfl ?_
    refine l_iload C.l (gd DL_law_1 38 rfl) 4 rfl ?_
    refine l_iconst (v := 1) C.l (gd DL_law_1 39 rfl) (by decide) ?_
    refine l_iadd C.l (gd DL_law_1 40 rfl) ?_
    refine l_sld C.l hX hbl hbA (l_in1 hi hL) (gd DL_law_1 41 rfl) ?_
    exact l_Me C v [.int _] mX10_load lm_TestJudgeLaw_32 rfl (fun w h si v => b_m_load si v _) (by decide) (by decide) (by omega) (by omega) rfl rfl (gd DL_law_1 42 rfl) (gd DL_law_1 43 rfl) (by decide) (fn_lod h5) q1 (fun H1 v => N V1 M1 ov H1 _ _ v (by omega) (by omega))
  · refine l_Xi (mc := 0) (ms := 0) (B := M.1.1) C v [.int _] mX9_load lm_TestJudgeLaw_29 rfl (fun w h si W RC K hM => e_x_loadR K hM hq) rI_lod (by decide) (by decide) (by omega) (by omega) rfl rfl (gd DL_law_1 35 rfl) (fun i1 V1 M1 H1 q1 t1 v => ?_)
    refine l_aload_n C.l (gd DL_law_1 36 rfl) 2 rfl rfl ?_
    refine l_aload_n C.l (gd DL_law_1 37 rfl) 0 rfl rfl ?_
    refine l_iload C.l (gd DL_law_1 38 rfl) 4 rfl ?_
    refine l_iconst (v := 1) C.l (gd DL_law_1 39 rfl) (by decide) ?_
    refine l_iadd C.l (gd DL_law_1 40 rfl) ?_
    refine l_sld C.l hX hbl hbA (l_in1 hi hL) (gd DL_law_1 41 rfl) ?_
    exact l_Me C v [.int _] mX10_load lm_TestJudgeLaw_32 rfl (fun w h si v => b_m_load si v _) (by decide) (by decide) (by omega) (by omega) rfl rfl (gd DL_law_1 42 rfl) (gd DL_law_1 43 rfl) (by decide) (fn_lod h5) q1 (fun H1 v => N V1 M1 ov H1 _ _ v (by omega) (by omega))
/-- the law's assume, its second number turned to a bit -/
theorem l_c_as {y : Int32} (hy : y = 0 ∨ y = 1) (J : lJ z D m x b L xs i k V M ov H cn sn) (N : lGo z D m x b i k Q) (c : xs (nI i + 2).toNatClampNeg = 0 ↔ y = 0) : LW z 7 (fun q => (zS z).heap.size ≤ q) Q cn sn 1540 (lL b x m i) [.int y, .int (xs (nI i + 1).toNatClampNeg), .ref x] H := by
  obtain ⟨C, hX, hbl, hi, hL, hk, v, hc, hs⟩ := J
  have hbA : ¬ (zS z).heap.size ≤ b := Nat.not_le.mpr hbl
  have hV := lIV.ok v
  have h5 := lIV.m5 v
  have wk := lIV.wk v
  have hn : vNp V < 100000 := by have := hV.np; omega
  have hk5 : k ≤ 511 := by omega
  refine l_Xi (mc := 0) (ms := 0) (B := M.1.1) C v [.int _, .int _] mX9_assume lm_TestJudgeLaw_174 rfl (fun w h si W RC K hM => e_x_assume K hM _ hy) rI_ass (by decide) (by decide) (by omega) (by omega) rfl rfl (gd DL_law_16 21 rfl) (fun i1 V1 M1 H1 q1 t1 v => ?_)
  refine l_aload_n C.l (gd DL_law_16 22 rfl) 2 rfl rfl ?_
  refine l_aload_n C.l (gd DL_law_16 23 rfl) 0 rfl rfl ?_
  refine l_iload C.l (gd DL_law_16 24 rfl) 4 rfl ?_
  refine l_iconst (v := 1) C.l (gd DL_law_16 25 rfl) (by decide) ?_
  refine l_iadd C.l (gd DL_law_16 26 rfl) ?_
  refine l_sld C.l hX hbl hbA (l_in1 hi hL) (gd DL_law_16 27 rfl) ?_
  refine l_aload_n C.l (gd DL_law_16 28 rfl) 0 rfl rfl ?_
  refine l_iload C.l (gd DL_law_16 29 rfl) 4 rfl ?_
  refine l_iconst (v := 2) C.l (gd DL_law_16 30 rfl) (by decide) ?_
  refine l_iadd C.l (gd DL_law_16 31 rfl) ?_
  refine l_sld C.l hX hbl hbA (l_in2 hi hL) (gd DL_law_16 32 rfl) ?_
  have fin : LW z 7 (fun q => (zS z).heap.size ≤ q) Q (cn + 0) (sn + 0) 1564 (lL b x m i) [.int y, .int (xs (nI i + 1).toNatClampNeg), .ref m, .int i1] H1 := by
    exact l_Me C v [.int _, .int _] mX10_assume lm_TestJudgeLaw_178 rfl (fun w h si v => b_m_assume v _ _) (by decide) (by decide) (by omega) (by omega) rfl rfl (gd DL_law_16 37 rfl) (gd DL_law_16 38 rfl) (by decide) (fn_ass hV) q1 (fun H1 v => N V1 M1 ov H1 _ _ v (by omega) (by omega))
  refine l_if_eq C.l 1563 (gd DL_law_16 33 rfl) (by decide) (fun d => ?_) (fun d => ?_)
  · refine l_iconst (v := 0) C.l (gd DL_law_16 36 rfl) (by decide) ?_
    have e : y = 0 := c.mp d
    rw [e] at fin
    exact fin
  · refine l_iconst (v := 1) C.l (gd DL_law_16 34 rfl) (by decide) ?_
    refine l_goto (tgt := 1564) C.l (gd DL_law_16 35 rfl) (by decide) ?_
    have e : y = 1 := hy.resolve_left (fun q => d (c.mpr q))
    rw [e] at fin
    exact fin
theorem l_c_assume (J : lJ z D m x b L xs i k V M ov H cn sn) (N : lGo z D m x b i k Q) : LW z 7 (fun q => (zS z).heap.size ≤ q) Q cn sn 1519 (lL b x m i) [] H := by
  obtain ⟨C, hX, hbl, hi, hL, hk, v, hc, hs⟩ := J
  have hbA : ¬ (zS z).heap.size ≤ b := Nat.not_le.mpr hbl
  have hV := lIV.ok v
  have h5 := lIV.m5 v
  have wk := lIV.wk v
  have hn : vNp V < 100000 := by have := hV.np; omega
  have hk5 : k ≤ 511 := by omega
  have J : lJ z D m x b L xs i k V M ov H cn sn := ⟨C, hX, hbl, hi, hL, hk, v, hc, hs⟩
  refine l_aload_n C.l (gd DL_law_16 6 rfl) 1 rfl rfl ?_
  refine l_aload_n C.l (gd DL_law_16 7 rfl) 0 rfl rfl ?_
  refine l_iload C.l (gd DL_law_16 8 rfl) 4 rfl ?_
  refine l_iconst (v := 1) C.l (gd DL_law_16 9 rfl) (by decide) ?_
  refine l_iadd C.l (gd DL_law_16 10 rfl) ?_
  refine l_sld C.l hX hbl hbA (l_in1 hi hL) (gd DL_law_16 11 rfl) ?_
  refine l_aload_n C.l (gd DL_law_16 12 rfl) 0 rfl rfl ?_
  refine l_iload C.l (gd DL_law_16 13 rfl) 4 rfl ?_
  refine l_iconst (v := 2) C.l (gd DL_law_16 14 rfl) (by decide) ?_
  refine l_iadd C.l (gd DL_law_16 15 rfl) ?_
  refine l_sld C.l hX hbl hbA (l_in2 hi hL) (gd DL_law_16 16 rfl) ?_
  refine l_if_eq C.l 1539 (gd DL_law_16 17 rfl) (by decide) (fun d => ?_) (fun d => ?_)
  · refine l_iconst (v := 0) C.l (gd DL_law_16 20 rfl) (by decide) ?_
    exact l_c_as (Or.inl rfl) J N ⟨fun _ => rfl, fun _ => d⟩
  · refine l_iconst (v := 1) C.l (gd DL_law_16 18 rfl) (by decide) ?_
    refine l_goto (tgt := 1540) C.l (gd DL_law_16 19 rfl) (by decide) ?_
    exact l_c_as (Or.inr rfl) J N ⟨fun q => absurd q d, fun q => absurd q (by decide)⟩
end CL
