/-! The law's case of out -/
theorem yL_outP : (parseMethodDescriptor yL_out.desc).map (fun d => d.parameters.length) = some 3 := by decide +kernel
section CO
variable {z : gZ} {D : lD} {Q : State → Prop} {m x b L i k : Nat} {xs : Nat → Int32} {V : aV} {M : aM} {ov : Int64} {H : Heap} {cn sn : Nat}
theorem l_H {cc : ByteArray} {n : Nat} {rt : Option FieldType} {pc mc ms : Nat} {lv : List (Nat × Value)} {X Y : HS → Prop} {ov' : Int64} {r p : Int32} (C : lC z D cc n rt) (hM : Met z.2.1 yL_out (.codeWith yL_out cL_out 4 (some .int) hhL :: gtb) { frames := 20, cells := mc, slots := ms, locals := 64 * 20 } (hPc (zS z) H x m p) (fun _ _ oc t => oc = .returned (some (.int r)) ∧ lIV D (zS z) m X Y ov' t.heap) mc ms (hFr (zS z) m)) (hsz : (zS z).heap.size ≤ m) (ho : ∀ q, q < (zS z).heap.size → H[q]? = (zS z).heap[q]?) (h1 : cn + mc ≤ 601024) (h2 : sn + ms ≤ 7293034) (hd : decode cc pc = .ok (.invokestatic 187, 3))
    (kk : ∀ H1, lIV D (zS z) m X Y ov' H1 → LW z n (fun q => (zS z).heap.size ≤ q) Q (cn + mc) (sn + ms) (pc + 3) lv [.int r] H1) : LW z n (fun q => (zS z).heap.size ≤ q) Q cn sn pc lv [.ref (m + 27), .int p, .ref x] H := by
  intro locs ls hS hlv
  obtain ⟨c1, c2, c3, c4, c5, c6, c7, c8, c9, c10⟩ := C
  refine l_run (rest := []) (Qa := fun _ oc t => oc = .returned (some (.int r)) ∧ lIV D (zS z) m X Y ov' t.heap) (mc := mc) (ms := ms) (free := hFr (zS z) m) ?_ (fun q hq => ?_) hS hlv (fun v st₀ t e0 q => ?_)
  · have gi : GoodIn gtb (.codeWith yL_out cL_out 4 (some .int) hhL :: gtb) := g_goodIn (fun w hw => by
      rcases List.mem_cons.mp hw with h | h
      · subst h; exact lL_out
      · exact h)
    exact vx_runSW (p := z.1) (l := z.2.1) (e := z.2.2.1) (below := zB z) (meth := zE z) (c := zC z) (hh := hhL) (Ts := gtb) (own := RL) (index := 187) (As := [.ref x, .int p, .ref (m + 27)]) (rest := []) ⟨c1, c2, c3, c4, c5⟩ hM ⟨⟨rfl, rfl, by rw [c9]; exact Nat.le_of_ble_eq_true rfl, by rw [c9]; exact Nat.le_of_ble_eq_true rfl, pay_in c5 gi, List.mem_cons_self⟩, c5 _ lL_out, c5 _ li_TestJudgeLaw, ⟨by decide, by decide⟩, fun sig h => by have e := yL_outP; rw [h] at e; exact (Option.some.inj e).symm, c5 _ lm_TestJudgeLaw_187, c5 _ lL_outS⟩ ⟨hPc_b, fun U hU hW => ⟨rfl, hU, hW⟩⟩ rfl rfl hlv.1 rfl (lv_room (Nat.zero_le _)) hd ⟨by rw [c9]; exact h1, by rw [c9]; exact h2⟩
  · rcases hq with hq | hq
    · exact hq.1
    · show (zS z).heap.size ≤ q
      omega
  · obtain ⟨e, v1⟩ := q
    cases e
    have o1 := v1.2.2.2.1
    refine ⟨fun q hq => ?_, kk _ v1⟩
    have l : q < (zS z).heap.size := Nat.lt_of_not_le hq
    exact (o1 q l).trans (ho q l).symm
theorem l_c_o2 {r : Int32} (C : lC z D cL_law 7 ret) (hX : va_X b L xs (zS z) (zS z).heap) (hbl : b < (zS z).heap.size) (hi : i + 6 ≤ L) (hLl : L ≤ 3072) (v : lIV D (zS z) m (fun h => KV x h V M) (fun h => MV m h V M) ov H) (c1 : cn ≤ 601024) (s1 : sn ≤ 7293034) (hra : ((0 ≤ xs (nI i + 1).toNatClampNeg ∧ xs (nI i + 1).toNatClampNeg < nI M.2.2.2.1) ∧ r = 0 ∧ ov = (M.2.2.2.2 (xs (nI i + 1).toNatClampNeg).toNatClampNeg).toInt64) ∨ (¬ (0 ≤ xs (nI i + 1).toNatClampNeg ∧ xs (nI i + 1).toNatClampNeg < nI M.2.2.2.1) ∧ r = 1)) (nx : ∀ H1, lIV D (zS z) m (fun h => KV x h V M) (fun h => MV m h V M) ov H1 → LW z 7 (fun q => (zS z).heap.size ≤ q) Q cn sn 1666 (lL b x m i) [] H1) : LW z 7 (fun q => (zS z).heap.size ≤ q) Q cn sn 1621 (lL b x m i) [.int r] H := by
  have hbA : ¬ (zS z).heap.size ≤ b := Nat.not_le.mpr hbl
  generalize hp : xs (nI i + 1).toNatClampNeg = p at hra
  refine l_istore (lv' := [(0, _), (1, _), (2, _), (3, _), (4, _), (5, _)]) C.l (gd DL_law_17 13 rfl) [1, 2, 3, 4, 5, 0] (by decide) rfl ?_
  refine l_aload_n C.l (gd DL_law_17 14 rfl) 2 rfl rfl ?_
  refine l_aload_n C.l (gd DL_law_17 15 rfl) 0 rfl rfl ?_
  refine l_iload C.l (gd DL_law_17 16 rfl) 4 rfl ?_
  refine l_iconst (v := 1) C.l (gd DL_law_17 17 rfl) (by decide) ?_
  refine l_iadd C.l (gd DL_law_17 18 rfl) ?_
  refine l_sld C.l hX hbl hbA (l_in1 hi hLl) (gd DL_law_17 19 rfl) ?_
  rw [hp]
  refine l_M (rest := []) C v (fun h q => q.k) [.int _] mX10_out lm_TestJudgeLaw_192 rfl (fun w h si v => b_m_out v p) (by decide) (by decide) c1 s1 rfl rfl (Nat.zero_le _) (gd DL_law_17 20 rfl) (fun u H1 v1 => ?_)
  obtain ⟨a1, ⟨hm1, g1, rfl, mv, th⟩, a3⟩ := v1
  generalize hr : (if 0 ≤ p ∧ p < nI M.2.2.2.1 then M.2.2.2.2 p.toNatClampNeg else 0) = a
  have hth : (if 0 ≤ p ∧ p < nI M.2.2.2.1 then (0 : Int32) else 1) = r := by
    rcases hra with ⟨h1, h2, -⟩ | ⟨h1, h2⟩
    · rw [if_pos h1, h2]
    · rw [if_neg h1, h2]
  rw [hth] at th
  have v1 : lIV D (zS z) m (fun h => KV x h V M) (fun h => MV m h V M ∧ hI h m 1 = r) ov H1 := ⟨a1, ⟨hm1, g1, mv, th⟩, a3⟩
  show LW z 7 _ Q cn sn 1633 _ [.int a] H1
  refine l_istore (lv' := [(0, _), (1, _), (2, _), (3, _), (4, _), (5, _), (6, _)]) C.l (gd DL_law_17 21 rfl) [1, 2, 3, 4, 5, 6, 0] (by decide) rfl ?_
  refine l_aload_n C.l (gd DL_law_17 22 rfl) 2 rfl rfl ?_
  refine l_M (rest := []) (dd := 0) (P := fun u h' => u = some (.int r) ∧ MV m h' V M) C v1 (fun h q => q.1.k) [] mX10_thrown lm_TestJudgeLaw_193 rfl (fun w h si v => Ev.to (e_m_thr v.1) (fun r' h' hq => by
    obtain ⟨rfl, rfl⟩ := hq
    exact ⟨by rw [v.2], v.1⟩)) (by decide) (by decide) c1 s1 rfl rfl (Nat.zero_le _) (gd DL_law_17 23 rfl) (fun u H2 v2 => ?_)
  obtain ⟨b1, ⟨hm2, g2, rfl, mv2⟩, b3⟩ := v2
  have v2 : lIV D (zS z) m (fun h => KV x h V M) (fun h => MV m h V M) ov H2 := ⟨b1, ⟨hm2, g2, mv2⟩, b3⟩
  show LW z 7 _ Q cn sn 1639 _ [.int r] H2
  refine l_iload C.l (gd DL_law_17 24 rfl) 5 rfl ?_
  refine l_icmp_eq C.l 1646 (gd DL_law_17 25 rfl) (by decide) (fun _ => ?_) (fun d => absurd rfl d)
  have fin : LW z 7 (fun q => (zS z).heap.size ≤ q) Q cn sn 1663 [(0, .ref b), (1, .ref x), (2, .ref m), (3, .ref (m + 27)), (4, .int (nI i)), (5, .int r), (6, .int a)] [] H2 := by
    refine l_goto (tgt := 1666) C.l (gd DL_law_17 39 rfl) (by decide) ?_
    exact LW.sub [0, 1, 2, 3, 4] rfl (Nat.le_refl _) (Nat.le_refl _) (nx H2 v2)
  refine l_iload C.l (gd DL_law_17 28 rfl) 5 rfl ?_
  refine l_if_ne C.l 1663 (gd DL_law_17 29 rfl) (by decide) (fun _ => fin) (fun d => ?_)
  rcases hra with ⟨h1, h2, h3⟩ | ⟨h1, h2⟩
  rotate_left
  · rw [h2] at d
    exact absurd d (by decide)
  obtain ⟨-, -, ⟨ho, t1, t2, t3, t4⟩, o1, y1, y2⟩ := id v2
  refine l_aload_n C.l (gd DL_law_17 30 rfl) 3 rfl rfl ?_
  refine l_iconst (v := 0) C.l (gd DL_law_17 31 rfl) (by decide) ?_
  refine l_lald (C.g (H := H2) (A := lO m H2) (fun q hq => lO_A y2 y1 hq) o1).1 t1 t2 (by rw [t3]; exact vp_in_nI (n := 0) (by omega) (by omega)) (gd DL_law_17 32 rfl) ?_
  refine l_iload C.l (gd DL_law_17 33 rfl) 6 rfl ?_
  refine l_i2l C.l (gd DL_law_17 34 rfl) ?_
  refine l_lcmp C.l (gd DL_law_17 35 rfl) ?_
  have e : lg_cmp (hL ho (m + 27) (Int32.toNatClampNeg 0)) a.toInt64 = 0 := by
    rw [if_pos h1] at hr
    rw [show hL ho (m + 27) (Int32.toNatClampNeg 0) = ov from t4, h3, hr]
    unfold lg_cmp
    rw [if_neg (show ¬ a.toInt64 > a.toInt64 from fun q => Int64.lt_irrefl q), if_pos rfl]
  rw [e]
  exact l_if_eq C.l 1663 (gd DL_law_17 36 rfl) (by decide) (fun _ => fin) (fun d => absurd rfl d)
theorem l_c_out (bx : lX0 D (zS z)) (J : lJ z D m x b L xs i k V M ov H cn sn) (N : lGo z D m x b i k Q) : LW z 7 (fun q => (zS z).heap.size ≤ q) Q cn sn 1610 (lL b x m i) [] H := by
  obtain ⟨C, hX, hbl, hi, hL, hk, v, hc, hs⟩ := J
  have hbA : ¬ (zS z).heap.size ≤ b := Nat.not_le.mpr hbl
  have hk5 : k ≤ 511 := by omega
  have o := v.2.2.2.1
  have y2 := v.2.2.2.2.2
  refine l_aload_n C.l (gd DL_law_17 5 rfl) 1 rfl rfl ?_
  refine l_aload_n C.l (gd DL_law_17 6 rfl) 0 rfl rfl ?_
  refine l_iload C.l (gd DL_law_17 7 rfl) 4 rfl ?_
  refine l_iconst (v := 1) C.l (gd DL_law_17 8 rfl) (by decide) ?_
  refine l_iadd C.l (gd DL_law_17 9 rfl) ?_
  refine l_sld C.l hX hbl hbA (l_in1 hi hL) (gd DL_law_17 10 rfl) ?_
  refine l_aload_n C.l (gd DL_law_17 11 rfl) 3 rfl rfl ?_
  by_cases c : 0 ≤ xs (nI i + 1).toNatClampNeg ∧ xs (nI i + 1).toNatClampNeg < nI M.2.2.2.1
  · obtain ⟨j, hj, e⟩ := nI_of (Int32.not_lt.mpr c.1)
    have lj : j < M.2.2.2.1 := by
      rcases Nat.lt_or_ge j M.2.2.2.1 with q | q
      · exact q
      · exact absurd (nI_le q hj) (Int32.not_le.mpr (e ▸ c.2))
    have hM := h_in v (fun h k q => q.t k) C.2.2.2.2.2.1 lj C.2.2.2.2.2.2.2.2.2
    rw [← e] at hM
    refine l_H C hM y2 o (by omega) (by omega) (gd DL_law_17 12 rfl) (fun H1 v1 => ?_)
    exact l_c_o2 C hX hbl hi hL v1 (by omega) (by omega) (Or.inl ⟨c, rfl, by rw [e, nI_clamp hj]⟩) (fun H2 v2 => N V M _ H2 _ _ v2 (by omega) (by omega))
  · refine l_H C (h_no v (fun h k q => q.t k) C.2.2.2.2.2.1 bx c C.2.2.2.2.2.2.2.2.2) y2 o (by omega) (by omega) (gd DL_law_17 12 rfl) (fun H1 v1 => ?_)
    exact l_c_o2 C hX hbl hi hL v1 (by omega) (by omega) (Or.inr ⟨c, rfl⟩) (fun H2 v2 => N V M _ H2 _ _ v2 (by omega) (by omega))
end CO
