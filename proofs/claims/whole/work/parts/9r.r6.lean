/-! the class's Reader: readIf -/
theorem bk2 (p : Prop) [Decidable p] : (if p then 1 else 2) ≠ 0 ∧ (if p then 1 else 2) < 10 := by
  by_cases q : p
  · rw [if_pos q]; omega
  · rw [if_neg q]; omega
theorem pOk_en {E : pE} {c md j : Nat} {acc : pR} {r : pRz} (h : pOk E c md j acc r) : j ≤ pEn r := by
  rcases r with x | x
  · exact h.1
  · exact h.1
theorem if_bad {E : pE} {cd k kd j : Nat} {r : pRz} {y : Option pRz} (h : (if cd ≠ kd then some (pBad E k j) else y) = some r) (h2 : cd = kd → y = some r → j ≤ pEn r) : j ≤ pEn r := by
  by_cases e : cd = kd
  · rw [if_neg (fun q => q e)] at h; exact h2 e h
  · rw [if_pos e] at h; rw [← Option.some.inj h]; exact Nat.le_refl _
theorem en_then {E : pE} {c F md o i : Nat} {acc : pR} {r : pRz} {k : Nat → pR → Option pRz} (hp : ∃ r, pz E F md o i acc = some r ∧ pOk E c md i acc r) (hz : pThen (pz E F md o i acc) k = some r) (hk : ∀ j1 a, i ≤ j1 → j1 < c → k j1 a = some r → j1 ≤ pEn r) : i ≤ pEn r := by
  obtain ⟨r1, h1, h2⟩ := hp
  rw [h1] at hz
  rcases r1 with x | ⟨j1, a⟩
  · cases Option.some.inj (show some (Sum.inl x) = some r from hz); exact h2.1
  · exact Nat.le_trans h2.1 (hk j1 a h2.1 h2.2.1 hz)
section R6
variable {w : gD} {U W T N : Nat} {h : HS} {tx : Nat → Nat} {n c j nt na np : Nat} {Wd : Nat → Nat} {PR : Nat → pR}
theorem e_r_if {F o : Nat} {acc : pR} {r : pRz} {K : Nat} (hS : cCS w U W T N tx n c nt na np Wd PR F) (s : cSt U W T N h tx n c j nt na np Wd PR) (ho : o ≤ 4) (hj : j < c) (hF : 8 * (c - j) + 3 < F) (hz : pThen (pz (envT tx n nt na np Wd PR) F 4 o j acc) (fun j1 t => if t.1 ≠ 0 then some (.inl (5, j1)) else if cdT tx n j1 ≠ 663726 then some (pBad (envT tx n nt na np Wd PR) 2 j1) else pThen (pz (envT tx n nt na np Wd PR) F 4 o (j1 + 1) acc) (fun j2 y => if cdT tx n j2 ≠ 176741 then some (pBad (envT tx n nt na np Wd PR) 2 j2) else pThen (pz (envT tx n nt na np Wd PR) F 4 o (j2 + 1) acc) (fun j3 v => if cdT tx n j3 ≠ 5572 then some (pBad (envT tx n nt na np Wd PR) 2 j3) else some (.inr (j3 + 1, (y.1 + v.1, rSum (rBegins y.2 y.1 (t.2 1)) (rBegins v.2 v.1 (allF (nI nt) &&& (t.2 1 ^^^ -1))) y.1 v.1)))))) = some r) (hK : jI o j r ≤ K) : Ev w (6 + 3 * (4 - o)) (5 * K) (61 * K) yX3_readIf cX3_readIf 5 (some (.object RX2)) [.ref U, .int (nI o)] h (rsC U T h tx n c j r) := by
  refine g_start (by decide) (Nat.le_of_ble_eq_true rfl) [(0, _), (1, _)] rfl (fun z hfl C => ?_)
  have hc := s.2.1.hc
  have c5 : c ≤ 501 := s.2.1.1.2.1.2
  have pzt := fun i (hi : i < c) (hf : 8 * (c - i) + 3 < F) => pz_tot (E := envT tx n nt na np Wd PR) hc s.2.2.2.nm F 4 o i acc (by omega) hi hf (fun q => by omega)
  have bad43 : ∀ g x k jf p1 m1 R1 p2 m2 R2 p3 m3 R3, bdF U T h g tx n c k jf → jf < c → r = .inl (k, jf) → pcW g p1 m1 R1 → pcW g p2 m2 R2 → pcW g p3 m3 R3 → m1 + m2 + m3 ≤ 5 * (jf - j) → x + 4 ≤ K → GW z w 5 (gQ z w (5 * K) (61 * K) (fun r' h'' => rsC U T h tx n c j r r' h'')) (5 * x) (61 * x) 43 [(0, .ref U), (1, .int (nI o)), (2, .ref p1), (3, .ref p2), (4, .ref p3)] [] g := by
    intro g x k jf p1 m1 R1 p2 m2 R2 p3 m3 R3 b lf er w1 w2 w3 hm hx
    refine g_aload_n C (gd DX3_readIf_0 24 rfl) 2 rfl rfl ?_
    refine g_aload_n C (gd DX3_readIf_0 25 rfl) 3 rfl rfl ?_
    refine g_callS C [_, _] mX2_row lm_TestJudge_Reader_129 (e_pc_row w1 w2 (by omega)) hfl (by first | decide | omega) (by decide) (by omega) (by omega) rfl rfl (Nat.le_of_ble_eq_true rfl) (gd DX3_readIf_0 26 rfl) (fun r h2 hp => ?_)
    obtain ⟨p4, rfl, -, x4, -, w4⟩ := hp
    show GW z w 5 _ _ _ _ _ [.ref p4] _
    have b4 := b.ext s.1 x4
    have hq4 := s.1.q b4.1
    have w1' := w1.ext x4
    have w3' := w3.ext x4
    refine g_aload_n C (gd DX3_readIf_0 27 rfl) 0 rfl rfl ?_
    refine g_aload_n C (gd DX3_readIf_0 28 rfl) 2 rfl rfl ?_
    refine g_callV (ci := 3) C [_] mX3_opposite lm_TestJudge_Reader_170 (by exact hq4.1.1) rfl rfl (e_r_opposite hq4 w1'.2.2.1.1.1 w1'.2.1) hfl (by first | decide | omega) (by decide) (by omega) (by omega) rfl rfl (Nat.le_of_ble_eq_true rfl) (gd DX3_readIf_0 29 rfl) (fun r g5 hp => ?_)
    obtain ⟨p5, rfl, -, x5, -, w5⟩ := hp
    show GW z w 5 _ _ _ _ _ [.ref p5, .ref p4] _
    refine g_aload C (gd DX3_readIf_0 30 rfl) 4 rfl ?_
    refine g_callS C [_, _] mX2_row lm_TestJudge_Reader_129 (e_pc_row w5 (w3'.ext x5) (by omega)) hfl (by first | decide | omega) (by decide) (by omega) (by omega) rfl rfl (Nat.le_of_ble_eq_true rfl) (gd DX3_readIf_0 31 rfl) (fun r g6 hp => ?_)
    obtain ⟨p6, rfl, -, x6, -, w6⟩ := hp
    show GW z w 5 _ _ _ _ _ [.ref p6, .ref p4] _
    refine g_callS C [_, _] mX2_sum lm_TestJudge_Reader_133 (e_pc_sum ((w4.ext x5).ext x6) w6 (by omega)) hfl (by first | decide | omega) (by decide) (by omega) (by omega) rfl rfl (Nat.le_of_ble_eq_true rfl) (gd DX3_readIf_0 32 rfl) (fun r g7 hp => ?_)
    obtain ⟨p7, rfl, -, x7, -, w7⟩ := hp
    show GW z w 5 _ _ _ _ _ [.ref p7] _
    rw [er]
    exact g_aret C (by omega) (by omega) ⟨((b4.ext s.1 x5).ext s.1 x6).ext s.1 x7, p7, _, _, rfl, w7, by show m1 + m2 + (0 + m3) ≤ 5 * (jf - j); omega⟩ (gd DX3_readIf_0 33 rfl)
  have bad29 : ∀ g x k jf p1 m1 R1 p2 m2 R2, bdF U T h g tx n c k jf → jf < c → r = .inl (k, jf) → pcW g p1 m1 R1 → pcW g p2 m2 R2 → m1 + m2 ≤ 5 * (jf - j) → x + 7 ≤ K → GW z w 5 (gQ z w (5 * K) (61 * K) (fun r' h'' => rsC U T h tx n c j r r' h'')) (5 * x) (61 * x) 29 [(0, .ref U), (1, .int (nI o)), (2, .ref p1), (3, .ref p2)] [] g := by
    intro g x k jf p1 m1 R1 p2 m2 R2 b lf er w1 w2 hm hx
    have hq := s.1.q b.1
    refine g_aload_n C (gd DX3_readIf_0 17 rfl) 0 rfl rfl ?_
    refine g_iload_n C (gd DX3_readIf_0 18 rfl) 1 rfl rfl ?_
    refine g_callV (ci := 3) C [_] mX3_readSum lm_TestJudge_Reader_89 (by exact hq.1.1) rfl rfl (e_r_sum1 hq b.2.2.2.2 _) hfl (by first | decide | omega) (by decide) (by omega) (by omega) rfl rfl (Nat.le_of_ble_eq_true rfl) (gd DX3_readIf_0 19 rfl) (fun r h2 hp => ?_)
    obtain ⟨x3, p3, R3, rfl, w3⟩ := hp
    show GW z w 5 _ _ _ _ _ [.ref p3] _
    have b3 := b.ext s.1 x3
    have hq3 := s.1.q b3.1
    refine g_astore (lv' := [(0, _), (1, _), (2, _), (3, _), (4, _)]) C (gd DX3_readIf_0 20 rfl) [1, 2, 3, 4, 0] (by decide) rfl ?_
    refine g_aload_n C (gd DX3_readIf_0 21 rfl) 0 rfl rfl ?_
    refine g_sipush (v := 5572) C (gd DX3_readIf_0 22 rfl) (by decide) ?_
    refine g_cV0 (v := .null) (ci := 3) C [_] mX3_expect lm_TestJudge_Reader_86 (by exact hq3.1.1) rfl rfl (e_r_expect1 hq3 b3.2.2.2.2 _) hfl (by first | decide | omega) (by decide) (by omega) (by omega) rfl rfl (Nat.le_of_ble_eq_true rfl) (gd DX3_readIf_0 23 rfl) ?_
    exact GW.up (by omega) (by omega) (bad43 _ (x + 3) k jf p1 m1 R1 p2 m2 R2 p3 0 R3 b3 lf er (w1.ext x3) (w2.ext x3) w3 (by omega) (by omega))
  have bad17 : ∀ g x k jf p1 m1 R1, bdF U T h g tx n c k jf → jf < c → r = .inl (k, jf) → pcW g p1 m1 R1 → m1 ≤ 5 * (jf - j) → x + 10 ≤ K → GW z w 5 (gQ z w (5 * K) (61 * K) (fun r' h'' => rsC U T h tx n c j r r' h'')) (5 * x) (61 * x) 17 [(0, .ref U), (1, .int (nI o)), (2, .ref p1)] [] g := by
    intro g x k jf p1 m1 R1 b lf er w1 hm hx
    have hq := s.1.q b.1
    refine g_aload_n C (gd DX3_readIf_0 10 rfl) 0 rfl rfl ?_
    refine g_iload_n C (gd DX3_readIf_0 11 rfl) 1 rfl rfl ?_
    refine g_callV (ci := 3) C [_] mX3_readSum lm_TestJudge_Reader_89 (by exact hq.1.1) rfl rfl (e_r_sum1 hq b.2.2.2.2 _) hfl (by first | decide | omega) (by decide) (by omega) (by omega) rfl rfl (Nat.le_of_ble_eq_true rfl) (gd DX3_readIf_0 12 rfl) (fun r h2 hp => ?_)
    obtain ⟨x3, p3, R3, rfl, w3⟩ := hp
    show GW z w 5 _ _ _ _ _ [.ref p3] _
    have b3 := b.ext s.1 x3
    have hq3 := s.1.q b3.1
    refine g_astore_n (lv' := [(0, _), (1, _), (2, _), (3, _)]) C (gd DX3_readIf_0 13 rfl) [1, 2, 3, 0] rfl (by decide) rfl ?_
    refine g_aload_n C (gd DX3_readIf_0 14 rfl) 0 rfl rfl ?_
    refine g_ldc (v := 176741) C (gd DX3_readIf_0 15 rfl) lk_TestJudge_Reader_175 ?_
    refine g_cV0 (v := .null) (ci := 3) C [_] mX3_expect lm_TestJudge_Reader_86 (by exact hq3.1.1) rfl rfl (e_r_expect1 hq3 b3.2.2.2.2 _) hfl (by first | decide | omega) (by decide) (by omega) (by omega) rfl rfl (Nat.le_of_ble_eq_true rfl) (gd DX3_readIf_0 16 rfl) ?_
    exact GW.up (by omega) (by omega) (bad29 _ (x + 3) k jf p1 m1 R1 p3 0 R3 b3 lf er (w1.ext x3) w3 (by omega) (by omega))
  have Ke : 4 * (pEn r - j) + 3 ≤ K := by
    rcases r with x | x
    · have h1 : 4 * (x.2 - j) + 17 + 12 * (4 - o) ≤ K := hK
      show 4 * (x.2 - j) + 3 ≤ K
      omega
    · exact hK
  obtain ⟨r1, hr1, ok1⟩ := pzt j hj hF
  rw [hr1] at hz
  rcases r1 with x | ⟨j1, t⟩
  · have er : r = .inl x := (Option.some.inj (show some (Sum.inl x) = some r from hz)).symm
    have h2 : 4 * (x.2 - j) + 17 + 12 * (4 - o) ≤ K := by rw [er] at hK; exact hK
    refine g_aload_n C (gd DX3_readIf_0 0 rfl) 0 rfl rfl ?_
    refine g_iload_n C (gd DX3_readIf_0 1 rfl) 1 rfl rfl ?_
    refine g_callV (ci := 3) C [_] mX3_readSum lm_TestJudge_Reader_89 (by exact s.1.1.1) rfl rfl (hS h o j acc (.inl x) (4 * (x.2 - j) + 7 + 12 * (4 - o)) s ho hj hF hr1 (Nat.le_refl _)) hfl (by first | decide | omega) (by decide) (by omega) (by omega) rfl rfl (Nat.le_of_ble_eq_true rfl) (gd DX3_readIf_0 2 rfl) (fun r g1 hp => ?_)
    obtain ⟨b, p, m, R, rfl, pw, pm⟩ := hp
    have hq := s.1.q b.1
    show GW z w 5 _ _ _ _ _ [.ref p] _
    refine g_astore_n (lv' := [(0, _), (1, _), (2, _)]) C (gd DX3_readIf_0 3 rfl) [1, 2, 0] rfl (by decide) rfl ?_
    refine g_aload_n C (gd DX3_readIf_0 4 rfl) 0 rfl rfl ?_
    refine g_aload_n C (gd DX3_readIf_0 5 rfl) 2 rfl rfl ?_
    refine g_cV0 (v := .null) (ci := 3) C [_] mX3_needPlain lm_TestJudge_Reader_167 (by exact hq.1.1) rfl rfl (e_r_needPlain1 hq b.2.2.2.2 pw.2.2.1.1.1) hfl (by first | decide | omega) (by decide) (by omega) (by omega) rfl rfl (Nat.le_of_ble_eq_true rfl) (gd DX3_readIf_0 6 rfl) ?_
    refine g_aload_n C (gd DX3_readIf_0 7 rfl) 0 rfl rfl ?_
    refine g_ldc (v := 663726) C (gd DX3_readIf_0 8 rfl) lk_TestJudge_Reader_174 ?_
    refine g_cV0 (v := .null) (ci := 3) C [_] mX3_expect lm_TestJudge_Reader_86 (by exact hq.1.1) rfl rfl (e_r_expect1 hq b.2.2.2.2 _) hfl (by first | decide | omega) (by decide) (by omega) (by omega) rfl rfl (Nat.le_of_ble_eq_true rfl) (gd DX3_readIf_0 9 rfl) ?_
    exact GW.up (by omega) (by omega) (bad17 _ (4 * (x.2 - j) + 7 + 12 * (4 - o)) x.1 x.2 p m R b ok1.2.1 er pw pm (by omega))
  obtain ⟨k1, k2, k3, k4, k5⟩ := ok1
  rw [if_neg (by omega)] at k5
  have k3' := k3 (by omega)
  dsimp only at k1 k2 k3' k5
  change (if t.1 ≠ 0 then _ else _) = some r at hz
  have le1 : j1 ≤ pEn r := by
    by_cases e : t.1 = 0
    · rw [if_neg (fun q => q e)] at hz
      refine if_bad hz (fun e1 hz1 => ?_)
      have h1 := hc j1 k2 (by omega)
      refine Nat.le_of_succ_le (en_then (pzt (j1 + 1) h1 (by omega)) hz1 (fun j2 y l1 l2 hz2 => if_bad hz2 (fun e2 hz3 => ?_)))
      have h2 := hc j2 l2 (by omega)
      refine Nat.le_of_succ_le (en_then (pzt (j2 + 1) h2 (by omega)) hz3 (fun j3 v _ _ hz4 => if_bad hz4 (fun e3 hz5 => ?_)))
      rw [← Option.some.inj hz5]
      exact Nat.le_succ j3
    · rw [if_pos e] at hz
      rw [← Option.some.inj hz]
      exact Nat.le_refl _
  refine g_aload_n C (gd DX3_readIf_0 0 rfl) 0 rfl rfl ?_
  refine g_iload_n C (gd DX3_readIf_0 1 rfl) 1 rfl rfl ?_
  refine g_callV (ci := 3) C [_] mX3_readSum lm_TestJudge_Reader_89 (by exact s.1.1.1) rfl rfl (hS h o j acc (.inr (j1, t)) (4 * (j1 - j) + 3) s ho hj hF hr1 (Nat.le_refl _)) hfl (by first | decide | omega) (by decide) (by omega) (by omega) rfl rfl (Nat.le_of_ble_eq_true rfl) (gd DX3_readIf_0 2 rfl) (fun r g1 hp => ?_)
  obtain ⟨b1', ct1, f1, p1, rfl, w1⟩ := hp
  dsimp only at ct1 w1
  have s1 := s.q b1' ct1 f1
  have hq1 := s1.1
  show GW z w 5 _ _ _ _ _ [.ref p1] _
  refine g_astore_n (lv' := [(0, _), (1, _), (2, _)]) C (gd DX3_readIf_0 3 rfl) [1, 2, 0] rfl (by decide) rfl ?_
  refine g_aload_n C (gd DX3_readIf_0 4 rfl) 0 rfl rfl ?_
  refine g_aload_n C (gd DX3_readIf_0 5 rfl) 2 rfl rfl ?_
  refine g_cV0 (v := .null) (ci := 3) C [_] mX3_needPlain lm_TestJudge_Reader_167 (by exact hq1.1.1) rfl rfl (e_r_needPlain hq1 ct1 f1 w1.2.2.1.1.1 w1.1.1 (by omega)) hfl (by first | decide | omega) (by decide) (by omega) (by omega) rfl rfl (Nat.le_of_ble_eq_true rfl) (gd DX3_readIf_0 6 rfl) ?_
  by_cases e : t.1 = 0
  rotate_left
  · rw [if_pos e] at hz
    rw [if_neg e]
    have er : r = .inl (5, j1) := (Option.some.inj hz).symm
    have bd := bdF.pre b1' (bdF.mk hq1 ct1 (k := 5) ⟨by omega, by omega⟩)
    have w1' := w1.q hq1.1.1 hq1.2.2.1.1 (bdF.mk hq1 ct1 (k := 5) ⟨by omega, by omega⟩).1
    have hq2 := s.1.q bd.1
    rw [er] at hK
    refine g_aload_n C (gd DX3_readIf_0 7 rfl) 0 rfl rfl ?_
    refine g_ldc (v := 663726) C (gd DX3_readIf_0 8 rfl) lk_TestJudge_Reader_174 ?_
    refine g_cV0 (v := .null) (ci := 3) C [_] mX3_expect lm_TestJudge_Reader_86 (by exact hq2.1.1) rfl rfl (e_r_expect1 hq2 bd.2.2.2.2 _) hfl (by first | decide | omega) (by decide) (by omega) (by omega) rfl rfl (Nat.le_of_ble_eq_true rfl) (gd DX3_readIf_0 9 rfl) ?_
    exact GW.up (by omega) (by omega) (bad17 _ (4 * (j1 - j) + 3) 5 j1 p1 _ _ bd k2 er w1' (by omega) (by have h2 : 4 * (j1 - j) + 17 + 12 * (4 - o) ≤ K := hK; omega))
  rw [if_neg (fun q => q e)] at hz
  rw [if_pos e]
  refine g_aload_n C (gd DX3_readIf_0 7 rfl) 0 rfl rfl ?_
  refine g_ldc (v := 663726) C (gd DX3_readIf_0 8 rfl) lk_TestJudge_Reader_174 ?_
  refine g_callV (ci := 3) C [_] mX3_expect lm_TestJudge_Reader_86 (by exact hq1.1.1) rfl rfl (e_r_expect hq1 ct1 f1 (hc j1 k2) (k := 663726) (by decide) (by decide)) hfl (by first | decide | omega) (by decide) (by omega) (by omega) rfl rfl (Nat.le_of_ble_eq_true rfl) (gd DX3_readIf_0 9 rfl) (fun r g2 hp => ?_)
  obtain ⟨rfl, hp⟩ := hp
  show GW z w 5 _ _ _ _ _ [] _
  rcases hp with ⟨e1, a2, ct2⟩ | ⟨e1, rfl⟩
  rotate_left
  · rw [if_pos e1] at hz
    have er := (Option.some.inj hz).symm
    have bm := bdF.mk hq1 ct1 (bk2 (cdT tx n j1 = 1))
    rw [er] at hK
    exact GW.up (by omega) (by omega) (bad17 _ (4 * (j1 - j) + 3) _ j1 p1 _ _ (bdF.pre b1' bm) k2 er (w1.q hq1.1.1 hq1.2.2.1.1 bm.1) (by omega) (by have h2 : 4 * (j1 - j) + 17 + 12 * (4 - o) ≤ K := hK; omega))
  rw [if_neg (fun q => q e1)] at hz
  have hj1 := hc j1 k2 (by omega)
  have s2 := s1.t a2 ct2
  have q02 : qF U T h g2 := b1'.tr a2.q
  have w12 := w1.q hq1.1.1 hq1.2.2.1.1 (a2.q (U := U))
  obtain ⟨r2, hr2, ok2⟩ := pzt (j1 + 1) hj1 (by omega)
  rw [hr2] at hz
  rcases r2 with x | ⟨j2, y⟩
  · have er : r = .inl x := (Option.some.inj (show some (Sum.inl x) = some r from hz)).symm
    have h2 : 4 * (x.2 - j) + 17 + 12 * (4 - o) ≤ K := by rw [er] at hK; exact hK
    have lo := ok2.1
    refine g_aload_n C (gd DX3_readIf_0 10 rfl) 0 rfl rfl ?_
    refine g_iload_n C (gd DX3_readIf_0 11 rfl) 1 rfl rfl ?_
    refine g_callV (ci := 3) C [_] mX3_readSum lm_TestJudge_Reader_89 (by exact s2.1.1.1) rfl rfl (hS _ o (j1 + 1) acc (.inl x) (4 * (x.2 - (j1 + 1)) + 7 + 12 * (4 - o)) s2 ho hj1 (by omega) hr2 (Nat.le_refl _)) hfl (by first | decide | omega) (by decide) (by omega) (by omega) rfl rfl (Nat.le_of_ble_eq_true rfl) (gd DX3_readIf_0 12 rfl) (fun r g3 hp => ?_)
    obtain ⟨b, p, m, R, rfl, pw, pm⟩ := hp
    have hq := s2.1.q b.1
    show GW z w 5 _ _ _ _ _ [.ref p] _
    refine g_astore_n (lv' := [(0, _), (1, _), (2, _), (3, _)]) C (gd DX3_readIf_0 13 rfl) [1, 2, 3, 0] rfl (by decide) rfl ?_
    refine g_aload_n C (gd DX3_readIf_0 14 rfl) 0 rfl rfl ?_
    refine g_ldc (v := 176741) C (gd DX3_readIf_0 15 rfl) lk_TestJudge_Reader_175 ?_
    refine g_cV0 (v := .null) (ci := 3) C [_] mX3_expect lm_TestJudge_Reader_86 (by exact hq.1.1) rfl rfl (e_r_expect1 hq b.2.2.2.2 _) hfl (by first | decide | omega) (by decide) (by omega) (by omega) rfl rfl (Nat.le_of_ble_eq_true rfl) (gd DX3_readIf_0 16 rfl) ?_
    exact GW.up (by omega) (by omega) (bad29 _ (4 * (j1 - j) + 3 + (4 * (x.2 - (j1 + 1)) + 7 + 12 * (4 - o))) x.1 x.2 p1 _ _ p m R (bdF.pre q02 b) ok2.2.1 er (w12.q s2.1.1.1 s2.1.2.2.1.1 b.1) pw (by omega) (by omega))
  obtain ⟨l1, l2, l3, l4, l5⟩ := ok2
  rw [if_neg (by omega)] at l5
  have l3' := l3 (by omega)
  dsimp only at l1 l2 l3' l5
  change (if cdT tx n j2 ≠ 176741 then _ else _) = some r at hz
  have le2 : j2 ≤ pEn r := by
    refine if_bad hz (fun e2 hz3 => ?_)
    have h2 := hc j2 l2 (by omega)
    refine Nat.le_of_succ_le (en_then (pzt (j2 + 1) h2 (by omega)) hz3 (fun j3 v _ _ hz4 => if_bad hz4 (fun e3 hz5 => ?_)))
    rw [← Option.some.inj hz5]
    exact Nat.le_succ j3
  refine g_aload_n C (gd DX3_readIf_0 10 rfl) 0 rfl rfl ?_
  refine g_iload_n C (gd DX3_readIf_0 11 rfl) 1 rfl rfl ?_
  refine g_callV (ci := 3) C [_] mX3_readSum lm_TestJudge_Reader_89 (by exact s2.1.1.1) rfl rfl (hS _ o (j1 + 1) acc (.inr (j2, y)) (4 * (j2 - (j1 + 1)) + 3) s2 ho hj1 (by omega) hr2 (Nat.le_refl _)) hfl (by first | decide | omega) (by decide) (by omega) (by omega) rfl rfl (Nat.le_of_ble_eq_true rfl) (gd DX3_readIf_0 12 rfl) (fun r g3 hp => ?_)
  obtain ⟨b2', ct3, f3, p2, rfl, w2⟩ := hp
  dsimp only at ct3 w2
  have s3 := s2.q b2' ct3 f3
  have hq3 := s3.1
  have q03 := q02.tr b2'
  have w13 := w12.q s2.1.1.1 s2.1.2.2.1.1 b2'
  show GW z w 5 _ _ _ _ _ [.ref p2] _
  refine g_astore_n (lv' := [(0, _), (1, _), (2, _), (3, _)]) C (gd DX3_readIf_0 13 rfl) [1, 2, 3, 0] rfl (by decide) rfl ?_
  refine g_aload_n C (gd DX3_readIf_0 14 rfl) 0 rfl rfl ?_
  refine g_ldc (v := 176741) C (gd DX3_readIf_0 15 rfl) lk_TestJudge_Reader_175 ?_
  refine g_callV (ci := 3) C [_] mX3_expect lm_TestJudge_Reader_86 (by exact hq3.1.1) rfl rfl (e_r_expect hq3 ct3 f3 (hc j2 l2) (k := 176741) (by decide) (by decide)) hfl (by first | decide | omega) (by decide) (by omega) (by omega) rfl rfl (Nat.le_of_ble_eq_true rfl) (gd DX3_readIf_0 16 rfl) (fun r g4 hp => ?_)
  obtain ⟨rfl, hp⟩ := hp
  show GW z w 5 _ _ _ _ _ [] _
  rcases hp with ⟨e2, a4, ct4⟩ | ⟨e2, rfl⟩
  rotate_left
  · rw [if_pos e2] at hz
    have er := (Option.some.inj hz).symm
    have bm := bdF.mk hq3 ct3 (bk2 (cdT tx n j2 = 1))
    rw [er] at hK
    have h2 : 4 * (j2 - j) + 17 + 12 * (4 - o) ≤ K := hK
    exact GW.up (by omega) (by omega) (bad29 _ (4 * (j1 - j) + 3 + (4 * (j2 - (j1 + 1)) + 3)) _ j2 p1 _ _ p2 _ _ (bdF.pre q03 bm) l2 er (w13.q hq3.1.1 hq3.2.2.1.1 bm.1) (w2.q hq3.1.1 hq3.2.2.1.1 bm.1) (by omega) (by omega))
  rw [if_neg (fun q => q e2)] at hz
  have hj2 := hc j2 l2 (by omega)
  have s4 := s3.t a4 ct4
  have q04 := q03.tr (a4.q (U := U))
  have w14 := w13.q hq3.1.1 hq3.2.2.1.1 (a4.q (U := U))
  have w24 := w2.q hq3.1.1 hq3.2.2.1.1 (a4.q (U := U))
  obtain ⟨r3, hr3, ok3⟩ := pzt (j2 + 1) hj2 (by omega)
  rw [hr3] at hz
  rcases r3 with x | ⟨j3, v⟩
  · have er : r = .inl x := (Option.some.inj (show some (Sum.inl x) = some r from hz)).symm
    have h2 : 4 * (x.2 - j) + 17 + 12 * (4 - o) ≤ K := by rw [er] at hK; exact hK
    have lo := ok3.1
    refine g_aload_n C (gd DX3_readIf_0 17 rfl) 0 rfl rfl ?_
    refine g_iload_n C (gd DX3_readIf_0 18 rfl) 1 rfl rfl ?_
    refine g_callV (ci := 3) C [_] mX3_readSum lm_TestJudge_Reader_89 (by exact s4.1.1.1) rfl rfl (hS _ o (j2 + 1) acc (.inl x) (4 * (x.2 - (j2 + 1)) + 7 + 12 * (4 - o)) s4 ho hj2 (by omega) hr3 (Nat.le_refl _)) hfl (by first | decide | omega) (by decide) (by omega) (by omega) rfl rfl (Nat.le_of_ble_eq_true rfl) (gd DX3_readIf_0 19 rfl) (fun r g5 hp => ?_)
    obtain ⟨b, p, m, R, rfl, pw, pm⟩ := hp
    have hq := s4.1.q b.1
    show GW z w 5 _ _ _ _ _ [.ref p] _
    refine g_astore (lv' := [(0, _), (1, _), (2, _), (3, _), (4, _)]) C (gd DX3_readIf_0 20 rfl) [1, 2, 3, 4, 0] (by decide) rfl ?_
    refine g_aload_n C (gd DX3_readIf_0 21 rfl) 0 rfl rfl ?_
    refine g_sipush (v := 5572) C (gd DX3_readIf_0 22 rfl) (by decide) ?_
    refine g_cV0 (v := .null) (ci := 3) C [_] mX3_expect lm_TestJudge_Reader_86 (by exact hq.1.1) rfl rfl (e_r_expect1 hq b.2.2.2.2 _) hfl (by first | decide | omega) (by decide) (by omega) (by omega) rfl rfl (Nat.le_of_ble_eq_true rfl) (gd DX3_readIf_0 23 rfl) ?_
    exact GW.up (by omega) (by omega) (bad43 _ (4 * (j1 - j) + 3 + (4 * (j2 - (j1 + 1)) + 3) + (4 * (x.2 - (j2 + 1)) + 7 + 12 * (4 - o))) x.1 x.2 p1 _ _ p2 _ _ p m R (bdF.pre q04 b) ok3.2.1 er (w14.q s4.1.1.1 s4.1.2.2.1.1 b.1) (w24.q s4.1.1.1 s4.1.2.2.1.1 b.1) pw (by omega) (by omega))
  obtain ⟨o1, o2, o3, o4, o5⟩ := ok3
  rw [if_neg (by omega)] at o5
  have o3' := o3 (by omega)
  dsimp only at o1 o2 o3' o5
  change (if cdT tx n j3 ≠ 5572 then _ else _) = some r at hz
  have le3 : j3 ≤ pEn r := by
    refine if_bad hz (fun e3 hz5 => ?_)
    rw [← Option.some.inj hz5]
    exact Nat.le_succ j3
  refine g_aload_n C (gd DX3_readIf_0 17 rfl) 0 rfl rfl ?_
  refine g_iload_n C (gd DX3_readIf_0 18 rfl) 1 rfl rfl ?_
  refine g_callV (ci := 3) C [_] mX3_readSum lm_TestJudge_Reader_89 (by exact s4.1.1.1) rfl rfl (hS _ o (j2 + 1) acc (.inr (j3, v)) (4 * (j3 - (j2 + 1)) + 3) s4 ho hj2 (by omega) hr3 (Nat.le_refl _)) hfl (by first | decide | omega) (by decide) (by omega) (by omega) rfl rfl (Nat.le_of_ble_eq_true rfl) (gd DX3_readIf_0 19 rfl) (fun r g5 hp => ?_)
  obtain ⟨b3', ct5, f5, p3, rfl, w3⟩ := hp
  dsimp only at ct5 w3
  have s5 := s4.q b3' ct5 f5
  have hq5 := s5.1
  have q05 := q04.tr b3'
  have w15 := w14.q s4.1.1.1 s4.1.2.2.1.1 b3'
  have w25 := w24.q s4.1.1.1 s4.1.2.2.1.1 b3'
  show GW z w 5 _ _ _ _ _ [.ref p3] _
  refine g_astore (lv' := [(0, _), (1, _), (2, _), (3, _), (4, _)]) C (gd DX3_readIf_0 20 rfl) [1, 2, 3, 4, 0] (by decide) rfl ?_
  refine g_aload_n C (gd DX3_readIf_0 21 rfl) 0 rfl rfl ?_
  refine g_sipush (v := 5572) C (gd DX3_readIf_0 22 rfl) (by decide) ?_
  refine g_callV (ci := 3) C [_] mX3_expect lm_TestJudge_Reader_86 (by exact hq5.1.1) rfl rfl (e_r_expect hq5 ct5 f5 (hc j3 o2) (k := 5572) (by decide) (by decide)) hfl (by first | decide | omega) (by decide) (by omega) (by omega) rfl rfl (Nat.le_of_ble_eq_true rfl) (gd DX3_readIf_0 23 rfl) (fun r g6 hp => ?_)
  obtain ⟨rfl, hp⟩ := hp
  show GW z w 5 _ _ _ _ _ [] _
  rcases hp with ⟨e3, a6, ct6⟩ | ⟨e3, rfl⟩
  rotate_left
  · rw [if_pos e3] at hz
    have er := (Option.some.inj hz).symm
    have bm := bdF.mk hq5 ct5 (bk2 (cdT tx n j3 = 1))
    rw [er] at hK
    have h2 : 4 * (j3 - j) + 17 + 12 * (4 - o) ≤ K := hK
    exact GW.up (by omega) (by omega) (bad43 _ (4 * (j1 - j) + 3 + (4 * (j2 - (j1 + 1)) + 3) + (4 * (j3 - (j2 + 1)) + 3)) _ j3 p1 _ _ p2 _ _ p3 _ _ (bdF.pre q05 bm) o2 er (w15.q hq5.1.1 hq5.2.2.1.1 bm.1) (w25.q hq5.1.1 hq5.2.2.1.1 bm.1) (w3.q hq5.1.1 hq5.2.2.1.1 bm.1) (by omega) (by omega))
  rw [if_neg (fun q => q e3)] at hz
  have er := (Option.some.inj hz).symm
  rw [er] at hK
  have h2 : 4 * (j3 + 1 - j) + 3 ≤ K := hK
  have s6 := s5.t a6 ct6
  have q06 := q05.tr (a6.q (U := U))
  have w16 := w15.q hq5.1.1 hq5.2.2.1.1 (a6.q (U := U))
  have w26 := w25.q hq5.1.1 hq5.2.2.1.1 (a6.q (U := U))
  have w36 := w3.q hq5.1.1 hq5.2.2.1.1 (a6.q (U := U))
  rw [e] at w16
  refine g_aload_n C (gd DX3_readIf_0 24 rfl) 2 rfl rfl ?_
  refine g_aload_n C (gd DX3_readIf_0 25 rfl) 3 rfl rfl ?_
  refine g_callS C [_, _] mX2_row lm_TestJudge_Reader_129 (e_pc_row w16 w26 (by omega)) hfl (by first | decide | omega) (by decide) (by omega) (by omega) rfl rfl (Nat.le_of_ble_eq_true rfl) (gd DX3_readIf_0 26 rfl) (fun r g7 hp => ?_)
  obtain ⟨p4, rfl, -, x4, -, w4⟩ := hp
  show GW z w 5 _ _ _ _ _ [.ref p4] _
  have s7 := s6.e x4
  have w17 := w16.ext x4
  have w37 := w36.ext x4
  have w4' := w4.row0
  refine g_aload_n C (gd DX3_readIf_0 27 rfl) 0 rfl rfl ?_
  refine g_aload_n C (gd DX3_readIf_0 28 rfl) 2 rfl rfl ?_
  refine g_callV (ci := 3) C [_] mX3_opposite lm_TestJudge_Reader_170 (by exact s7.1.1.1) rfl rfl (e_r_opposite s7.1 w17.2.2.1.1.1 w17.2.1) hfl (by first | decide | omega) (by decide) (by omega) (by omega) rfl rfl (Nat.le_of_ble_eq_true rfl) (gd DX3_readIf_0 29 rfl) (fun r g8 hp => ?_)
  obtain ⟨p5, rfl, -, x5, -, w5⟩ := hp
  show GW z w 5 _ _ _ _ _ [.ref p5, .ref p4] _
  rw [s7.2.2.2.2.1.1, w17.1.2 (by omega)] at w5
  refine g_aload C (gd DX3_readIf_0 30 rfl) 4 rfl ?_
  refine g_callS C [_, _] mX2_row lm_TestJudge_Reader_129 (e_pc_row w5 (w37.ext x5) (by omega)) hfl (by first | decide | omega) (by decide) (by omega) (by omega) rfl rfl (Nat.le_of_ble_eq_true rfl) (gd DX3_readIf_0 31 rfl) (fun r g9 hp => ?_)
  obtain ⟨p6, rfl, -, x6, -, w6⟩ := hp
  show GW z w 5 _ _ _ _ _ [.ref p6, .ref p4] _
  have w6' := w6.row0
  refine g_callS C [_, _] mX2_sum lm_TestJudge_Reader_133 (e_pc_sum ((w4'.ext x5).ext x6) w6' (by omega)) hfl (by first | decide | omega) (by decide) (by omega) (by omega) rfl rfl (Nat.le_of_ble_eq_true rfl) (gd DX3_readIf_0 32 rfl) (fun r ga hp => ?_)
  obtain ⟨p7, rfl, -, x7, -, w7⟩ := hp
  show GW z w 5 _ _ _ _ _ [.ref p7] _
  have s8 := ((s7.e x5).e x6).e x7
  rw [er]
  exact g_aret C (by omega) (by omega) ⟨(((q06.tr x4.q).tr x5.q).tr x6.q).tr x7.q, s8.2.1, s8.2.2.1, p7, rfl, w7⟩ (gd DX3_readIf_0 33 rfl)
end R6
