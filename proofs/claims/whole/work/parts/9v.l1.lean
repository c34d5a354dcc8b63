/-! the class's Reader: what lines may change; endLine -/
/-- reading lines changes the reader's numbers, the token in hand, the world's numbers and rows, the names, and there is more behind -/
def lF (U W T N : Nat) (h h' : HS) : Prop := hT h ≤ hT h' ∧ ∀ b, b < hT h → (hL h' b = hL h b ∧ hK h' b = hK h b ∧ hN h' b = hN h b ∧ (b = U → plU U T h h')) ∧ (b ≠ W + 1 → b ≠ W + 3 → hR h' b = hR h b) ∧ ∀ k, ¬ (b = U ∧ (k = 1 ∨ k = 2 ∨ k = 5)) → ¬ (b = T ∧ 1 ≤ k ∧ k ≤ 4) → ¬ (b = W ∧ k ≤ 3) → b ≠ W + 2 → b ≠ N → hI h' b k = hI h b k
theorem lF.rf (U W T N : Nat) (h : HS) : lF U W T N h h := ⟨Nat.le_refl _, fun _ _ => ⟨⟨rfl, rfl, rfl, fun _ _ p => p⟩, fun _ _ => rfl, fun _ _ _ _ _ _ => rfl⟩⟩
theorem lF.tr {U W T N : Nat} {h h1 h2 : HS} (a : lF U W T N h h1) (b : lF U W T N h1 h2) : lF U W T N h h2 := by
  refine ⟨Nat.le_trans a.1 b.1, fun c hc => ?_⟩
  obtain ⟨⟨a1, a2, a3, a6⟩, a4, a5⟩ := a.2 c hc
  obtain ⟨⟨b1, b2, b3, b6⟩, b4, b5⟩ := b.2 c (Nat.lt_of_lt_of_le hc a.1)
  exact ⟨⟨b1.trans a1, b2.trans a2, b3.trans a3, fun e => (a6 e).tr (b6 e)⟩, fun p q => (b4 p q).trans (a4 p q), fun k p1 p2 p3 p4 p5 => (b5 k p1 p2 p3 p4 p5).trans (a5 k p1 p2 p3 p4 p5)⟩
theorem qF.l {U W T N : Nat} {h h1 : HS} (a : qF U T h h1) : lF U W T N h h1 := ⟨a.1, fun b hb => ⟨⟨(a.2 b hb).1.1, (a.2 b hb).1.2.2.1, (a.2 b hb).1.2.2.2⟩, fun _ _ => (a.2 b hb).1.2.1, fun k p1 p2 _ _ _ => (a.2 b hb).2 k (fun x => p1 ⟨x.1, by omega⟩) p2⟩⟩
theorem cQ.l {U W T N : Nat} {h h1 : HS} (hq : cQ U W T N h) (a : lF U W T N h h1) : cQ U W T N h1 := by
  obtain ⟨⟨q1, q2, q3, q4⟩, ⟨q5, q6⟩, ⟨t1, ⟨t2, t3, t4⟩, ⟨t5, t6, t7⟩, t8, t9, ta⟩, ⟨w1, ⟨w2, w3, w4⟩, ⟨w5, w6, w7⟩, ⟨w8, w9, wa⟩, ⟨wb, wc, wd⟩, we, wf⟩, l1, l2, l3, l4⟩ := hq
  have k : ∀ b, b < hT h → hK h1 b = hK h b := fun b hb => (a.2 b hb).1.2.1
  have m : ∀ b, b < hT h → hN h1 b = hN h b := fun b hb => (a.2 b hb).1.2.2.1
  have r : ∀ b, b < hT h → hK h b ≠ 16 → hR h1 b = hR h b := fun b hb hk => (a.2 b hb).2.1 (fun x => hk (by rw [x]; exact w3)) (fun x => hk (by rw [x]; exact w9))
  have := a.1
  have rU := r U l1 (by rw [q1]; decide)
  have rT := r T (by omega) (by rw [t1]; decide)
  have rW := r W (by omega) (by rw [w1]; decide)
  refine ⟨⟨(k U l1).trans q1, by rw [rU]; exact q2, by rw [rU]; exact q3, by rw [rU]; exact q4⟩, ⟨(k N l4).trans q5, (m N l4).trans q6⟩, ⟨(k T (by omega)).trans t1, ⟨by rw [rT]; exact t2, (k _ (by omega)).trans t3, (m _ (by omega)).trans t4⟩, ⟨by rw [rT]; exact t5, (k _ (by omega)).trans t6, (m _ (by omega)).trans t7⟩, by rw [rT]; exact t8, (k _ (by omega)).trans t9, (m _ (by omega)).trans ta⟩, ⟨(k W (by omega)).trans w1, ⟨by rw [rW]; exact w2, (k _ (by omega)).trans w3, (m _ (by omega)).trans w4⟩, ⟨by rw [rW]; exact w5, (k _ (by omega)).trans w6, (m _ (by omega)).trans w7⟩, ⟨by rw [rW]; exact w8, (k _ (by omega)).trans w9, (m _ (by omega)).trans wa⟩, ⟨by rw [rW]; exact wb, (k _ (by omega)).trans wc, (m _ (by omega)).trans wd⟩, by rw [rW]; exact we, (k _ (by omega)).trans wf⟩, by omega, by omega, by omega, by omega⟩
theorem sq_ne {s : Nat} (h : s ≤ 6) : s * s ≠ 8 ∧ s * s ≠ 14 := by
  rcases (show s = 0 ∨ s = 1 ∨ s = 2 ∨ s = 3 ∨ s = 4 ∨ s = 5 ∨ s = 6 by omega) with e | e | e | e | e | e | e <;> subst e <;> decide
theorem pcW.l {U W T N a n : Nat} {R : Nat → Int32} {h h1 : HS} (p : pcW h a n R) (hq : cQ U W T N h) (e : lF U W T N h h1) : pcW h1 a n R := by
  obtain ⟨⟨q1, -⟩, ⟨q5, q6⟩, ⟨t1, -⟩, ⟨w1, ⟨-, w3, -⟩, ⟨-, w6, w7⟩, ⟨-, w9, -⟩, -⟩, l1, l2, l3, l4⟩ := hq
  obtain ⟨⟨p0, p1⟩, lt, ⟨⟨t1', t2⟩, t3⟩, r⟩ := p
  have hs := szP_le n
  have nk : ∀ b k, hK h b = k → k ≠ 4 → k ≠ 8 → k ≠ 9 → b ≠ U ∧ b ≠ T ∧ b ≠ W := fun b k hb k1 k2 k3 => ⟨fun x => k1 (by rw [← hb, x, q1]), fun x => k2 (by rw [← hb, x, t1]), fun x => k3 (by rw [← hb, x, w1])⟩
  obtain ⟨⟨-, a4, a5, -⟩, a3, a1⟩ := e.2 a lt
  obtain ⟨n1, n2, n3⟩ := nk a 3 t1' (by decide) (by decide) (by decide)
  have a1' : ∀ k, hI h1 a k = hI h a k := fun k => a1 k (fun x => n1 x.1) (fun x => n2 x.1) (fun x => n3 x.1) (fun x => by rw [x, w6] at t1'; exact absurd t1' (by decide)) (fun x => by rw [x, q5] at t1'; exact absurd t1' (by decide))
  have a3' : hR h1 a = hR h a := a3 (fun x => by rw [x, w3] at t1'; exact absurd t1' (by decide)) (fun x => by rw [x, w9] at t1'; exact absurd t1' (by decide))
  have ot : ∀ i, hK h (a + i) = 12 → hN h (a + i) ≠ 8 → hN h (a + i) ≠ 14 → a + i < hT h → hI h1 (a + i) = hI h (a + i) := fun i h1 h2 h3 h4 => funext fun k => by
    obtain ⟨m1, m2, m3⟩ := nk (a + i) 12 h1 (by decide) (by decide) (by decide)
    exact (e.2 (a + i) h4).2.2 k (fun x => m1 x.1) (fun x => m2 x.1) (fun x => m3 x.1) (fun x => h2 (by rw [x, w7])) (fun x => h3 (by rw [x, q6]))
  refine ⟨⟨by rw [a1']; exact p0, fun hn => by rw [a1']; exact p1 hn⟩, Nat.lt_of_lt_of_le lt e.1, ⟨⟨by rw [a4]; exact t1', by rw [a1']; exact t2⟩, fun q => ?_⟩, fun q hq => ?_⟩
  · obtain ⟨⟨r1, r2, r3⟩, b⟩ := t3 q
    obtain ⟨⟨-, c1, d1, -⟩, -⟩ := e.2 (a + 1) (by omega)
    obtain ⟨⟨-, c2, d2, -⟩, -⟩ := e.2 (a + 2) (by omega)
    obtain ⟨⟨-, c3, d3, -⟩, -⟩ := e.2 (a + 3) (by omega)
    obtain ⟨⟨-, c4, d4, -⟩, -⟩ := e.2 (a + 4) (by omega)
    refine ⟨⟨?_, ?_, ?_⟩, Nat.lt_of_lt_of_le b e.1⟩
    · rw [a3']; exact r1
    · rw [c1, c2, c3, c4]; exact r2
    · rw [d1, d2, d3, d4]; exact r3
  · obtain ⟨⟨-, ⟨k1, k2, k3, k4⟩, m1, m2, m3, m4⟩, b⟩ := t3 (by omega)
    have sq := sq_ne hs
    rw [ot 1 k1 (by omega) (by omega) (by omega), ot 2 k2 (by omega) (by omega) (by omega), ot 3 k3 (by omega) (by omega) (by omega), ot 4 k4 (by rw [m4]; exact sq.1) (by rw [m4]; exact sq.2) (by omega)]
    exact r q hq
section L1
variable {w : gD} {U W T N : Nat} {h : HS} {tx : Nat → Nat} {n c j : Nat}
theorem e_r_endLine (hq : cQ U W T N h) (ct : cT T h tx n c j) (h0 : hI h U 1 = 0) (hc : cdT tx n j ≠ 0 → j + 1 < c) (x y : Int32) : Ev w 2 0 0 yX3_endLine cX3_endLine 3 none [.ref U, .int x, .int y] h (fun r' h' => r' = none ∧ ((cdT tx n j = 59 ∧ y < x ∧ h' = sI (sI h U 1 (nI 5)) U 2 (nI (plT tx n j))) ∨ (cdT tx n j = 59 ∧ ¬ y < x ∧ tF T h h' ∧ cT T h' tx n c (j + 1)) ∨ (cdT tx n j ≠ 59 ∧ h' = sI (sI h U 1 (nI (if cdT tx n j = 1 then 1 else 2))) U 2 (nI (plT tx n j))))) := by
  have ee := e_r_expect (w := w) hq ct h0 hc (k := 59) (by decide) (by decide)
  generalize (if cdT tx n j = 1 then 1 else 2) = v0 at ee ⊢
  refine g_start (by decide) (Nat.le_of_ble_eq_true rfl) [(0, _), (1, _), (2, _)] rfl (fun z hfl C => ?_)
  have lt := cd_lt (tx := tx) (n := n) j
  have k22 : (cdT tx n j = 59 → ¬ y < x) → GW z w 3 (gQ z w 0 0 (fun r' h'' => r' = none ∧ ((cdT tx n j = 59 ∧ y < x ∧ h'' = sI (sI h U 1 (nI 5)) U 2 (nI (plT tx n j))) ∨ (cdT tx n j = 59 ∧ ¬ y < x ∧ tF T h h'' ∧ cT T h'' tx n c (j + 1)) ∨ (cdT tx n j ≠ 59 ∧ h'' = sI (sI h U 1 (nI v0)) U 2 (nI (plT tx n j)))))) 0 0 22 [(0, .ref U), (1, .int x), (2, .int y)] [] h := by
    intro q
    refine g_aload_n C (gd DX3_endLine_0 11 rfl) 0 rfl rfl ?_
    refine g_bipush (v := 59) C (gd DX3_endLine_0 12 rfl) (by decide) ?_
    refine g_callV (ci := 3) C [_] mX3_expect lm_TestJudge_Reader_86 (by exact hq.1.1) rfl rfl ee hfl (by first | decide | omega) (by decide) (by omega) (by omega) rfl rfl (Nat.le_of_ble_eq_true rfl) (gd DX3_endLine_0 13 rfl) (fun r h2 hp => ?_)
    obtain ⟨rfl, hp⟩ := hp
    show GW z w 3 _ _ _ _ _ [] _
    rcases hp with ⟨e, a, b⟩ | ⟨e, rfl⟩
    · exact g_vret C (by omega) (by omega) ⟨rfl, Or.inr (Or.inl ⟨e, q e, a, b⟩)⟩ (gd DX3_endLine_0 14 rfl)
    · exact g_vret C (by omega) (by omega) ⟨rfl, Or.inr (Or.inr ⟨e, rfl⟩)⟩ (gd DX3_endLine_0 14 rfl)
  refine g_aload_n C (gd DX3_endLine_0 0 rfl) 0 rfl rfl ?_
  refine g_getr (ci := 3) (k := 3) C rfl (by decide) rfl lf_TestJudge_Reader_33 hq.1.1 hq.1.2.2.1 (gd DX3_endLine_0 1 rfl) ?_
  refine g_geti (ci := 7) (k := 1) C rfl (by decide) rfl lf_TestJudge_Reader_42 hq.2.2.1.1 (gd DX3_endLine_0 2 rfl) ?_
  rw [ct.2.2.1]
  refine g_bipush (v := 59) C (gd DX3_endLine_0 3 rfl) (by decide) ?_
  refine g_icmp_ne C 22 (gd DX3_endLine_0 4 rfl) (by decide) (fun c9 => ?_) (fun c9 => ?_)
  · exact k22 (fun q => absurd (by rw [q]; rfl) c9)
  · have e : cdT tx n j = 59 := (nI_eq (b := 59) (by omega) (by omega)).mp (by first | exact c9 | exact Decidable.of_not_not c9)
    refine g_iload_n C (gd DX3_endLine_0 5 rfl) 1 rfl rfl ?_
    refine g_iload_n C (gd DX3_endLine_0 6 rfl) 2 rfl rfl ?_
    refine g_icmp_le C 22 (gd DX3_endLine_0 7 rfl) (by decide) (fun c14 => ?_) (fun c14 => ?_)
    · exact k22 (fun _ => by first | exact Int32.not_lt.mpr c14 | exact c14)
    · refine g_aload_n C (gd DX3_endLine_0 8 rfl) 0 rfl rfl ?_
      refine g_iconst (v := 5) C (gd DX3_endLine_0 9 rfl) (by decide) ?_
      refine g_cV0 (v := .null) (ci := 3) C [_] mX3_fail lm_TestJudge_Reader_55 (by exact hq.1.1) rfl rfl (e_r_fail hq ct h0 (k := 5) (by omega)) hfl (by first | decide | omega) (by decide) (by omega) (by omega) rfl rfl (Nat.le_of_ble_eq_true rfl) (gd DX3_endLine_0 10 rfl) ?_
      rw [if_neg (c := cdT tx n j = 1 ∧ 5 ≠ 5) (fun x => x.2 rfl)]
      have bd := bdF.mk hq ct (k := 5) ⟨by omega, by omega⟩
      have hq1 := hq.q bd.1
      refine g_aload_n C (gd DX3_endLine_0 11 rfl) 0 rfl rfl ?_
      refine g_bipush (v := 59) C (gd DX3_endLine_0 12 rfl) (by decide) ?_
      refine g_cV0 (v := .null) (ci := 3) C [_] mX3_expect lm_TestJudge_Reader_86 (by exact hq.1.1) rfl rfl (e_r_expect1 hq1 bd.2.2.2.2 _) hfl (by first | decide | omega) (by decide) (by omega) (by omega) rfl rfl (Nat.le_of_ble_eq_true rfl) (gd DX3_endLine_0 13 rfl) ?_
      exact g_vret C (by omega) (by omega) ⟨rfl, Or.inl ⟨e, by first | exact Int32.not_le.mp c14 | exact c14, rfl⟩⟩ (gd DX3_endLine_0 14 rfl)
theorem e_r_endLine1 (hq : cQ U W T N h) (h0 : hI h U 1 ≠ 0) (x y : Int32) : EvF w 2 0 0 yX3_endLine cX3_endLine 3 none [.ref U, .int x, .int y] h none h := by
  refine g_start (by decide) (Nat.le_of_ble_eq_true rfl) [(0, _), (1, _), (2, _)] rfl (fun z hfl C => ?_)
  have k22 : GW z w 3 (gQ z w 0 0 (fun r' h'' => r' = none ∧ h'' = h)) 0 0 22 [(0, .ref U), (1, .int x), (2, .int y)] [] h := by
    refine g_aload_n C (gd DX3_endLine_0 11 rfl) 0 rfl rfl ?_
    refine g_bipush (v := 59) C (gd DX3_endLine_0 12 rfl) (by decide) ?_
    refine g_cV0 (v := .null) (ci := 3) C [_] mX3_expect lm_TestJudge_Reader_86 (by exact hq.1.1) rfl rfl (e_r_expect1 hq h0 _) hfl (by first | decide | omega) (by decide) (by omega) (by omega) rfl rfl (Nat.le_of_ble_eq_true rfl) (gd DX3_endLine_0 13 rfl) ?_
    exact g_vret C (by omega) (by omega) ⟨rfl, rfl⟩ (gd DX3_endLine_0 14 rfl)
  refine g_aload_n C (gd DX3_endLine_0 0 rfl) 0 rfl rfl ?_
  refine g_getr (ci := 3) (k := 3) C rfl (by decide) rfl lf_TestJudge_Reader_33 hq.1.1 hq.1.2.2.1 (gd DX3_endLine_0 1 rfl) ?_
  refine g_geti (ci := 7) (k := 1) C rfl (by decide) rfl lf_TestJudge_Reader_42 hq.2.2.1.1 (gd DX3_endLine_0 2 rfl) ?_
  refine g_bipush (v := 59) C (gd DX3_endLine_0 3 rfl) (by decide) ?_
  refine g_icmp_ne C 22 (gd DX3_endLine_0 4 rfl) (by decide) (fun c9 => ?_) (fun c9 => ?_)
  · exact k22
  · refine g_iload_n C (gd DX3_endLine_0 5 rfl) 1 rfl rfl ?_
    refine g_iload_n C (gd DX3_endLine_0 6 rfl) 2 rfl rfl ?_
    refine g_icmp_le C 22 (gd DX3_endLine_0 7 rfl) (by decide) (fun c14 => ?_) (fun c14 => ?_)
    · exact k22
    · refine g_aload_n C (gd DX3_endLine_0 8 rfl) 0 rfl rfl ?_
      refine g_iconst (v := 5) C (gd DX3_endLine_0 9 rfl) (by decide) ?_
      refine g_cV0 (v := .null) (ci := 3) C [_] mX3_fail lm_TestJudge_Reader_55 (by exact hq.1.1) rfl rfl (e_r_fail1 hq h0 _) hfl (by first | decide | omega) (by decide) (by omega) (by omega) rfl rfl (Nat.le_of_ble_eq_true rfl) (gd DX3_endLine_0 10 rfl) ?_
      exact k22
end L1
