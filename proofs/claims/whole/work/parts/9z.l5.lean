/-! the class's Reader: a program, a fact is told -/
theorem cLm.close {U W T N : Nat} {h : HS} {tx : Nat → Nat} {n c j : Nat} {S : pS} {v5 : Int32} (L : cLm U W T N h tx n c j S v5) : lF U W T N h (sI h U 5 1) ∧ cLm U W T N (sI h U 5 1) tx n c j S 1 := by
  have fr : lF U W T N h (sI h U 5 1) := ⟨Nat.le_refl _, fun b _ => ⟨⟨rfl, rfl, rfl, fun _ _ p => by rw [hI_sI, if_neg (by omega), hI_sI, if_neg (by omega)]; exact p⟩, fun _ _ => rfl, fun k p1 _ _ _ _ => by rw [hI_sI, if_neg (fun x => p1 ⟨x.1, by omega⟩)]⟩⟩
  obtain ⟨⟨hq, ct, h0, d1, ⟨d2, d3, d4⟩, d5, d6, d7⟩, ⟨f1, f2⟩, l, u, k⟩ := id L
  obtain ⟨⟨q1, -⟩, ⟨q5, q6⟩, ⟨t1, -⟩, ⟨w1, -, ⟨-, w6, w7⟩, -⟩, l1, l2, l3, l4⟩ := id hq
  have UN : N ≠ U := fun x => by rw [x, q1] at q5; exact absurd q5 (by decide)
  have UT : T ≠ U := fun x => by rw [x, q1] at t1; exact absurd t1 (by decide)
  have UW : W ≠ U := fun x => by rw [x, q1] at w1; exact absurd w1 (by decide)
  have UW2 : W + 2 ≠ U := fun x => by rw [x, q1] at w6; exact absurd w6 (by decide)
  have ne : ∀ b k, b ≠ U → hI (sI h U 5 1) b k = hI h b k := fun b k hb => by rw [hI_sI, if_neg (fun x => hb x.1)]
  refine ⟨fr, ⟨hq.l fr, ct.l hq fr (fun k _ _ => ne T k UT), by rw [hI_sI, if_neg (by omega)]; exact h0, d1, ⟨by rw [ne _ _ UW]; exact d2, by rw [ne _ _ UW]; exact d3, by rw [ne _ _ UW]; exact d4⟩, d5, fun i hi => by rw [ne _ _ UN]; exact d6 i hi, fun i hi => ?_⟩, ⟨by rw [ne _ _ UW]; exact f1, fun i hi => ?_⟩, fun i hi => by rw [ne _ _ UW2]; exact l i hi, by rw [hI_sI, if_pos ⟨rfl, rfl⟩], k⟩
  · obtain ⟨⟨p, p1, p2⟩, p3⟩ := d7 i hi
    exact ⟨⟨p, p1, p2.l hq fr⟩, p3⟩
  · obtain ⟨p, p1, p2, p3⟩ := f2 i hi
    exact ⟨p, p1, p2.l hq fr, p3⟩
theorem cLm.prg {U W T N p : Nat} {h : HS} {tx : Nat → Nat} {n c j : Nat} {S : pS} {a : pR} {wv : Nat} (L : cLm U W T N h tx n c j S 1) (hnp : S.1.2.2.1 < 8) (hw : wv < 2 ^ 30) (pw : pcW h p a.1 a.2) (lp : W + 5 < p) (lq : ∀ i, i < S.1.2.2.1 → hR h (W + 1) i ≠ some p) (a5 : a.1 ≤ 5) (ok : okT (allF (nI S.1.1)) a) :
    lF U W T N h (hV W (sI h N (6 + S.1.2.2.1) (nI wv)) (upd (hI (sI h N (6 + S.1.2.2.1) (nI wv)) W) 2 (nI (S.1.2.2.1 + 1))) (upd (hI (sI h N (6 + S.1.2.2.1) (nI wv)) (W + 2)) S.1.2.2.1 0) (updO (hR h (W + 1)) S.1.2.2.1 (some p))) ∧ cLn U W T N (hV W (sI h N (6 + S.1.2.2.1) (nI wv)) (upd (hI (sI h N (6 + S.1.2.2.1) (nI wv)) W) 2 (nI (S.1.2.2.1 + 1))) (upd (hI (sI h N (6 + S.1.2.2.1) (nI wv)) (W + 2)) S.1.2.2.1 0) (updO (hR h (W + 1)) S.1.2.2.1 (some p))) tx n c j ((S.1.1, S.1.2.1, S.1.2.2.1 + 1, S.1.2.2.2), updA S.2.1 (6 + S.1.2.2.1) wv, updA S.2.2.1 S.1.2.2.1 a, S.2.2.2) := by
  obtain ⟨⟨hq, ct, h0, ⟨m1, m2, m3⟩, ⟨d2, d3, d4⟩, d5, d6, d7⟩, ⟨f1, f2⟩, l, u, k⟩ := id L
  obtain ⟨⟨q1, -⟩, ⟨q5, q6⟩, ⟨t1, -⟩, ⟨w1, -, ⟨-, w6, w7⟩, -⟩, l1, l2, l3, l4⟩ := id hq
  have NW : W ≠ N := fun x => by rw [x, q5] at w1; exact absurd w1 (by decide)
  have NW2 : W + 2 ≠ N := fun x => by rw [x, q6] at w7; exact absurd w7 (by decide)
  have UN : U ≠ N := fun x => by rw [x, q5] at q1; exact absurd q1 (by decide)
  have UW : U ≠ W := fun x => by rw [x, w1] at q1; exact absurd q1 (by decide)
  have UW2 : U ≠ W + 2 := fun x => by rw [x, w6] at q1; exact absurd q1 (by decide)
  have TN : T ≠ N := fun x => by rw [x, q5] at t1; exact absurd t1 (by decide)
  have TW : T ≠ W := fun x => by rw [x, w1] at t1; exact absurd t1 (by decide)
  have TW2 : T ≠ W + 2 := fun x => by rw [x, w6] at t1; exact absurd t1 (by decide)
  have sN : ∀ b k, b ≠ N → hI (sI h N (6 + S.1.2.2.1) (nI wv)) b k = hI h b k := fun b k hb => by rw [hI_sI, if_neg (fun x => hb x.1)]
  generalize eg : hV W (sI h N (6 + S.1.2.2.1) (nI wv)) (upd (hI (sI h N (6 + S.1.2.2.1) (nI wv)) W) 2 (nI (S.1.2.2.1 + 1))) (upd (hI (sI h N (6 + S.1.2.2.1) (nI wv)) (W + 2)) S.1.2.2.1 0) (updO (hR h (W + 1)) S.1.2.2.1 (some p)) = g
  have gI : ∀ b k, b ≠ W → b ≠ W + 2 → hI g b k = hI (sI h N (6 + S.1.2.2.1) (nI wv)) b k := fun b k b1 b2 => by rw [← eg, hV_ne b1 b2]
  have gR : ∀ b, b ≠ W + 1 → hR g b = hR h b := fun b hb => by rw [← eg, hV_neR hb]; rfl
  have gW : ∀ k, hI g W k = if k = 2 then nI (S.1.2.2.1 + 1) else hI h W k := fun k => by
    rw [← eg, hV_0, upd]
    by_cases e : k = 2
    · rw [if_pos e, if_pos e]
    · rw [if_neg e, if_neg e, sN _ _ NW]
  have gW2 : ∀ k, hI g (W + 2) k = if k = S.1.2.2.1 then 0 else hI h (W + 2) k := fun k => by
    rw [← eg, hV_2, upd]
    by_cases e : k = S.1.2.2.1
    · rw [if_pos e, if_pos e]
    · rw [if_neg e, if_neg e, sN _ _ NW2]
  have gW1 : hR g (W + 1) = updO (hR h (W + 1)) S.1.2.2.1 (some p) := by rw [← eg, hV_1]
  have fr : lF U W T N h g := by
    refine ⟨by rw [← eg]; exact Nat.le_refl _, fun b _ => ⟨⟨by rw [← eg]; rfl, by rw [← eg]; rfl, by rw [← eg]; rfl, fun _ _ p => by rw [gI _ _ UW UW2, sN _ _ UN, gI _ _ UW UW2, sN _ _ UN]; exact p⟩, fun b1 _ => gR b b1, fun k p1 p2 p3 p4 p5 => ?_⟩⟩
    by_cases e : b = W
    · rw [e, gW, if_neg (fun x => p3 ⟨e, by omega⟩)]
    · rw [gI b k e p4, sN b k p5]
  clear eg
  refine ⟨fr, ⟨hq.l fr, ct.l hq fr (fun i _ _ => by rw [gI _ _ TW TW2, sN _ _ TN]), by rw [gI _ _ UW UW2, sN _ _ UN]; exact h0, ⟨m1, m2, by show S.1.2.2.1 + 1 ≤ 8; omega⟩, ⟨by rw [gW, if_neg (by omega)]; exact d2, by rw [gW, if_neg (by omega)]; exact d3, by rw [gW, if_pos rfl]⟩, fun i => ?_, fun i hi => ?_, fun i hi => ?_⟩, ⟨by rw [gW, if_neg (by omega)]; exact f1, fun i hi => ?_⟩, fun i hi => ?_, ?_, ?_⟩
  · show updA S.2.1 (6 + S.1.2.2.1) wv i < 2 ^ 30
    unfold updA; split
    · exact hw
    · exact d5 i
  · show hI g N i = if usd S.1.1 S.1.2.1 (S.1.2.2.1 + 1) i then nI (updA S.2.1 (6 + S.1.2.2.1) wv i) else 0
    rw [gI _ _ (fun x => NW x.symm) (fun x => NW2 x.symm), hI_sI]
    unfold updA
    by_cases q : i = 6 + S.1.2.2.1
    · rw [if_pos ⟨rfl, q⟩, if_pos (show usd S.1.1 S.1.2.1 (S.1.2.2.1 + 1) i from Or.inr (Or.inr ⟨by omega, by omega⟩)), if_pos q]
    · rw [if_neg (fun x => q x.2), if_neg q, d6 i hi]
      by_cases q2 : usd S.1.1 S.1.2.1 S.1.2.2.1 i
      · rw [if_pos q2, if_pos (show usd S.1.1 S.1.2.1 (S.1.2.2.1 + 1) i by rcases q2 with q2 | q2 | q2; exact Or.inl q2; exact Or.inr (Or.inl q2); exact Or.inr (Or.inr ⟨by omega, by omega⟩))]
      · rw [if_neg q2, if_neg (fun x => q2 (by rcases x with x | x | x; exact Or.inl x; exact Or.inr (Or.inl x); exact Or.inr (Or.inr ⟨by omega, by omega⟩)))]
  · have hi' : i < S.1.2.2.1 + 1 := hi
    show (∃ b, hR g (W + 1) i = some b ∧ pcW g b (updA S.2.2.1 S.1.2.2.1 a i).1 (updA S.2.2.1 S.1.2.2.1 a i).2) ∧ (updA S.2.2.1 S.1.2.2.1 a i).1 ≤ 5 ∧ okT (allF (nI S.1.1)) (updA S.2.2.1 S.1.2.2.1 a i)
    unfold updA
    by_cases e : i = S.1.2.2.1
    · rw [if_pos e]
      exact ⟨⟨p, by rw [gW1]; exact if_pos e, pw.l hq fr⟩, a5, ok⟩
    · rw [if_neg e]
      obtain ⟨⟨b, b1, b2⟩, b3⟩ := d7 i (by omega)
      exact ⟨⟨b, by rw [gW1]; exact (if_neg e).trans b1, b2.l hq fr⟩, b3⟩
  · obtain ⟨b, b1, b2, b3⟩ := f2 i hi
    exact ⟨b, by rw [gR _ (by omega)]; exact b1, b2.l hq fr, b3⟩
  · have hi' : i < S.1.2.2.1 + 1 := hi
    rw [gW2, gW1]
    by_cases e : i = S.1.2.2.1
    · rw [if_pos e]
      exact ⟨rfl, ⟨p, if_pos e, lp⟩, fun i2 hi2 => by unfold updO; rw [if_neg (by omega), if_pos e]; exact lq i2 (by omega)⟩
    · rw [if_neg e]
      obtain ⟨y1, ⟨y2, y3, y4⟩, y5⟩ := l i (by omega)
      exact ⟨y1, ⟨y2, (if_neg e).trans y3, y4⟩, fun i2 hi2 => by unfold updO; rw [if_neg (by omega), if_neg e]; exact y5 i2 hi2⟩
  · show hI g U 5 = if S.1.2.2.1 + 1 = 0 ∧ S.1.2.2.2 = 0 then 0 else 1
    rw [gI _ _ UW UW2, sN _ _ UN, if_neg (by omega)]
    exact u
  · obtain ⟨⟨s1, s2, s3, s4⟩, s5, s6, s7, s8⟩ := k
    refine ⟨⟨s1, s2, by show S.1.2.2.1 + 1 ≤ 8; omega, s4⟩, fun i => ?_, fun i hi => ?_, s7, s8⟩
    · show updA S.2.1 (6 + S.1.2.2.1) wv i < 2 ^ 30
      unfold updA; split
      · exact hw
      · exact s5 i
    · have hi' : i < S.1.2.2.1 + 1 := hi
      show (updA S.2.2.1 S.1.2.2.1 a i).1 ≤ 5 ∧ okT (allF (nI S.1.1)) (updA S.2.2.1 S.1.2.2.1 a i)
      unfold updA
      by_cases e : i = S.1.2.2.1
      · rw [if_pos e]; exact ⟨a5, ok⟩
      · rw [if_neg e]; exact s6 i (by omega)
theorem cLm.fct {U W T N p : Nat} {h : HS} {tx : Nat → Nat} {n c j : Nat} {S : pS} {a : pR} (L : cLm U W T N h tx n c j S 1) (hnf : S.1.2.2.2 < 2) (pw : pcW h p a.1 a.2) (lp : W + 5 < p) (a5 : fsP S.2.2.2 S.1.2.2.2 + a.1 ≤ 2) (ok : okT (allF (nI S.1.1)) a) :
    lF U W T N h (sI (sR h (W + 3) S.1.2.2.2 (some p)) W 3 (nI (S.1.2.2.2 + 1))) ∧ cLn U W T N (sI (sR h (W + 3) S.1.2.2.2 (some p)) W 3 (nI (S.1.2.2.2 + 1))) tx n c j ((S.1.1, S.1.2.1, S.1.2.2.1, S.1.2.2.2 + 1), S.2.1, S.2.2.1, updA S.2.2.2 S.1.2.2.2 a) := by
  obtain ⟨⟨hq, ct, h0, ⟨m1, m2, m3⟩, ⟨d2, d3, d4⟩, d5, d6, d7⟩, ⟨f1, f2⟩, l, u, k⟩ := id L
  obtain ⟨⟨q1, -⟩, ⟨q5, q6⟩, ⟨t1, -⟩, ⟨w1, -, ⟨-, w6, w7⟩, -⟩, l1, l2, l3, l4⟩ := id hq
  have NW : N ≠ W := fun x => by rw [x, w1] at q5; exact absurd q5 (by decide)
  have UW : U ≠ W := fun x => by rw [x, w1] at q1; exact absurd q1 (by decide)
  have TW : T ≠ W := fun x => by rw [x, w1] at t1; exact absurd t1 (by decide)
  generalize eg : sI (sR h (W + 3) S.1.2.2.2 (some p)) W 3 (nI (S.1.2.2.2 + 1)) = g
  have gI : ∀ b k, b ≠ W → hI g b k = hI h b k := fun b k b1 => by rw [← eg, hI_sI, if_neg (fun x => b1 x.1)]; rfl
  have gW : ∀ k, hI g W k = if k = 3 then nI (S.1.2.2.2 + 1) else hI h W k := fun k => by
    rw [← eg, hI_sI]
    by_cases e : k = 3
    · rw [if_pos ⟨rfl, e⟩, if_pos e]
    · rw [if_neg (fun x => e x.2), if_neg e]; rfl
  have gR : ∀ b, b ≠ W + 3 → hR g b = hR h b := fun b hb => by rw [← eg]; exact hR_sR_ne hb
  have gW3 : ∀ k, hR g (W + 3) k = if k = S.1.2.2.2 then some p else hR h (W + 3) k := fun k => by
    rw [← eg]
    show hR (sR h (W + 3) S.1.2.2.2 (some p)) (W + 3) k = _
    rw [hR_sR]
    by_cases e : k = S.1.2.2.2
    · rw [if_pos ⟨rfl, e⟩, if_pos e]
    · rw [if_neg (fun x => e x.2), if_neg e]
  have fr : lF U W T N h g := by
    refine ⟨by rw [← eg]; exact Nat.le_refl _, fun b _ => ⟨⟨by rw [← eg]; rfl, by rw [← eg]; rfl, by rw [← eg]; rfl, fun _ _ p => by rw [gI _ _ UW, gI _ _ UW]; exact p⟩, fun _ b3 => gR b b3, fun k p1 p2 p3 p4 p5 => ?_⟩⟩
    by_cases e : b = W
    · rw [e, gW, if_neg (fun x => p3 ⟨e, by omega⟩)]
    · exact gI b k e
  clear eg
  refine ⟨fr, ⟨hq.l fr, ct.l hq fr (fun i _ _ => gI _ _ TW), by rw [gI _ _ UW]; exact h0, ⟨m1, m2, m3⟩, ⟨by rw [gW, if_neg (by omega)]; exact d2, by rw [gW, if_neg (by omega)]; exact d3, by rw [gW, if_neg (by omega)]; exact d4⟩, d5, fun i hi => by rw [gI _ _ NW]; exact d6 i hi, fun i hi => ?_⟩, ⟨by rw [gW, if_pos rfl], fun i hi => ?_⟩, fun i hi => by rw [gI _ _ (by omega), gR _ (by omega)]; exact l i hi, ?_, ?_⟩
  · obtain ⟨⟨b, b1, b2⟩, b3⟩ := d7 i hi
    exact ⟨⟨b, by rw [gR _ (by omega)]; exact b1, b2.l hq fr⟩, b3⟩
  · have hi' : i < S.1.2.2.2 + 1 := hi
    show ∃ b, hR g (W + 3) i = some b ∧ pcW g b (updA S.2.2.2 S.1.2.2.2 a i).1 (updA S.2.2.2 S.1.2.2.2 a i).2 ∧ W + 5 < b
    unfold updA
    by_cases e : i = S.1.2.2.2
    · rw [if_pos e]
      exact ⟨p, by rw [gW3, if_pos e], pw.l hq fr, lp⟩
    · rw [if_neg e]
      obtain ⟨b, b1, b2, b3⟩ := f2 i (by omega)
      exact ⟨b, by rw [gW3, if_neg e]; exact b1, b2.l hq fr, b3⟩
  · show hI g U 5 = if S.1.2.2.1 = 0 ∧ S.1.2.2.2 + 1 = 0 then 0 else 1
    rw [gI _ _ UW, if_neg (by omega)]
    exact u
  · obtain ⟨⟨s1, s2, s3, s4⟩, s5, s6, s7, s8⟩ := k
    refine ⟨⟨s1, s2, s3, by show S.1.2.2.2 + 1 ≤ 2; omega⟩, s5, s6, fun i hi => ?_, ?_⟩
    · have hi' : i < S.1.2.2.2 + 1 := hi
      show okT (allF (nI S.1.1)) (updA S.2.2.2 S.1.2.2.2 a i)
      unfold updA
      by_cases e : i = S.1.2.2.2
      · rw [if_pos e]; exact ok
      · rw [if_neg e]; exact s7 i (by omega)
    · show fsP (updA S.2.2.2 S.1.2.2.2 a) (S.1.2.2.2 + 1) ≤ 2
      rw [fsP, fsP_cg (FR := updA S.2.2.2 S.1.2.2.2 a) (FR' := S.2.2.2) S.1.2.2.2 (fun i hi => if_neg (by omega)), updA, if_pos rfl]
      exact a5
