/-! Search: begin -/
/-- nothing but ints has changed, and none outside the search -/
def sfr (s : Nat) (h h' : HS) : Prop := h'.2 = h.2 ∧ ∀ b, (b < s ∨ s + 18 < b) → hI h' b = hI h b
theorem sfr.rf (s : Nat) (h : HS) : sfr s h h := ⟨rfl, fun _ _ => rfl⟩
theorem sfr.tr {s : Nat} {h h1 h2 : HS} (a : sfr s h h1) (b : sfr s h1 h2) : sfr s h h2 := ⟨b.1.trans a.1, fun c hc => (b.2 c hc).trans (a.2 c hc)⟩
theorem sfr_hS (s : Nat) (h : HS) (F BH NU SI CA : Nat → Int32) : sfr s h (hS s h F BH NU SI CA) := ⟨rfl, fun b hb => hS_ne (by omega)⟩
theorem sSh.e {s : Nat} {h h' : HS} (hs : sSh s h) (e : h'.2 = h.2) : sSh s h' := by
  have e1 : hR h' = hR h := congrArg (fun x => x.2.1) e
  have e2 : hK h' = hK h := congrArg (fun x => x.2.2.1) e
  have e3 : hN h' = hN h := congrArg (fun x => x.2.2.2.1) e
  unfold sSh rSh
  rw [e1, e2, e3]
  exact hs
theorem wSh.e {W : Nat} {h h' : HS} (hs : wSh W h) (e : h'.2 = h.2) : wSh W h' := by
  have e1 : hR h' = hR h := congrArg (fun x => x.2.1) e
  have e2 : hK h' = hK h := congrArg (fun x => x.2.2.1) e
  have e3 : hN h' = hN h := congrArg (fun x => x.2.2.2.1) e
  unfold wSh
  rw [e1, e2, e3]
  exact hs
theorem pcS.e {h h' : HS} {a n : Nat} {R : Nat → Int32} (p : pcS h a n R) (e : h'.2 = h.2) (hi : ∀ b, a ≤ b → b ≤ a + 4 → hI h' b = hI h b) : pcS h' a n R := by
  have e1 : hR h' = hR h := congrArg (fun x => x.2.1) e
  have e2 : hK h' = hK h := congrArg (fun x => x.2.2.1) e
  have e3 : hN h' = hN h := congrArg (fun x => x.2.2.2.1) e
  unfold pcS
  rw [e1, e2, e3, hi a (by omega) (by omega), hi (a + 1) (by omega) (by omega), hi (a + 2) (by omega) (by omega), hi (a + 3) (by omega) (by omega), hi (a + 4) (by omega) (by omega)]
  exact p
/-- a search between calls: what it met last is still marked, and nothing else -/
def sId (s : Nat) (h : HS) : Prop := ∃ n, n ≤ 16385 ∧ hI h s 0 = nI n ∧ (∀ j, j < n → ∃ c, c < 16385 ∧ hI h (s + 15) j = nI c) ∧ ∀ c, c < 16385 → (∀ j, j < n → hI h (s + 15) j ≠ nI c) → hI h (s + 14) c = 0
theorem kOk.len {P : kP} (hP : kSm P) {L : List (Int64 × Nat)} (ok : kOk P L) : L.length ≤ 16385 :=
  pigeon (fun i => kCode (((L[i]?).map (·.1)).getD 0)) L.length 16385 (fun i hi => by
    show kCode (((L[i]?).map (·.1)).getD 0) < 16385
    rw [List.getElem?_eq_getElem hi]
    exact (ok.1 i _ (List.getElem?_eq_getElem hi)).lt hP) (fun i j hi hj he => by
    have he2 : kCode (((L[i]?).map (·.1)).getD 0) = kCode (((L[j]?).map (·.1)).getD 0) := he
    rw [List.getElem?_eq_getElem hi, List.getElem?_eq_getElem hj] at he2
    exact ok.2 i j _ _ (List.getElem?_eq_getElem hi) (List.getElem?_eq_getElem hj) ((ok.1 i _ (List.getElem?_eq_getElem hi)).inj hP (ok.1 j _ (List.getElem?_eq_getElem hj)) he2))
theorem sQ.id {P : kP} (hP : kSm P) {L : List (Int64 × Nat)} (ok : kOk P L) {s : Nat} {h : HS} {F BH NU SI CA : Nat → Int32} (q : sQ L F NU SI CA) : sId s (hS s h F BH NU SI CA) := by
  refine ⟨L.length, ok.len hP, by rw [hS_0]; exact q.1, fun j hj => ?_, fun c hc hx => ?_⟩
  · rw [hS_15]
    exact ⟨_, (ok.1 j _ (List.getElem?_eq_getElem hj)).lt hP, (q.2.1 j _ (List.getElem?_eq_getElem hj)).1⟩
  · rw [hS_14]
    refine q.2.2 c hc (fun j p hp e => hx j (List.getElem?_eq_some_iff.mp hp).1 ?_)
    rw [hS_15, (q.2.1 j p hp).1, e]
theorem sF_hS {s b : Nat} {h : HS} {F BH NU SI CA g : Nat → Int32} (hb : ¬ (b = s ∨ b = s + 1 ∨ b = s + 14 ∨ b = s + 15 ∨ b = s + 16)) : sF (hS s h F BH NU SI CA) b g = hS s (sF h b g) F BH NU SI CA := by
  unfold hS
  rw [sF_sF_c (show s + 16 ≠ b by omega), sF_sF_c (show s + 15 ≠ b by omega), sF_sF_c (show s + 14 ≠ b by omega), sF_sF_c (show s + 1 ≠ b by omega), sF_sF_c (show s ≠ b by omega)]
theorem hU_hS {s r : Nat} {h : HS} {F BH NU SI CA G E B : Nat → Int32} (hr : r = s + 2 ∨ r = s + 6 ∨ r = s + 10) : hU r (hS s h F BH NU SI CA) G E B = hS s (hU r h G E B) F BH NU SI CA := by
  unfold hU
  rw [sF_hS (by omega), sF_hS (by omega), sF_hS (by omega)]
theorem sfr_hU {s r : Nat} {h : HS} {G E B : Nat → Int32} (hr : r = s + 2 ∨ r = s + 6 ∨ r = s + 10) : sfr s h (hU r h G E B) := ⟨rfl, fun b hb => hU_ne (by omega)⟩
def kMk (nt na : Nat) (R1 R2 R3 : Nat → Int32) (n1 n2 n3 : Nat) : kP := (nI nt, nI na, R1, R2, R3, n1, n2, n3)
section C10
variable {w : gD} {s W : Nat} {h : HS}
theorem e_w_barZ (hw : wSh W h) {f a : Nat} (hf : f < 4) (ha : hR h (W + 4) f = some a ∨ hR h (W + 4) f = none ∧ a = W + 5) : EvF w 0 0 0 yX8_bar cX8_bar 3 (some (.object RX2)) [.ref W, .int (nI f)] h (some (.ref a)) h := by
  rcases ha with ha | ⟨ha, e⟩
  · exact e_w_bar hw hf ha
  · rw [e]; exact e_w_bar0 hw hf ha
theorem e_s_begin (hs : sSh s h) (id : sId s h) (hw : wSh W h) {nt na f xa ya za n1 n2 n3 : Nat} {R1 R2 R3 : Nat → Int32} (hnt : nt ≤ 3) (hna : na ≤ 3) (h0 : hI h W 0 = nI nt) (h1 : hI h W 1 = nI na) (hf : f < 4) (hz : hR h (W + 4) f = some za ∨ hR h (W + 4) f = none ∧ za = W + 5)
    (sm : n1 ≤ 6 ∧ n2 ≤ 6 ∧ n3 ≤ 2) (px : pcS h xa n1 R1) (py : pcS h ya n2 R2) (pz : pcS h za n3 R3) (dW : W + 5 < s ∨ s + 18 < W) (dx : xa + 4 < s ∨ s + 18 < xa) (dy : ya + 4 < s ∨ s + 18 < ya) (dz : za + 4 < s ∨ s + 18 < za) :
    Ev w 2 0 0 yX5_begin cX5_begin 6 none [.ref s, .ref W, .int (nI f), .ref xa, .ref ya] h (fun r' h' => r' = none ∧ ∃ h1 F BH NU SI CA, h' = hS s h1 F BH NU SI CA ∧ sRd (kMk nt na R1 R2 R3 n1 n2 n3) s h1 ∧ sFl (kMk nt na R1 R2 R3 n1 n2 n3) nt na F ∧ sQ [(BEG, 0)] F NU SI CA ∧ sfr s h h1) := by
  refine g_start (by decide) (Nat.le_of_ble_eq_true rfl) [(0, _), (1, _), (2, _), (3, _), (4, _)] rfl (fun z hfl C => ?_)
  have p8 : 2 ^ nt ≤ 2 ^ 3 := Nat.pow_le_pow_right (by omega) hnt
  obtain ⟨n, hn, e0, e15, e14⟩ := id
  have fin : ∀ NU i, (∀ c, c < 16385 → NU c = 0) → GW z w 6 (gQ z w 0 0 (fun r' h'' => r' = none ∧ ∃ h1 F BH NU SI CA, h'' = hS s h1 F BH NU SI CA ∧ sRd (kMk nt na R1 R2 R3 n1 n2 n3) s h1 ∧ sFl (kMk nt na R1 R2 R3 n1 n2 n3) nt na F ∧ sQ [(BEG, 0)] F NU SI CA ∧ sfr s h h1)) 0 0 52 [(0, .ref s), (1, .ref W), (2, .int (nI f)), (3, .ref xa), (4, .ref ya), (5, .int i)] [] (hS s h (hI h s) (hI h (s + 1)) NU (hI h (s + 15)) (hI h (s + 16))) := by
    intro NU i hNU
    generalize hI h (s + 1) = BH
    generalize hI h (s + 15) = SI
    generalize hI h (s + 16) = CA
    refine g_aload_n C (gd DX5_begin_0 25 rfl) 0 rfl rfl ?_
    refine g_iconst (v := 0) C (gd DX5_begin_0 26 rfl) (by decide) ?_
    refine g_puti (ci := 5) (k := 0) C rfl (by decide) rfl lf_TestJudge_Search_13 hs.1 (Or.inl rfl) rfl (gd DX5_begin_0 27 rfl) ?_
    refine g_aload_n C (gd DX5_begin_0 28 rfl) 0 rfl rfl ?_
    refine g_getr (ci := 5) (k := 4) C rfl (by decide) rfl lf_TestJudge_Search_28 hs.1 hs.2.2.1.1 (gd DX5_begin_0 29 rfl) ?_
    refine g_aload_n C (gd DX5_begin_0 30 rfl) 3 rfl rfl ?_
    rw [hS_i0]
    generalize hF : upd (hI h s) 0 0 = F
    refine g_callV (ci := 4) C [_] mX4_take lm_TestJudge_Search_82 (by exact hs.2.2.1.2.1) rfl rfl (e_r_take (h := hS s h F BH NU SI CA) (r := s + 2) (by exact hs.2.2.1.2) sm.1 (px.e rfl (fun b b1 b2 => hS_ne (by omega))) (by omega)) hfl (by first | decide | omega) (by decide) (by omega) (by omega) rfl rfl (Nat.le_of_ble_eq_true rfl) (gd DX5_begin_0 31 rfl) (fun r h2 hp => ?_)
    obtain ⟨rfl, G1, E1, B1, rfl, t1⟩ := hp
    rw [hU_hS (Or.inl rfl)]
    show GW z w 6 _ 0 0 _ _ [] _
    refine g_aload_n C (gd DX5_begin_0 32 rfl) 0 rfl rfl ?_
    refine g_getr (ci := 5) (k := 5) C rfl (by decide) rfl lf_TestJudge_Search_32 hs.1 hs.2.2.2.1.1 (gd DX5_begin_0 33 rfl) ?_
    refine g_aload C (gd DX5_begin_0 34 rfl) 4 rfl ?_
    refine g_callV (ci := 4) C [_] mX4_take lm_TestJudge_Search_82 (by exact hs.2.2.2.1.2.1) rfl rfl (e_r_take (h := hS s (hU (s + 2) h G1 E1 B1) F BH NU SI CA) (r := s + 6) (by exact hs.2.2.2.1.2) sm.2.1 (py.e rfl (fun b b1 b2 => (hS_ne (by omega)).trans (hU_ne (by omega)))) (by omega)) hfl (by first | decide | omega) (by decide) (by omega) (by omega) rfl rfl (Nat.le_of_ble_eq_true rfl) (gd DX5_begin_0 35 rfl) (fun r h2 hp => ?_)
    obtain ⟨rfl, G2, E2, B2, rfl, t2⟩ := hp
    rw [hU_hS (Or.inr (Or.inl rfl))]
    show GW z w 6 _ 0 0 _ _ [] _
    refine g_aload_n C (gd DX5_begin_0 36 rfl) 0 rfl rfl ?_
    refine g_getr (ci := 5) (k := 6) C rfl (by decide) rfl lf_TestJudge_Search_35 hs.1 hs.2.2.2.2.1.1 (gd DX5_begin_0 37 rfl) ?_
    refine g_aload_n C (gd DX5_begin_0 38 rfl) 1 rfl rfl ?_
    refine g_iload_n C (gd DX5_begin_0 39 rfl) 2 rfl rfl ?_
    refine g_cV1 (ci := 8) C [_] mX8_bar lm_TestJudge_Search_86 (by exact hw.1) rfl rfl (e_w_barZ (h := hS s (hU (s + 6) (hU (s + 2) h G1 E1 B1) G2 E2 B2) F BH NU SI CA) (hw.e rfl) hf (by exact hz)) hfl (by first | decide | omega) (by decide) (by omega) (by omega) rfl rfl (Nat.le_of_ble_eq_true rfl) (gd DX5_begin_0 40 rfl) ?_
    refine g_callV (ci := 4) C [_] mX4_take lm_TestJudge_Search_82 (by exact hs.2.2.2.2.1.2.1) rfl rfl (e_r_take (h := hS s (hU (s + 6) (hU (s + 2) h G1 E1 B1) G2 E2 B2) F BH NU SI CA) (r := s + 10) (by exact hs.2.2.2.2.1.2) (Nat.le_trans sm.2.2 (by omega)) (pz.e rfl (fun b b1 b2 => (hS_ne (by omega)).trans ((hU_ne (by omega)).trans (hU_ne (by omega))))) (by omega)) hfl (by first | decide | omega) (by decide) (by omega) (by omega) rfl rfl (Nat.le_of_ble_eq_true rfl) (gd DX5_begin_0 41 rfl) (fun r h2 hp => ?_)
    obtain ⟨rfl, G3, E3, B3, rfl, t3⟩ := hp
    rw [hU_hS (Or.inr (Or.inr rfl))]
    show GW z w 6 _ 0 0 _ _ [] _
    generalize hh1 : hU (s + 10) (hU (s + 6) (hU (s + 2) h G1 E1 B1) G2 E2 B2) G3 E3 B3 = h1'
    have fr : sfr s h h1' := by
      rw [← hh1]
      exact (sfr_hU (Or.inl rfl)).tr ((sfr_hU (Or.inr (Or.inl rfl))).tr (sfr_hU (Or.inr (Or.inr rfl))))
    have rd : sRd (kMk nt na R1 R2 R3 n1 n2 n3) s h1' := by
      have g3 : hI h1' (s + 3) = G1 := by
        rw [← hh1, hU_ne (by omega), hU_ne (by omega)]
        exact hU_1
      have g4 : hI h1' (s + 4) = E1 := by
        rw [← hh1, hU_ne (by omega), hU_ne (by omega)]
        exact hU_2
      have g5 : hI h1' (s + 5) = B1 := by
        rw [← hh1, hU_ne (by omega), hU_ne (by omega)]
        exact hU_3
      have g7 : hI h1' (s + 7) = G2 := by
        rw [← hh1, hU_ne (by omega)]
        exact hU_1
      have g8 : hI h1' (s + 8) = E2 := by
        rw [← hh1, hU_ne (by omega)]
        exact hU_2
      have g9 : hI h1' (s + 9) = B2 := by
        rw [← hh1, hU_ne (by omega)]
        exact hU_3
      have g11 : hI h1' (s + 11) = G3 := by
        rw [← hh1]
        exact hU_1
      have g12 : hI h1' (s + 12) = E3 := by
        rw [← hh1]
        exact hU_2
      have g13 : hI h1' (s + 13) = B3 := by
        rw [← hh1]
        exact hU_3
      exact ⟨sm, by rw [g3, g4, g5]; exact t1, by rw [g7, g8, g9]; exact t2, by rw [g11, g12, g13]; exact t3⟩
    have hs' : sSh s h1' := hs.e fr.1
    have hw' : wSh W h1' := hw.e fr.1
    have r0 : ∀ F k, hI (hS s h1' F BH NU SI CA) W k = hI h W k := fun F k => by rw [hS_ne (by omega), fr.2 W (by omega)]
    have k112 : GW z w 6 (gQ z w 0 0 (fun r' h'' => r' = none ∧ ∃ h1 F BH NU SI CA, h'' = hS s h1 F BH NU SI CA ∧ sRd (kMk nt na R1 R2 R3 n1 n2 n3) s h1 ∧ sFl (kMk nt na R1 R2 R3 n1 n2 n3) nt na F ∧ sQ [(BEG, 0)] F NU SI CA ∧ sfr s h h1)) 0 0 125 [(0, .ref s), (1, .ref W), (2, .int (nI f)), (3, .ref xa), (4, .ref ya), (5, .int i)] [.int (nI (2 ^ nt)), .ref s] (hS s h1' (upd F 7 (nI na)) BH NU SI CA) := by
      refine g_puti (ci := 5) (k := 8) C rfl (by decide) rfl lf_TestJudge_Search_41 hs'.1 (Or.inl rfl) rfl (gd DX5_begin_1 1 rfl) ?_
      refine g_aload_n C (gd DX5_begin_1 2 rfl) 0 rfl rfl ?_
      refine g_sipush (v := 16384) C (gd DX5_begin_1 3 rfl) (by decide) ?_
      refine g_iconst (v := 0) C (gd DX5_begin_1 4 rfl) (by decide) ?_
      refine g_iconst (v := 0) C (gd DX5_begin_1 5 rfl) (by decide) ?_
      rw [hS_i0]
      have q0 : sQ [] (upd (upd F 7 (nI na)) 8 (nI (2 ^ nt))) NU SI CA := ⟨by rw [← hF]; rfl, fun j q hq => by simp at hq, fun c hc _ => hNU c hc⟩
      rw [show (16384 : Int32) = nI (kCode BEG) by rw [kCode_beg]; rfl]
      refine g_callV (ci := 5) C [_, _, _] mX5_meet lm_TestJudge_Search_96 (by exact hs'.1) rfl rfl (e_s_meet (fr := 0) (lt := 0) hs' (P := kMk nt na R1 R2 R3 n1 n2 n3) sm ⟨fun j q hq => by simp at hq, fun i j p q hq => by simp at hq⟩ q0 (Or.inl rfl)) hfl (by first | decide | omega) (by decide) (by omega) (by omega) rfl rfl (Nat.le_of_ble_eq_true rfl) (gd DX5_begin_1 6 rfl) (fun r h2 hp => ?_)
      obtain ⟨j, v, F', NU', SI', CA', rfl, rfl, g1, g2, g3⟩ := hp
      show GW z w 6 _ 0 0 _ _ [.int (nI j)] _
      refine g_pop C (gd DX5_begin_1 7 rfl) rfl ?_
      exact g_vret C (by omega) (by omega) ⟨rfl, h1', F', BH, NU', SI', CA', rfl, rd, ⟨hnt, hna, rfl, rfl, g3 7 (by omega), g3 8 (by omega)⟩, g1, fr⟩ (gd DX5_begin_1 8 rfl)
    have k90 : GW z w 6 (gQ z w 0 0 (fun r' h'' => r' = none ∧ ∃ h1 F BH NU SI CA, h'' = hS s h1 F BH NU SI CA ∧ sRd (kMk nt na R1 R2 R3 n1 n2 n3) s h1 ∧ sFl (kMk nt na R1 R2 R3 n1 n2 n3) nt na F ∧ sQ [(BEG, 0)] F NU SI CA ∧ sfr s h h1)) 0 0 103 [(0, .ref s), (1, .ref W), (2, .int (nI f)), (3, .ref xa), (4, .ref ya), (5, .int i)] [.int (nI na), .ref s] (hS s h1' F BH NU SI CA) := by
      refine g_puti (ci := 5) (k := 7) C rfl (by decide) rfl lf_TestJudge_Search_38 hs'.1 (Or.inl rfl) rfl (gd DX5_begin_0 51 rfl) ?_
      refine g_aload_n C (gd DX5_begin_0 52 rfl) 0 rfl rfl ?_
      refine g_aload_n C (gd DX5_begin_0 53 rfl) 1 rfl rfl ?_
      rw [hS_i0]
      refine g_cV1 (ci := 8) C [] mX8_atomCount lm_TestJudge_Search_92 (by exact hw'.1) rfl rfl (e_w_atomCount (h := hS s h1' (upd F 7 (nI na)) BH NU SI CA) (hw'.e rfl)) hfl (by first | decide | omega) (by decide) (by omega) (by omega) rfl rfl (Nat.le_of_ble_eq_true rfl) (gd DX5_begin_0 54 rfl) ?_
      rw [r0, h0, atF_n hnt]
      refine g_bipush (v := 8) C (gd DX5_begin_0 55 rfl) (by decide) ?_
      refine g_icmp_ge C 123 (gd DX5_begin_0 56 rfl) (by decide) (fun c113 => ?_) (fun c113 => ?_)
      · refine g_bipush (v := 8) C (gd DX5_begin_1 0 rfl) (by decide) ?_
        exact GW.cast rfl (by rw [show 2 ^ nt = 8 from Nat.le_antisymm p8 (ge_t c113 (by omega) (by omega))]; rfl) rfl k112
      · refine g_aload_n C (gd DX5_begin_0 57 rfl) 1 rfl rfl ?_
        refine g_cV1 (ci := 8) C [] mX8_atomCount lm_TestJudge_Search_92 (by exact hw'.1) rfl rfl (e_w_atomCount (h := hS s h1' (upd F 7 (nI na)) BH NU SI CA) (hw'.e rfl)) hfl (by first | decide | omega) (by decide) (by omega) (by omega) rfl rfl (Nat.le_of_ble_eq_true rfl) (gd DX5_begin_0 58 rfl) ?_
        rw [r0, h0, atF_n hnt]
        refine g_goto (tgt := 125) C (gd DX5_begin_0 59 rfl) (by decide) ?_
        exact k112
    refine g_aload_n C (gd DX5_begin_0 42 rfl) 0 rfl rfl ?_
    refine g_aload_n C (gd DX5_begin_0 43 rfl) 1 rfl rfl ?_
    refine g_geti (ci := 8) (k := 1) C rfl (by decide) rfl lf_TestJudge_Search_91 hw'.1 (gd DX5_begin_0 44 rfl) ?_
    rw [r0, h1]
    refine g_iconst (v := 3) C (gd DX5_begin_0 45 rfl) (by decide) ?_
    refine g_icmp_ge C 102 (gd DX5_begin_0 46 rfl) (by decide) (fun c92 => ?_) (fun c92 => ?_)
    · refine g_iconst (v := 3) C (gd DX5_begin_0 50 rfl) (by decide) ?_
      exact GW.cast rfl (by rw [show na = 3 from Nat.le_antisymm hna (ge_t c92 (by omega) (by omega))]; rfl) rfl k90
    · refine g_aload_n C (gd DX5_begin_0 47 rfl) 1 rfl rfl ?_
      refine g_geti (ci := 8) (k := 1) C rfl (by decide) rfl lf_TestJudge_Search_91 hw'.1 (gd DX5_begin_0 48 rfl) ?_
      rw [r0, h1]
      refine g_goto (tgt := 103) C (gd DX5_begin_0 49 rfl) (by decide) ?_
      exact k90
  have loop : ∀ y i NU, i + y = n → (∀ c, c < 16385 → (∀ j, i ≤ j → j < n → hI h (s + 15) j ≠ nI c) → NU c = 0) → GW z w 6 (gQ z w 0 0 (fun r' h'' => r' = none ∧ ∃ h1 F BH NU SI CA, h'' = hS s h1 F BH NU SI CA ∧ sRd (kMk nt na R1 R2 R3 n1 n2 n3) s h1 ∧ sFl (kMk nt na R1 R2 R3 n1 n2 n3) nt na F ∧ sQ [(BEG, 0)] F NU SI CA ∧ sfr s h h1)) 0 0 3 [(0, .ref s), (1, .ref W), (2, .int (nI f)), (3, .ref xa), (4, .ref ya), (5, .int (nI i))] [] (hS s h (hI h s) (hI h (s + 1)) NU (hI h (s + 15)) (hI h (s + 16))) := by
    intro y
    induction y with
    | zero =>
      intro i NU hi hc
      refine g_iload C (gd DX5_begin_0 2 rfl) 5 rfl ?_
      refine g_aload_n C (gd DX5_begin_0 3 rfl) 0 rfl rfl ?_
      refine g_geti (ci := 5) (k := 0) C rfl (by decide) rfl lf_TestJudge_Search_13 hs.1 (gd DX5_begin_0 4 rfl) ?_
      rw [hS_0, e0]
      refine g_icmp_ge C 52 (gd DX5_begin_0 5 rfl) (by decide) (fun c9 => ?_) (fun c9 => ?_)
      · exact fin NU _ (fun c h1 => hc c h1 (fun j h2 h3 => by omega))
      · exact absurd (nI_le (by omega) (by omega)) c9
    | succ y ih =>
      intro i NU hi hc
      obtain ⟨c, c1, c2⟩ := e15 i (by omega)
      refine g_iload C (gd DX5_begin_0 2 rfl) 5 rfl ?_
      refine g_aload_n C (gd DX5_begin_0 3 rfl) 0 rfl rfl ?_
      refine g_geti (ci := 5) (k := 0) C rfl (by decide) rfl lf_TestJudge_Search_13 hs.1 (gd DX5_begin_0 4 rfl) ?_
      rw [hS_0, e0]
      refine g_icmp_ge C 52 (gd DX5_begin_0 5 rfl) (by decide) (fun c9 => ?_) (fun c9 => ?_)
      · exact absurd c9 (nI_ge (by omega) (by omega))
      · refine g_iload C (gd DX5_begin_0 6 rfl) 5 rfl ?_
        refine g_sipush (v := 16385) C (gd DX5_begin_0 7 rfl) (by decide) ?_
        refine g_icmp_ge C 52 (gd DX5_begin_0 8 rfl) (by decide) (fun c17 => ?_) (fun c17 => ?_)
        · exact absurd c17 (nI_ge (a := i) (b := 16385) (by omega) (by omega))
        · refine g_aload_n C (gd DX5_begin_0 9 rfl) 0 rfl rfl ?_
          refine g_getr (ci := 5) (k := 16) C rfl (by decide) rfl lf_TestJudge_Search_65 hs.1 hs.2.2.2.2.2.2.1.1 (gd DX5_begin_0 10 rfl) ?_
          refine g_iload C (gd DX5_begin_0 11 rfl) 5 rfl ?_
          refine g_iaj (j := i) C hs.2.2.2.2.2.2.1.2.1 hs.2.2.2.2.2.2.1.2.2 (by first | decide | omega) rfl (by omega) (gd DX5_begin_0 12 rfl) ?_
          rw [hS_15, c2]
          refine g_cS1 C [_] mX5_fits lm_TestJudge_Search_78 (e_s_fits (by omega)) hfl (by first | decide | omega) (by decide) (by omega) (by omega) rfl rfl (Nat.le_of_ble_eq_true rfl) (gd DX5_begin_0 13 rfl) ?_
          rw [b1_t c1]
          refine g_if_eq C 46 (gd DX5_begin_0 14 rfl) (by decide) (fun c30 => ?_) (fun c30 => ?_)
          · exact absurd c30 (by decide)
          refine g_aload_n C (gd DX5_begin_0 15 rfl) 0 rfl rfl ?_
          refine g_getr (ci := 5) (k := 15) C rfl (by decide) rfl lf_TestJudge_Search_62 hs.1 hs.2.2.2.2.2.1.1 (gd DX5_begin_0 16 rfl) ?_
          refine g_aload_n C (gd DX5_begin_0 17 rfl) 0 rfl rfl ?_
          refine g_getr (ci := 5) (k := 16) C rfl (by decide) rfl lf_TestJudge_Search_65 hs.1 hs.2.2.2.2.2.2.1.1 (gd DX5_begin_0 18 rfl) ?_
          refine g_iload C (gd DX5_begin_0 19 rfl) 5 rfl ?_
          refine g_iaj (j := i) C hs.2.2.2.2.2.2.1.2.1 hs.2.2.2.2.2.2.1.2.2 (by first | decide | omega) rfl (by omega) (gd DX5_begin_0 20 rfl) ?_
          rw [hS_15, c2]
          refine g_iconst (v := 0) C (gd DX5_begin_0 21 rfl) (by decide) ?_
          refine g_isj (j := c) C hs.2.2.2.2.2.1.2.1 hs.2.2.2.2.2.1.2.2 (by first | decide | omega) rfl (by omega) (gd DX5_begin_0 22 rfl) ?_
          refine g_iinc (lv' := [(0, _), (1, _), (2, _), (3, _), (4, _), (5, _)]) C (gd DX5_begin_0 23 rfl) 5 [1, 2, 3, 4, 5, 0] rfl rfl (by decide) rfl ?_
          refine g_goto (tgt := 3) C (gd DX5_begin_0 24 rfl) (by decide) ?_
          rw [hS_i14]
          refine GW.cast (by rw [inc1]) rfl rfl (ih (i + 1) _ (by omega) (fun d d1 d2 => ?_))
          unfold upd
          split
          · rfl
          · rename_i hd
            refine hc d d1 (fun j j1 j2 x => ?_)
            by_cases e : j = i
            · subst e
              rw [c2] at x
              exact hd ((nI_eq (by omega) (by omega)).mp x).symm
            · exact d2 j (by omega) j2 x
  refine g_iconst (v := 0) C (gd DX5_begin_0 0 rfl) (by decide) ?_
  refine g_istore (lv' := [(0, _), (1, _), (2, _), (3, _), (4, _), (5, _)]) C (gd DX5_begin_0 1 rfl) [1, 2, 3, 4, 5, 0] (by decide) rfl ?_
  refine GW.cast rfl rfl hS_self.symm (loop n 0 _ (by omega) (fun c c1 c2 => e14 c c1 (fun j j1 => c2 j (by omega) j1)))
end C10
