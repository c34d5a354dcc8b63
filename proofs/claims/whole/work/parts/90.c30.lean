/-! Piece: ofAct, sum, row, star -/
theorem pcI_0 (wt n : Nat) (e : Int32) : pcI wt n e 0 = nI wt := rfl
theorem pcI_1 (wt n : Nat) (e : Int32) : pcI wt n e 1 = e := rfl
theorem pcI_2 (wt n : Nat) (e : Int32) : pcI wt n e 2 = nI n := rfl
theorem hExt_pcH {h : HS} {I : Nat → Int32} {r : Nat → Option Nat} {k n : Nat} : hExt h (pcH h (hT h) I r k n) := by
  refine ⟨by rw [pcH_T]; omega, fun b hb => ⟨?_, ?_, ?_, ?_, ?_⟩⟩
  · funext j; show (if b = hT h then I j else if hT h < b ∧ b ≤ hT h + k then 0 else hI h b j) = _; rw [if_neg (by omega), if_neg (by omega)]
  · funext j; show (if hT h ≤ b ∧ b ≤ hT h + k then 0 else hL h b j) = _; rw [if_neg (by omega)]
  · funext j; show (if b = hT h then r j else if hT h < b ∧ b ≤ hT h + k then none else hR h b j) = _; rw [if_neg (by omega), if_neg (by omega)]
  · show (if b = hT h then 3 else if hT h < b ∧ b ≤ hT h + k then 12 else hK h b) = _; rw [if_neg (by omega), if_neg (by omega)]
  · show (if b = hT h then 0 else if hT h < b ∧ b ≤ hT h + k then (if b = hT h + 4 then n * n else n) else hN h b) = _; rw [if_neg (by omega), if_neg (by omega)]
theorem hExt_pcF {np : Nat} {h : HS} {wt : Nat} {e : Int32} : hExt h (pcF np h wt e) := by
  unfold pcF
  by_cases q : szP wt = 0
  · rw [if_pos q]; exact hExt_pcH
  · rw [if_neg q]; exact hExt_pcH
theorem pcF_T {np : Nat} {h : HS} {wt : Nat} {e : Int32} : hT h < hT (pcF np h wt e) ∧ hT (pcF np h wt e) ≤ hT h + 5 := by
  unfold pcF
  by_cases q : szP wt = 0
  · rw [if_pos q, pcH_T]; omega
  · rw [if_neg q, pcH_T]; omega
theorem pcF_0 {np : Nat} {h : HS} {wt : Nat} {e : Int32} : hI (pcF np h wt e) (hT h) 0 = nI wt ∧ hI (pcF np h wt e) (hT h) 1 = e := by
  unfold pcF
  by_cases q : szP wt = 0
  · rw [if_pos q, pcH_I, pcH_I]; exact ⟨rfl, rfl⟩
  · rw [if_neg q, pcH_I, pcH_I]; exact ⟨rfl, rfl⟩
theorem pcF_t {np : Nat} {h : HS} {wt : Nat} {e : Int32} : pcT (pcF np h wt e) (hT h) (szP wt) := by
  unfold pcF
  by_cases q : szP wt = 0
  · rw [if_pos q, q]
    exact ⟨⟨pcH_K, pcH_I⟩, fun x => absurd x (by omega)⟩
  · rw [if_neg q]
    refine ⟨⟨pcH_K, pcH_I⟩, fun _ => ⟨⟨⟨pcH_R, pcH_R, pcH_R, pcH_R⟩, ⟨?_, ?_, ?_, ?_⟩, ?_, ?_, ?_, ?_⟩, by rw [pcH_T]; omega⟩⟩
    · show (if hT h + 1 = hT h then 3 else if hT h < hT h + 1 ∧ hT h + 1 ≤ hT h + 4 then 12 else _) = 12; rw [if_neg (by omega), if_pos (by omega)]
    · show (if hT h + 2 = hT h then 3 else if hT h < hT h + 2 ∧ hT h + 2 ≤ hT h + 4 then 12 else _) = 12; rw [if_neg (by omega), if_pos (by omega)]
    · show (if hT h + 3 = hT h then 3 else if hT h < hT h + 3 ∧ hT h + 3 ≤ hT h + 4 then 12 else _) = 12; rw [if_neg (by omega), if_pos (by omega)]
    · show (if hT h + 4 = hT h then 3 else if hT h < hT h + 4 ∧ hT h + 4 ≤ hT h + 4 then 12 else _) = 12; rw [if_neg (by omega), if_pos (by omega)]
    · show (if hT h + 1 = hT h then 0 else if hT h < hT h + 1 ∧ hT h + 1 ≤ hT h + 4 then (if hT h + 1 = hT h + 4 then _ else szP wt) else _) = szP wt; rw [if_neg (by omega), if_pos (by omega), if_neg (by omega)]
    · show (if hT h + 2 = hT h then 0 else if hT h < hT h + 2 ∧ hT h + 2 ≤ hT h + 4 then (if hT h + 2 = hT h + 4 then _ else szP wt) else _) = szP wt; rw [if_neg (by omega), if_pos (by omega), if_neg (by omega)]
    · show (if hT h + 3 = hT h then 0 else if hT h < hT h + 3 ∧ hT h + 3 ≤ hT h + 4 then (if hT h + 3 = hT h + 4 then _ else szP wt) else _) = szP wt; rw [if_neg (by omega), if_pos (by omega), if_neg (by omega)]
    · show (if hT h + 4 = hT h then 0 else if hT h < hT h + 4 ∧ hT h + 4 ≤ hT h + 4 then (if hT h + 4 = hT h + 4 then szP wt * szP wt else _) else _) = szP wt * szP wt; rw [if_neg (by omega), if_pos (by omega), if_pos rfl]
theorem pcF_z {np : Nat} {h : HS} {wt : Nat} {e : Int32} (hs : 0 < szP wt) {i : Nat} (h1 : 1 ≤ i) (h2 : i ≤ 4) (j : Nat) : hI (pcF np h wt e) (hT h + i) j = 0 := by
  unfold pcF
  rw [if_neg (by omega)]
  show (if hT h + i = hT h then _ else if hT h < hT h + i ∧ hT h + i ≤ hT h + 4 then 0 else _) = 0
  rw [if_neg (by omega), if_pos (by omega)]
theorem hP_ext {h h1 : HS} {ρ : Nat → Nat → Int32} (e : hExt h h1) : hExt h (hP h1 (hT h) ρ) := by
  refine ⟨e.1, fun b hb => ?_⟩
  obtain ⟨e1, e2, e3, e4, e5⟩ := e.2 b hb
  exact ⟨by rw [hP_ne (by omega)]; exact e1, e2, e3, e4, e5⟩
/-- a new piece has come behind h: weight n, it tells R -/
def mkP (h : HS) (n : Nat) (R : Nat → Int32) (r' : Option Value) (h' : HS) : Prop := ∃ a, r' = some (.ref a) ∧ hT h ≤ a ∧ hExt h h' ∧ hT h' ≤ hT h + 5 ∧ pcW h' a n R
/-- what counts of N places is the same -/
theorem agR.q {ρ : Nat → Nat → Int32} {N : Nat} {Z Z' : Nat → Int32} (ag : agR ρ N Z) (e : ∀ k, 2 ≤ k → (k < 50 → (k - 2) % 16 < N) → (50 ≤ k → (k - 50) / 16 < N ∧ (k - 50) % 16 < N) → Z k = Z' k) (hN : N ≤ 6) : agR ρ N Z' := by
  intro p hp
  obtain ⟨a1, a2, a3, a4⟩ := ag p hp
  refine ⟨a1.trans (e _ (by omega) (fun _ => by omega) (fun _ => by omega)), a2.trans (e _ (by omega) (fun _ => by omega) (fun _ => by omega)), a3.trans (e _ (by omega) (fun _ => by omega) (fun _ => by omega)), fun q hq => (a4 q hq).trans (e _ (by omega) (fun _ => by omega) (fun _ => by omega))⟩
theorem pcW_mk {h1 : HS} {a n : Nat} {R : Nat → Int32} {ρ : Nat → Nat → Int32} (i0 : hI h1 a 0 = nI n) (i1 : n ≤ 6 → hI h1 a 1 = R 1) (lt : a < hT h1) (ta : pcT h1 a (szP n)) (ag : n ≤ 6 → agR ρ n R) : pcW (hP h1 a ρ) a n R := by
  refine ⟨⟨by rw [hP_ne (by omega)]; exact i0, fun q => by rw [hP_ne (by omega)]; exact i1 q⟩, lt, ⟨⟨ta.1.1, by rw [hP_ne (by omega)]; exact ta.1.2⟩, ta.2⟩, fun p hp => ?_⟩
  by_cases hn : n ≤ 6
  · rw [szP_s hn] at hp ⊢
    rw [hP_at (by omega) (by omega), hP_at (by omega) (by omega), hP_at (by omega) (by omega), hP_at (by omega) (by omega)]
    exact ag hn p hp
  · rw [szP_h (by omega)] at hp
    omega
/-- both copied beside each other tell what rBes tells -/
theorem cpZ_bes (X Y : Nat → Int32) {n b : Nat} (hw : n + b ≤ 6) (k : Nat) (h2 : 2 ≤ k) (hk : k < 50 → (k - 2) % 16 < n + b) (hk2 : 50 ≤ k → (k - 50) / 16 < n + b ∧ (k - 50) % 16 < n + b) : cpZ (cpZ (fun _ => 0) X 0 n n n 0) Y n b b b 0 k = rBes X Y n b k := by
  rw [rBes, if_pos (by omega)]
  unfold cpZ besF rSel rBet
  by_cases e : k < 50
  · have := hk e
    rw [if_pos e, if_pos e]
    by_cases e2 : (k - 2) % 16 < n
    · rw [if_neg (by omega), if_pos (by omega)]
      (repeat' split) <;> first | rfl | (exfalso; omega) | (congr 1; omega)
    · rw [if_pos (by omega)]
      (repeat' split) <;> first | rfl | (exfalso; omega) | (congr 1; omega)
  · obtain ⟨k1, k2⟩ := hk2 (by omega)
    rw [if_neg e, if_neg e, if_neg (c := k = 0) (by omega), if_neg (c := k < 2) (by omega), if_neg (c := k < 18) (by omega), if_neg (c := k < 34) (by omega), if_neg (c := k < 50) (by omega), if_pos (c := k < 306) (by omega), if_pos (c := (k - 50) / 16 < n + b) (by omega)]
    (repeat' split) <;> first | rfl | (exfalso; omega) | (congr 1; omega)
theorem rPlain_z (k : Nat) : rPlain 0 k = 0 := by unfold rPlain upd; split <;> rfl
section C30
variable {w : gD} {h : HS} {x y : Nat}
theorem e_pc_ofAct (c al : Int32) : Ev w 2 5 61 yX2_ofAct cX2_ofAct 3 (some (.object RX2)) [.int c, .int al] h (mkP h 1 (rAct c al)) := by
  refine g_start (by decide) (Nat.le_of_ble_eq_true rfl) [(0, _), (1, _)] rfl (fun z hfl C => ?_)
  refine g_new (ci := 2) C rfl lc_TestJudge_Piece_8 lI_TestJudge_Piece li_TestJudge_Piece (by decide) (by decide) (gd DX2_ofAct_0 0 rfl) (gdv2) ?_
  refine g_dup C (gd DX2_ofAct_0 1 rfl) rfl ?_
  refine g_iconst (v := 1) C (gd DX2_ofAct_0 2 rfl) (by decide) ?_
  refine g_iconst (v := 0) C (gd DX2_ofAct_0 3 rfl) (by decide) ?_
  refine g_cI C [_, _] mX2_init lm_TestJudge_Piece_37 (e_pc_init 1 (by omega) 0) hfl (by decide) (by decide) (by omega) (by omega) rfl rfl (Nat.le_of_ble_eq_true rfl) (gd DX2_ofAct_0 4 rfl) ?_
  have ta := @pcF_t w.2.2.2 h 1 0
  have aw : pcRw (pcF w.2.2.2 h 1 0) (hT h) 1 := (ta.2 (by decide)).1
  refine GW.cast rfl rfl (hP_self (h := pcF w.2.2.2 h 1 0) (a := hT h)).symm ?_
  have ag0 : agR (fun i => hI (pcF w.2.2.2 h 1 0) (hT h + i)) 1 (rPlain 0) := by
    intro p hp
    have z : ∀ i, 1 ≤ i → i ≤ 4 → ∀ j, hI (pcF w.2.2.2 h 1 0) (hT h + i) j = 0 := fun i h1 h2 j => pcF_z (by decide) h1 h2 j
    exact ⟨(z 1 (by omega) (by omega) _).trans (rPlain_z _).symm, (z 2 (by omega) (by omega) _).trans (rPlain_z _).symm, (z 3 (by omega) (by omega) _).trans (rPlain_z _).symm, fun q hq => (z 4 (by omega) (by omega) _).trans (rPlain_z _).symm⟩
  generalize (fun i => hI (pcF w.2.2.2 h 1 0) (hT h + i)) = ρ at ag0 ⊢
  refine g_astore_n (lv' := [(0, _), (1, _), (2, _)]) C (gd DX2_ofAct_0 5 rfl) [1, 2, 0] rfl (by decide) rfl ?_
  refine g_aload_n C (gd DX2_ofAct_0 6 rfl) 2 rfl rfl ?_
  refine g_getr (ci := 2) (k := 3) C rfl (by decide) rfl lf_TestJudge_Piece_25 ta.1.1 aw.1.1 (gd DX2_ofAct_0 7 rfl) ?_
  refine g_iconst (v := 0) C (gd DX2_ofAct_0 8 rfl) (by decide) ?_
  refine g_iload_n C (gd DX2_ofAct_0 9 rfl) 0 rfl rfl ?_
  refine g_isj (j := 0) C aw.2.1.1 aw.2.2.1 (by first | decide | omega) rfl (by omega) (gd DX2_ofAct_0 10 rfl) ?_
  rw [hP_i (by omega) (by omega)]
  refine g_aload_n C (gd DX2_ofAct_0 11 rfl) 2 rfl rfl ?_
  refine g_getr (ci := 2) (k := 4) C rfl (by decide) rfl lf_TestJudge_Piece_28 ta.1.1 aw.1.2.1 (gd DX2_ofAct_0 12 rfl) ?_
  refine g_iconst (v := 0) C (gd DX2_ofAct_0 13 rfl) (by decide) ?_
  refine g_iload_n C (gd DX2_ofAct_0 14 rfl) 1 rfl rfl ?_
  refine g_isj (j := 0) C aw.2.1.2.1 aw.2.2.2.1 (by first | decide | omega) rfl (by omega) (gd DX2_ofAct_0 15 rfl) ?_
  rw [hP_i (by omega) (by omega)]
  refine g_aload_n C (gd DX2_ofAct_0 16 rfl) 2 rfl rfl ?_
  refine g_getr (ci := 2) (k := 5) C rfl (by decide) rfl lf_TestJudge_Piece_31 ta.1.1 aw.1.2.2.1 (gd DX2_ofAct_0 17 rfl) ?_
  refine g_iconst (v := 0) C (gd DX2_ofAct_0 18 rfl) (by decide) ?_
  refine g_iload_n C (gd DX2_ofAct_0 19 rfl) 1 rfl rfl ?_
  refine g_isj (j := 0) C aw.2.1.2.2.1 aw.2.2.2.2.1 (by first | decide | omega) rfl (by omega) (gd DX2_ofAct_0 20 rfl) ?_
  rw [hP_i (by omega) (by omega)]
  refine g_aload_n C (gd DX2_ofAct_0 21 rfl) 2 rfl rfl ?_
  exact g_aret C (by omega) (by omega) ⟨hT h, rfl, Nat.le_refl _, hP_ext hExt_pcF, pcF_T.2, pcW_mk pcF_0.1 (fun _ => pcF_0.2) pcF_T.1 ta (fun _ => ((((ag0.u (by omega) (Or.inl ⟨rfl, rfl⟩) c (P := 0) (by omega)).u (by omega) (Or.inr (Or.inl ⟨rfl, rfl⟩)) al (P := 0) (by omega)).u (by omega) (Or.inr (Or.inr ⟨rfl, rfl⟩)) al (P := 0) (by omega)).q (fun k h1 _ _ => by simp only [rAct, upd, Nat.add_zero]; by_cases e : k = 0 <;> (try omega) <;> simp [e]) (by omega)))⟩ (gd DX2_ofAct_0 22 rfl)
theorem e_pc_sum {n b : Nat} {X Y : Nat → Int32} (px : pcW h x n X) (py : pcW h y b Y) (hw : n + b < 2 ^ 31) : Ev w 2 5 61 yX2_sum cX2_sum 3 (some (.object RX2)) [.ref x, .ref y] h (mkP h (n + b) (rSum X Y n b)) := by
  refine g_start (by decide) (Nat.le_of_ble_eq_true rfl) [(0, _), (1, _)] rfl (fun z hfl C => ?_)
  have kx : hK (sN h 3 0) x = 3 := by rw [((hExt_sN h 3 0).2 x px.2.1).2.2.2.1]; exact px.2.2.1.1.1
  have ky : hK (sN h 3 0) y = 3 := by rw [((hExt_sN h 3 0).2 y py.2.1).2.2.2.1]; exact py.2.2.1.1.1
  refine g_new (ci := 2) C rfl lc_TestJudge_Piece_8 lI_TestJudge_Piece li_TestJudge_Piece (by decide) (by decide) (gd DX2_sum_0 0 rfl) (gdv2) ?_
  refine g_dup C (gd DX2_sum_0 1 rfl) rfl ?_
  refine g_aload_n C (gd DX2_sum_0 2 rfl) 0 rfl rfl ?_
  refine g_geti (ci := 2) (k := 0) C rfl (by decide) rfl lf_TestJudge_Piece_7 kx (gd DX2_sum_0 3 rfl) ?_
  rw [((hExt_sN h 3 0).2 x px.2.1).1, px.1.1]
  refine g_aload_n C (gd DX2_sum_0 4 rfl) 1 rfl rfl ?_
  refine g_geti (ci := 2) (k := 0) C rfl (by decide) rfl lf_TestJudge_Piece_7 ky (gd DX2_sum_0 5 rfl) ?_
  rw [((hExt_sN h 3 0).2 y py.2.1).1, py.1.1]
  refine g_iadd C (gd DX2_sum_0 6 rfl) ?_
  refine g_aload_n C (gd DX2_sum_0 7 rfl) 0 rfl rfl ?_
  refine g_geti (ci := 2) (k := 1) C rfl (by decide) rfl lf_TestJudge_Piece_13 kx (gd DX2_sum_0 8 rfl) ?_
  rw [((hExt_sN h 3 0).2 x px.2.1).1]
  refine g_aload_n C (gd DX2_sum_0 9 rfl) 1 rfl rfl ?_
  refine g_geti (ci := 2) (k := 1) C rfl (by decide) rfl lf_TestJudge_Piece_13 ky (gd DX2_sum_0 10 rfl) ?_
  rw [((hExt_sN h 3 0).2 y py.2.1).1, show nI n + nI b = nI (n + b) from nx_add rfl rfl]
  refine g_ior C (gd DX2_sum_0 11 rfl) ?_
  refine g_cI C [_, _] mX2_init lm_TestJudge_Piece_37 (e_pc_init (n + b) hw _) hfl (by decide) (by decide) (by omega) (by omega) rfl rfl (Nat.le_of_ble_eq_true rfl) (gd DX2_sum_0 12 rfl) ?_
  have he : n + b ≤ 6 → hI h x 1 ||| hI h y 1 = rSum X Y n b 1 := fun q => by
    rw [px.1.2 (by omega), py.1.2 (by omega), rSum, if_pos (by omega)]; rfl
  generalize hI h x 1 ||| hI h y 1 = e at he ⊢
  have ta := @pcF_t w.2.2.2 h (n + b) e
  have px1 := px.ext (@hExt_pcF w.2.2.2 h (n + b) e)
  have py1 := py.ext (@hExt_pcF w.2.2.2 h (n + b) e)
  have dx : x < hT h ∧ (0 < szP n → x + 4 < hT h) := ⟨px.2.1, fun q => (px.2.2.1.2 q).2⟩
  have dy : y < hT h ∧ (0 < szP b → y + 4 < hT h) := ⟨py.2.1, fun q => (py.2.2.1.2 q).2⟩
  refine GW.cast rfl rfl (hP_self (h := pcF w.2.2.2 h (n + b) e) (a := hT h)).symm ?_
  have ag0 : agR (fun i => hI (pcF w.2.2.2 h (n + b) e) (hT h + i)) (szP (n + b)) (fun _ => 0) := by
    intro p hp
    have z : ∀ i, 1 ≤ i → i ≤ 4 → ∀ j, hI (pcF w.2.2.2 h (n + b) e) (hT h + i) j = 0 := fun i h1 h2 j => pcF_z (by omega) h1 h2 j
    exact ⟨z 1 (by omega) (by omega) _, z 2 (by omega) (by omega) _, z 3 (by omega) (by omega) _, fun q hq => z 4 (by omega) (by omega) _⟩
  generalize (fun i => hI (pcF w.2.2.2 h (n + b) e) (hT h + i)) = ρ at ag0 ⊢
  refine g_astore_n (lv' := [(0, _), (1, _), (2, _)]) C (gd DX2_sum_0 13 rfl) [1, 2, 0] rfl (by decide) rfl ?_
  refine g_aload_n C (gd DX2_sum_0 14 rfl) 2 rfl rfl ?_
  refine g_aload_n C (gd DX2_sum_0 15 rfl) 0 rfl rfl ?_
  refine g_iconst (v := 0) C (gd DX2_sum_0 16 rfl) (by decide) ?_
  refine g_callV (ci := 2) C [_, _] mX2_copyPlaces lm_TestJudge_Piece_40 (by exact ta.1.1) rfl rfl (e_pc_copy (o := 0) (Z := fun _ => 0) ta (szP_le _) px1.2.2 (szP_le _) dx (by omega) (fun _ => ag0)) hfl (by decide) (by decide) (by omega) (by omega) rfl rfl (Nat.le_of_ble_eq_true rfl) (gd DX2_sum_0 17 rfl) (fun r h2 hp => ?_)
  obtain ⟨rfl, ρ1, rfl, g1⟩ := hp
  show GW z w 3 _ _ _ _ _ [] _
  refine g_aload_n C (gd DX2_sum_0 18 rfl) 2 rfl rfl ?_
  refine g_aload_n C (gd DX2_sum_0 19 rfl) 1 rfl rfl ?_
  refine g_aload_n C (gd DX2_sum_0 20 rfl) 0 rfl rfl ?_
  refine g_geti (ci := 2) (k := 2) C rfl (by decide) rfl lf_TestJudge_Piece_16 px1.2.2.1.1.1 (gd DX2_sum_0 21 rfl) ?_
  rw [hP_ne (by omega), px1.2.2.1.1.2]
  have h6 := szP_le n
  refine g_callV (ci := 2) C [_, _] mX2_copyPlaces lm_TestJudge_Piece_40 (by exact ta.1.1) rfl rfl (e_pc_copy (o := szP n) (Z := cpZ (fun _ => 0) X 0 (szP n) (szP n) (szP n) 0) ta (szP_le _) py1.2.2 (szP_le _) dy (szP_le _) (fun q => g1 (by omega))) hfl (by decide) (by decide) (by omega) (by omega) rfl rfl (Nat.le_of_ble_eq_true rfl) (gd DX2_sum_0 22 rfl) (fun r h2 hp => ?_)
  obtain ⟨rfl, ρ2, rfl, g2⟩ := hp
  show GW z w 3 _ _ _ _ _ [] _
  refine g_aload_n C (gd DX2_sum_0 23 rfl) 2 rfl rfl ?_
  refine g_aret C (by omega) (by omega) ⟨hT h, rfl, Nat.le_refl _, hP_ext hExt_pcF, pcF_T.2, pcW_mk pcF_0.1 (fun q => pcF_0.2.trans (he q)) pcF_T.1 ta (fun q => ?_)⟩ (gd DX2_sum_0 24 rfl)
  rw [szP_s (n := n) (by omega), szP_s (n := b) (by omega), szP_s q] at g2
  refine (g2 (Nat.le_refl _)).q (fun k k1 k2 k3 => ?_) q
  rw [cpZ_bes X Y q k k1 k2 k3, rSum, if_pos (by omega), upd, if_neg (by omega)]
end C30
