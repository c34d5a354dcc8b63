/-! Piece: row, star -/
theorem joP_cg {B B' X Y : Nat → Int32} {a b p q k : Nat} (e : B k = B' k) : joP B X Y a b p q k = joP B' X Y a b p q k := by
  unfold joP
  rw [e]
theorem joQ_cg {J J' X Y : Nat → Int32} {a q k : Nat} (e : J k = J' k) : joQ J X Y a q k = joQ J' X Y a q k := by
  unfold joQ
  rw [e]
theorem stP_cg {R R' : Nat → Int32} {all : Int32} {a p q k : Nat} (e : R k = R' k) (e1 : 50 ≤ k → k < 306 → R (34 + (k - 50) / 16) = R' (34 + (k - 50) / 16) ∧ R (18 + (k - 50) % 16) = R' (18 + (k - 50) % 16)) : stP R all a p q k = stP R' all a p q k := by
  unfold stP
  by_cases c : k = 1
  · rw [if_pos c, if_pos c]
  rw [if_neg c, if_neg c]
  by_cases c2 : 50 ≤ k ∧ k < 306 ∧ (k - 50) % 16 < a ∧ ((k - 50) / 16 < p ∨ (k - 50) / 16 = p ∧ (k - 50) % 16 < q)
  · rw [if_pos c2, if_pos c2, e, (e1 c2.1 c2.2.1).1, (e1 c2.1 c2.2.1).2]
  · rw [if_neg c2, if_neg c2, e]
theorem upd_cm {f : Nat → Int32} {i j : Nat} {u v : Int32} (h : i ≠ j) : upd (upd f i u) j v = upd (upd f j v) i u := by
  funext k
  unfold upd
  by_cases e : k = j
  · rw [if_pos e, if_neg (by omega), if_pos e]
  · rw [if_neg e]
    by_cases e2 : k = i
    · rw [if_pos e2, if_pos e2]
    · rw [if_neg e2, if_neg e2, if_neg e]
section C31
variable {w : gD} {h : HS} {x y : Nat}
theorem e_pc_row {n b : Nat} {X Y : Nat → Int32} (px : pcW h x n X) (py : pcW h y b Y) (hw : n + b < 2 ^ 31) : Ev w 2 5 61 yX2_row cX2_row 5 (some (.object RX2)) [.ref x, .ref y] h (mkP h (n + b) (rJoin X Y n b)) := by
  refine g_start (by decide) (Nat.le_of_ble_eq_true rfl) [(0, _), (1, _)] rfl (fun z hfl C => ?_)
  have kx : hK (sN h 3 0) x = 3 := by rw [((hExt_sN h 3 0).2 x px.2.1).2.2.2.1]; exact px.2.2.1.1.1
  have ky : hK (sN h 3 0) y = 3 := by rw [((hExt_sN h 3 0).2 y py.2.1).2.2.2.1]; exact py.2.2.1.1.1
  refine g_new (ci := 2) C rfl lc_TestJudge_Piece_8 lI_TestJudge_Piece li_TestJudge_Piece (by decide) (by decide) (gd DX2_row_0 0 rfl) (gdv2) ?_
  refine g_dup C (gd DX2_row_0 1 rfl) rfl ?_
  refine g_aload_n C (gd DX2_row_0 2 rfl) 0 rfl rfl ?_
  refine g_geti (ci := 2) (k := 0) C rfl (by decide) rfl lf_TestJudge_Piece_7 kx (gd DX2_row_0 3 rfl) ?_
  rw [((hExt_sN h 3 0).2 x px.2.1).1, px.1.1]
  refine g_aload_n C (gd DX2_row_0 4 rfl) 1 rfl rfl ?_
  refine g_geti (ci := 2) (k := 0) C rfl (by decide) rfl lf_TestJudge_Piece_7 ky (gd DX2_row_0 5 rfl) ?_
  rw [((hExt_sN h 3 0).2 y py.2.1).1, py.1.1]
  refine g_iadd C (gd DX2_row_0 6 rfl) ?_
  refine g_aload_n C (gd DX2_row_0 7 rfl) 0 rfl rfl ?_
  refine g_geti (ci := 2) (k := 1) C rfl (by decide) rfl lf_TestJudge_Piece_13 kx (gd DX2_row_0 8 rfl) ?_
  rw [((hExt_sN h 3 0).2 x px.2.1).1]
  refine g_aload_n C (gd DX2_row_0 9 rfl) 1 rfl rfl ?_
  refine g_geti (ci := 2) (k := 1) C rfl (by decide) rfl lf_TestJudge_Piece_13 ky (gd DX2_row_0 10 rfl) ?_
  rw [((hExt_sN h 3 0).2 y py.2.1).1, show nI n + nI b = nI (n + b) from nx_add rfl rfl]
  refine g_iand C (gd DX2_row_0 11 rfl) ?_
  refine g_cI C [_, _] mX2_init lm_TestJudge_Piece_37 (e_pc_init (n + b) hw _) hfl (by decide) (by decide) (by omega) (by omega) rfl rfl (Nat.le_of_ble_eq_true rfl) (gd DX2_row_0 12 rfl) ?_
  have he : n + b ≤ 6 → hI h x 1 &&& hI h y 1 = rJoin X Y n b 1 := fun q => by
    rw [px.1.2 (by omega), py.1.2 (by omega), rJoin, if_pos (by omega), joQ, if_neg (by omega), joP, if_pos rfl]
  generalize hI h x 1 &&& hI h y 1 = e at he ⊢
  clear kx ky
  have ta := @pcF_t w.2.2.2 h (n + b) e
  have px1 := px.ext (@hExt_pcF w.2.2.2 h (n + b) e)
  have py1 := py.ext (@hExt_pcF w.2.2.2 h (n + b) e)
  have kx := px1.2.2.1.1.1
  have ky := py1.2.2.1.1.1
  have dx : x < hT h ∧ (0 < szP n → x + 4 < hT h) := ⟨px.2.1, fun q => (px.2.2.1.2 q).2⟩
  have dy : y < hT h ∧ (0 < szP b → y + 4 < hT h) := ⟨py.2.1, fun q => (py.2.2.1.2 q).2⟩
  have hs6 := szP_le n
  have ht6 := szP_le b
  have hN6 := szP_le (n + b)
  have fin : ∀ σ, (n + b ≤ 6 → agR σ (n + b) (rJoin X Y n b)) → mkP h (n + b) (rJoin X Y n b) (some (.ref (hT h))) (hP (pcF w.2.2.2 h (n + b) e) (hT h) σ) := fun σ g => ⟨hT h, rfl, Nat.le_refl _, hP_ext hExt_pcF, pcF_T.2, pcW_mk pcF_0.1 (fun q => pcF_0.2.trans (he q)) pcF_T.1 ta g⟩
  refine GW.cast rfl rfl (hP_self (h := pcF w.2.2.2 h (n + b) e) (a := hT h)).symm ?_
  have ag0 : agR (fun i => hI (pcF w.2.2.2 h (n + b) e) (hT h + i)) (szP (n + b)) (fun _ => 0) := by
    intro p hp
    have z : ∀ i, 1 ≤ i → i ≤ 4 → ∀ j, hI (pcF w.2.2.2 h (n + b) e) (hT h + i) j = 0 := fun i h1 h2 j => pcF_z (by omega) h1 h2 j
    exact ⟨z 1 (by omega) (by omega) _, z 2 (by omega) (by omega) _, z 3 (by omega) (by omega) _, fun q hq => z 4 (by omega) (by omega) _⟩
  generalize (fun i => hI (pcF w.2.2.2 h (n + b) e) (hT h + i)) = ρ at ag0 ⊢
  have x2e : ∀ σ, hI (hP (pcF w.2.2.2 h (n + b) e) (hT h) σ) x 2 = nI (szP n) := fun σ => by rw [hP_ne (by omega), px1.2.2.1.1.2]
  have y2e : ∀ σ, hI (hP (pcF w.2.2.2 h (n + b) e) (hT h) σ) y 2 = nI (szP b) := fun σ => by rw [hP_ne (by omega), py1.2.2.1.1.2]
  have a2e : ∀ σ, hI (hP (pcF w.2.2.2 h (n + b) e) (hT h) σ) (hT h) 2 = nI (szP (n + b)) := fun σ => by rw [hP_ne (by omega), ta.1.2]
  have x1e : ∀ σ, n ≤ 6 → hI (hP (pcF w.2.2.2 h (n + b) e) (hT h) σ) x 1 = X 1 := fun σ q => by rw [hP_ne (by omega), px1.1.2 q]
  have y1e : ∀ σ, b ≤ 6 → hI (hP (pcF w.2.2.2 h (n + b) e) (hT h) σ) y 1 = Y 1 := fun σ q => by rw [hP_ne (by omega), py1.1.2 q]
  refine g_astore_n (lv' := [(0, _), (1, _), (2, _)]) C (gd DX2_row_0 13 rfl) [1, 2, 0] rfl (by decide) rfl ?_
  refine g_aload_n C (gd DX2_row_0 14 rfl) 2 rfl rfl ?_
  refine g_geti (ci := 2) (k := 2) C rfl (by decide) rfl lf_TestJudge_Piece_16 ta.1.1 (gd DX2_row_0 15 rfl) ?_
  rw [a2e]
  refine g_aload_n C (gd DX2_row_0 16 rfl) 0 rfl rfl ?_
  refine g_geti (ci := 2) (k := 2) C rfl (by decide) rfl lf_TestJudge_Piece_16 kx (gd DX2_row_0 17 rfl) ?_
  rw [x2e]
  refine g_aload_n C (gd DX2_row_0 18 rfl) 1 rfl rfl ?_
  refine g_geti (ci := 2) (k := 2) C rfl (by decide) rfl lf_TestJudge_Piece_16 ky (gd DX2_row_0 19 rfl) ?_
  rw [y2e]
  refine g_iadd C (gd DX2_row_0 20 rfl) ?_
  rw [show nI (szP n) + nI (szP b) = nI (szP n + szP b) from nx_add rfl rfl]
  refine g_icmp_eq C 44 (gd DX2_row_0 21 rfl) (by decide) (fun c39 => ?_) (fun c39 => ?_)
  rotate_left
  · refine g_aload_n C (gd DX2_row_0 22 rfl) 2 rfl rfl ?_
    refine g_aret C (by omega) (by omega) (fin ρ (fun q => absurd ?_ c39)) (gd DX2_row_0 23 rfl)
    rw [szP_s q, szP_s (n := n) (by omega), szP_s (n := b) (by omega)]
  have hN := (nI_eq (by omega) (by omega)).mp c39
  refine g_aload_n C (gd DX2_row_0 24 rfl) 2 rfl rfl ?_
  refine g_aload_n C (gd DX2_row_0 25 rfl) 0 rfl rfl ?_
  refine g_iconst (v := 0) C (gd DX2_row_0 26 rfl) (by decide) ?_
  refine g_callV (ci := 2) C [_, _] mX2_copyPlaces lm_TestJudge_Piece_40 (by exact ta.1.1) rfl rfl (e_pc_copy (o := 0) (Z := fun _ => 0) ta (szP_le _) px1.2.2 (szP_le _) dx (by omega) (fun _ => ag0)) hfl (by decide) (by decide) (by omega) (by omega) rfl rfl (Nat.le_of_ble_eq_true rfl) (gd DX2_row_0 27 rfl) (fun r h2 hp => ?_)
  obtain ⟨rfl, ρ1, rfl, g1⟩ := hp
  show GW z w 5 _ _ _ _ _ [] _
  refine g_aload_n C (gd DX2_row_0 28 rfl) 2 rfl rfl ?_
  refine g_aload_n C (gd DX2_row_0 29 rfl) 1 rfl rfl ?_
  refine g_aload_n C (gd DX2_row_0 30 rfl) 0 rfl rfl ?_
  refine g_geti (ci := 2) (k := 2) C rfl (by decide) rfl lf_TestJudge_Piece_16 kx (gd DX2_row_0 31 rfl) ?_
  rw [x2e]
  refine g_callV (ci := 2) C [_, _] mX2_copyPlaces lm_TestJudge_Piece_40 (by exact ta.1.1) rfl rfl (e_pc_copy (o := szP n) (Z := cpZ (fun _ => 0) X 0 (szP n) (szP n) (szP n) 0) ta (szP_le _) py1.2.2 (szP_le _) dy (szP_le _) (fun q => g1 (by omega))) hfl (by decide) (by decide) (by omega) (by omega) rfl rfl (Nat.le_of_ble_eq_true rfl) (gd DX2_row_0 32 rfl) (fun r h2 hp => ?_)
  obtain ⟨rfl, ρ2, rfl, g2⟩ := hp
  show GW z w 5 _ _ _ _ _ [] _
  have w6 : 0 < szP n ∨ 0 < szP b → n + b ≤ 6 := fun q => Nat.not_lt.mp (fun q2 => by rw [szP_h q2] at hN; omega)
  have sn : n + b ≤ 6 → szP n = n ∧ szP b = b := fun q => ⟨szP_s (by omega), szP_s (by omega)⟩
  rw [hN] at ta g1 g2 a2e hN6
  have g2' := g2 (Nat.le_refl _)
  have fin2 : ∀ σ, agR σ (szP n + szP b) (joQ (joP (cpZ (cpZ (fun _ => 0) X 0 (szP n) (szP n) (szP n) 0) Y (szP n) (szP b) (szP b) (szP b) 0) X Y (szP n) (szP b) (szP n) (szP n)) X Y (szP n) (szP n + szP b)) → mkP h (n + b) (rJoin X Y n b) (some (.ref (hT h))) (hP (pcF w.2.2.2 h (n + b) e) (hT h) σ) := by
    intro σ g
    refine fin σ (fun q => ?_)
    obtain ⟨e1, e2⟩ := sn q
    rw [e1, e2] at g
    refine g.q (fun k k1 k2 k3 => ?_) q
    rw [rJoin, if_pos (by omega)]
    exact joQ_cg (joP_cg (cpZ_bes X Y q k k1 k2 k3))
  have z34 : ∀ p q', p < szP n → joP (cpZ (cpZ (fun _ => 0) X 0 (szP n) (szP n) (szP n) 0) Y (szP n) (szP b) (szP b) (szP b) 0) X Y (szP n) (szP b) p q' (34 + p) = X (34 + p) := fun p q' hp => by
    rw [joP, if_neg (by omega), if_neg (by omega), if_neg (by omega), cpZ, if_pos (by omega), if_neg (by omega), cpZ, if_pos (by omega), if_pos (by omega), Nat.sub_zero]
  have z18 : ∀ q, q < szP b → joQ (joP (cpZ (cpZ (fun _ => 0) X 0 (szP n) (szP n) (szP n) 0) Y (szP n) (szP b) (szP b) (szP b) 0) X Y (szP n) (szP b) (szP n) (szP n)) X Y (szP n) (szP n + q) (18 + (szP n + q)) = Y (18 + q) := fun q hq => by
    rw [joQ, if_neg (by omega), joP, if_neg (by omega), if_neg (by omega), if_neg (by omega), cpZ, if_pos (by omega), if_pos (by omega)]
    congr 1
    omega
  generalize cpZ (cpZ (fun _ => 0) X 0 (szP n) (szP n) (szP n) 0) Y (szP n) (szP b) (szP b) (szP b) 0 = Z at g2' fin2 z34 z18
  have third : ∀ y2 q (σ : Nat → Nat → Int32), q + y2 = szP b → agR σ (szP n + szP b) (joQ (joP Z X Y (szP n) (szP b) (szP n) (szP n)) X Y (szP n) (szP n + q)) → GW z w 5 (gQ z w 5 61 (fun r' h'' => mkP h (n + b) (rJoin X Y n b) r' h'')) 5 61 141 [(0, .ref x), (1, .ref y), (2, .ref (hT h)), (3, .int (nI q))] [] (hP (pcF w.2.2.2 h (n + b) e) (hT h) σ) := by
    intro y2
    induction y2 with
    | zero =>
      intro q σ hq g
      have eq : q = szP b := by omega
      refine g_iload_n C (gd DX2_row_1 21 rfl) 3 rfl rfl ?_
      refine g_aload_n C (gd DX2_row_1 22 rfl) 1 rfl rfl ?_
      refine g_geti (ci := 2) (k := 2) C rfl (by decide) rfl lf_TestJudge_Piece_16 ky (gd DX2_row_1 23 rfl) ?_
      rw [y2e]
      refine g_icmp_ge C 173 (gd DX2_row_1 24 rfl) (by decide) (fun c146 => ?_) (fun c146 => ?_)
      · refine g_aload_n C (gd DX2_row_1 39 rfl) 2 rfl rfl ?_
        refine g_aret C (by omega) (by omega) (fin2 σ ?_) (gd DX2_row_1 40 rfl)
        rw [eq] at g
        exact g
      · exact absurd (nI_le (by omega) (by omega)) c146
    | succ y2 ih =>
      intro q σ hq g
      have n6 := w6 (Or.inr (by omega))
      have aw := (ta.2 (by omega)).1
      have hq2 : 18 + (szP n + q) < 50 := by omega
      refine g_iload_n C (gd DX2_row_1 21 rfl) 3 rfl rfl ?_
      refine g_aload_n C (gd DX2_row_1 22 rfl) 1 rfl rfl ?_
      refine g_geti (ci := 2) (k := 2) C rfl (by decide) rfl lf_TestJudge_Piece_16 ky (gd DX2_row_1 23 rfl) ?_
      rw [y2e]
      refine g_icmp_ge C 173 (gd DX2_row_1 24 rfl) (by decide) (fun c146 => ?_) (fun c146 => ?_)
      · exact absurd c146 (nI_ge (by omega) (by omega))
      · refine g_aload_n C (gd DX2_row_1 25 rfl) 2 rfl rfl ?_
        refine g_getr (ci := 2) (k := 4) C rfl (by decide) rfl lf_TestJudge_Piece_28 ta.1.1 aw.1.2.1 (gd DX2_row_1 26 rfl) ?_
        refine g_aload_n C (gd DX2_row_1 27 rfl) 0 rfl rfl ?_
        refine g_geti (ci := 2) (k := 2) C rfl (by decide) rfl lf_TestJudge_Piece_16 kx (gd DX2_row_1 28 rfl) ?_
        rw [x2e]
        refine g_iload_n C (gd DX2_row_1 29 rfl) 3 rfl rfl ?_
        refine g_iadd C (gd DX2_row_1 30 rfl) ?_
        refine g_dup2 C (gd DX2_row_1 31 rfl) rfl rfl ?_
        refine g_iaj (j := szP n + q) C aw.2.1.2.1 aw.2.2.2.1 (by omega) (nx_add rfl rfl) (by omega) (gd DX2_row_1 32 rfl) ?_
        rw [hP_at (by omega) (by omega), (g (szP n + q) (by omega)).2.1, z18 q (by omega)]
        refine g_aload_n C (gd DX2_row_1 33 rfl) 0 rfl rfl ?_
        refine g_geti (ci := 2) (k := 1) C rfl (by decide) rfl lf_TestJudge_Piece_13 kx (gd DX2_row_1 34 rfl) ?_
        rw [x1e _ (by omega)]
        refine g_iand C (gd DX2_row_1 35 rfl) ?_
        refine g_isj (j := szP n + q) C aw.2.1.2.1 aw.2.2.2.1 (by omega) (nx_add rfl rfl) (by omega) (gd DX2_row_1 36 rfl) ?_
        rw [hP_i (by omega) (by omega)]
        refine g_iinc (lv' := [(0, _), (1, _), (2, _), (3, _)]) C (gd DX2_row_1 37 rfl) 3 [1, 2, 3, 0] rfl rfl (by decide) rfl ?_
        refine g_goto (tgt := 141) C (gd DX2_row_1 38 rfl) (by decide) ?_
        refine GW.cast (by rw [inc1]) rfl rfl (ih (q + 1) _ (by omega) ?_)
        refine (g.u hN6 (Or.inr (Or.inl ⟨rfl, rfl⟩)) (Y (18 + q) &&& X 1) (P := szP n + q) (by omega)).cg ?_
        have hst := joQ_s (joP Z X Y (szP n) (szP b) (szP n) (szP n)) X Y (a := szP n) (q := szP n + q) (by omega)
        rw [show 18 + (szP n + q) - szP n = 18 + q by omega, Int32.and_comm] at hst
        exact hst
  have outer : ∀ y1 p (σ : Nat → Nat → Int32), p + y1 = szP n → agR σ (szP n + szP b) (joP Z X Y (szP n) (szP b) p (szP n)) → GW z w 5 (gQ z w 5 61 (fun r' h'' => mkP h (n + b) (rJoin X Y n b) r' h'')) 5 61 61 [(0, .ref x), (1, .ref y), (2, .ref (hT h)), (3, .int (nI p))] [] (hP (pcF w.2.2.2 h (n + b) e) (hT h) σ) := by
    intro y1
    induction y1 with
    | zero =>
      intro p σ hp g
      have ep : p = szP n := by omega
      refine g_iload_n C (gd DX2_row_0 35 rfl) 3 rfl rfl ?_
      refine g_aload_n C (gd DX2_row_0 36 rfl) 0 rfl rfl ?_
      refine g_geti (ci := 2) (k := 2) C rfl (by decide) rfl lf_TestJudge_Piece_16 kx (gd DX2_row_0 37 rfl) ?_
      rw [x2e]
      refine g_icmp_ge C 139 (gd DX2_row_0 38 rfl) (by decide) (fun c66 => ?_) (fun c66 => ?_)
      · refine GW.sub [0, 1, 2, 3] rfl (Nat.le_refl _) (Nat.le_refl _) (lv' := [(0, _), (1, _), (2, _), (3, _)]) ?_
        refine g_iconst (v := 0) C (gd DX2_row_1 19 rfl) (by decide) ?_
        refine g_istore_n (lv' := [(0, _), (1, _), (2, _), (3, _)]) C (gd DX2_row_1 20 rfl) [1, 2, 3, 0] rfl (by decide) rfl ?_
        refine third (szP b) 0 σ (by omega) ?_
        rw [Nat.add_zero, joQ_0]
        rw [ep] at g
        exact g
      · exact absurd (nI_le (by omega) (by omega)) c66
    | succ y1 ih =>
      intro p σ hp g
      have n6 := w6 (Or.inl (by omega))
      have aw := (ta.2 (by omega)).1
      have xw := (px1.2.2.1.2 (by omega)).1
      have hxa := dx.2 (by omega)
      have xr := px1.2.2.2 p (by omega)
      have inner : ∀ y2 q (σ : Nat → Nat → Int32), q + y2 = szP b → agR σ (szP n + szP b) (upd (joP Z X Y (szP n) (szP b) p (szP n + q)) (34 + p) (X (34 + p) &&& Y 1)) → GW z w 5 (gQ z w 5 61 (fun r' h'' => mkP h (n + b) (rJoin X Y n b) r' h'')) 5 61 85 [(0, .ref x), (1, .ref y), (2, .ref (hT h)), (3, .int (nI p)), (4, .int (nI q))] [] (hP (pcF w.2.2.2 h (n + b) e) (hT h) σ) := by
        intro y2
        induction y2 with
        | zero =>
          intro q σ hq g
          have eq : q = szP b := by omega
          subst eq
          refine g_iload C (gd DX2_row_0 50 rfl) 4 rfl ?_
          refine g_aload_n C (gd DX2_row_0 51 rfl) 1 rfl rfl ?_
          refine g_geti (ci := 2) (k := 2) C rfl (by decide) rfl lf_TestJudge_Piece_16 ky (gd DX2_row_0 52 rfl) ?_
          rw [y2e]
          refine g_icmp_ge C 133 (gd DX2_row_0 53 rfl) (by decide) (fun c91 => ?_) (fun c91 => ?_)
          · refine GW.sub [0, 1, 2, 3, 4] rfl (Nat.le_refl _) (Nat.le_refl _) (lv' := [(0, _), (1, _), (2, _), (3, _), (4, _)]) ?_
            refine g_iinc (lv' := [(0, _), (1, _), (2, _), (3, _), (4, _)]) C (gd DX2_row_1 17 rfl) 3 [1, 2, 3, 0, 4] rfl rfl (by decide) rfl ?_
            refine g_goto (tgt := 61) C (gd DX2_row_1 18 rfl) (by decide) ?_
            refine GW.sub [0, 1, 2, 3] rfl (Nat.le_refl _) (Nat.le_refl _) (lv' := [(0, _), (1, _), (2, _), (3, _)]) ?_
            refine GW.cast (by rw [inc1]) rfl rfl (ih (p + 1) σ (by omega) (g.cg (joP_row Z X Y (by omega) (by omega))))
          · exact absurd (nI_le (Nat.le_refl _) (by omega)) c91
        | succ y2 ih2 =>
          intro q σ hq g
          have yw := (py1.2.2.1.2 (by omega)).1
          have hya := dy.2 (by omega)
          have yr := py1.2.2.2 q (by omega)
          refine g_iload C (gd DX2_row_0 50 rfl) 4 rfl ?_
          refine g_aload_n C (gd DX2_row_0 51 rfl) 1 rfl rfl ?_
          refine g_geti (ci := 2) (k := 2) C rfl (by decide) rfl lf_TestJudge_Piece_16 ky (gd DX2_row_0 52 rfl) ?_
          rw [y2e]
          refine g_icmp_ge C 133 (gd DX2_row_0 53 rfl) (by decide) (fun c91 => ?_) (fun c91 => ?_)
          · exact absurd c91 (nI_ge (by omega) (by omega))
          · refine g_aload_n C (gd DX2_row_0 54 rfl) 2 rfl rfl ?_
            refine g_getr (ci := 2) (k := 6) C rfl (by decide) rfl lf_TestJudge_Piece_34 ta.1.1 aw.1.2.2.2 (gd DX2_row_0 55 rfl) ?_
            refine g_iload_n C (gd DX2_row_0 56 rfl) 3 rfl rfl ?_
            refine g_aload_n C (gd DX2_row_0 57 rfl) 2 rfl rfl ?_
            refine g_geti (ci := 2) (k := 2) C rfl (by decide) rfl lf_TestJudge_Piece_16 ta.1.1 (gd DX2_row_0 58 rfl) ?_
            rw [a2e]
            refine g_imul C (gd DX2_row_0 59 rfl) ?_
            refine g_aload_n C (gd DX2_row_1 0 rfl) 0 rfl rfl ?_
            refine g_geti (ci := 2) (k := 2) C rfl (by decide) rfl lf_TestJudge_Piece_16 kx (gd DX2_row_1 1 rfl) ?_
            rw [x2e]
            refine g_iadd C (gd DX2_row_1 2 rfl) ?_
            refine g_iload C (gd DX2_row_1 3 rfl) 4 rfl ?_
            refine g_iadd C (gd DX2_row_1 4 rfl) ?_
            refine g_aload_n C (gd DX2_row_1 5 rfl) 0 rfl rfl ?_
            refine g_getr (ci := 2) (k := 5) C rfl (by decide) rfl lf_TestJudge_Piece_31 kx xw.1.2.2.1 (gd DX2_row_1 6 rfl) ?_
            refine g_iload_n C (gd DX2_row_1 7 rfl) 3 rfl rfl ?_
            refine g_iaj (j := p) C xw.2.1.2.2.1 xw.2.2.2.2.1 (by first | decide | omega) rfl (by omega) (gd DX2_row_1 8 rfl) ?_
            rw [hP_ne (by omega), xr.2.2.1]
            refine g_aload_n C (gd DX2_row_1 9 rfl) 1 rfl rfl ?_
            refine g_getr (ci := 2) (k := 4) C rfl (by decide) rfl lf_TestJudge_Piece_28 ky yw.1.2.1 (gd DX2_row_1 10 rfl) ?_
            refine g_iload C (gd DX2_row_1 11 rfl) 4 rfl ?_
            refine g_iaj (j := q) C yw.2.1.2.1 yw.2.2.2.1 (by omega) rfl (by omega) (gd DX2_row_1 12 rfl) ?_
            rw [hP_ne (by omega), yr.2.1]
            refine g_iand C (gd DX2_row_1 13 rfl) ?_
            refine g_isj (j := p * (szP n + szP b) + (szP n + q)) C aw.2.1.2.2.2 aw.2.2.2.2.2 (Nat.lt_of_le_of_lt (Nat.mul_le_mul hN6 hN6) (by decide)) (by rw [show p * (szP n + szP b) + (szP n + q) = p * (szP n + szP b) + szP n + q by omega]; exact nx_add (nx_add (nx_mul rfl rfl) rfl) rfl) (ix_lt (by omega) (by omega)) (gd DX2_row_1 14 rfl) ?_
            rw [hP_i (by omega) (by omega)]
            refine g_iinc (lv' := [(0, _), (1, _), (2, _), (3, _), (4, _)]) C (gd DX2_row_1 15 rfl) 4 [1, 2, 3, 4, 0] rfl rfl (by decide) rfl ?_
            refine g_goto (tgt := 85) C (gd DX2_row_1 16 rfl) (by decide) ?_
            refine GW.cast (by rw [inc1]) rfl rfl (ih2 (q + 1) _ (by omega) ?_)
            refine (g.u4 hN6 (X (34 + p) &&& Y (18 + q)) (P := p) (Q := szP n + q) (by omega) (by omega)).cg ?_
            have hst := joP_s Z X Y (a := szP n) (b := szP b) (p := p) (q := szP n + q) (by omega) (by omega) (by omega) (by omega)
            rw [show 18 + (szP n + q) - szP n = 18 + q by omega] at hst
            rw [upd_cm (by omega), hst]
            rfl
      refine g_iload_n C (gd DX2_row_0 35 rfl) 3 rfl rfl ?_
      refine g_aload_n C (gd DX2_row_0 36 rfl) 0 rfl rfl ?_
      refine g_geti (ci := 2) (k := 2) C rfl (by decide) rfl lf_TestJudge_Piece_16 kx (gd DX2_row_0 37 rfl) ?_
      rw [x2e]
      refine g_icmp_ge C 139 (gd DX2_row_0 38 rfl) (by decide) (fun c66 => ?_) (fun c66 => ?_)
      · exact absurd c66 (nI_ge (by omega) (by omega))
      · refine g_aload_n C (gd DX2_row_0 39 rfl) 2 rfl rfl ?_
        refine g_getr (ci := 2) (k := 5) C rfl (by decide) rfl lf_TestJudge_Piece_31 ta.1.1 aw.1.2.2.1 (gd DX2_row_0 40 rfl) ?_
        refine g_iload_n C (gd DX2_row_0 41 rfl) 3 rfl rfl ?_
        refine g_dup2 C (gd DX2_row_0 42 rfl) rfl rfl ?_
        refine g_iaj (j := p) C aw.2.1.2.2.1 aw.2.2.2.2.1 (by omega) rfl (by omega) (gd DX2_row_0 43 rfl) ?_
        rw [hP_at (by omega) (by omega), (g p (by omega)).2.2.1, z34 p _ (by omega)]
        refine g_aload_n C (gd DX2_row_0 44 rfl) 1 rfl rfl ?_
        refine g_geti (ci := 2) (k := 1) C rfl (by decide) rfl lf_TestJudge_Piece_13 ky (gd DX2_row_0 45 rfl) ?_
        rw [y1e _ (by omega)]
        refine g_iand C (gd DX2_row_0 46 rfl) ?_
        refine g_isj (j := p) C aw.2.1.2.2.1 aw.2.2.2.2.1 (by omega) rfl (by omega) (gd DX2_row_0 47 rfl) ?_
        rw [hP_i (by omega) (by omega)]
        refine g_iconst (v := 0) C (gd DX2_row_0 48 rfl) (by decide) ?_
        refine g_istore (lv' := [(0, _), (1, _), (2, _), (3, _), (4, _)]) C (gd DX2_row_0 49 rfl) [1, 2, 3, 4, 0] (by decide) rfl ?_
        exact inner (szP b) 0 _ (by omega) (g.u hN6 (Or.inr (Or.inr ⟨rfl, rfl⟩)) (X (34 + p) &&& Y 1) (P := p) (by omega))
  refine g_iconst (v := 0) C (gd DX2_row_0 33 rfl) (by decide) ?_
  refine g_istore_n (lv' := [(0, _), (1, _), (2, _), (3, _)]) C (gd DX2_row_0 34 rfl) [1, 2, 3, 0] rfl (by decide) rfl ?_
  refine outer (szP n) 0 ρ2 (by omega) (g2'.q (fun k k1 _ _ => ?_) hN6)
  rw [← joP_0, upd, if_neg (by omega)]
theorem e_pc_star {n : Nat} {X : Nat → Int32} (px : pcW h x n X) (al : Int32) (hw : n < 2 ^ 31) : Ev w 2 5 61 yX2_star cX2_star 5 (some (.object RX2)) [.ref x, .int al] h (mkP h n (rStar X n al)) := by
  refine g_start (by decide) (Nat.le_of_ble_eq_true rfl) [(0, _), (1, _)] rfl (fun z hfl C => ?_)
  have kx : hK (sN h 3 0) x = 3 := by rw [((hExt_sN h 3 0).2 x px.2.1).2.2.2.1]; exact px.2.2.1.1.1
  refine g_new (ci := 2) C rfl lc_TestJudge_Piece_8 lI_TestJudge_Piece li_TestJudge_Piece (by decide) (by decide) (gd DX2_star_0 0 rfl) (gdv2) ?_
  refine g_dup C (gd DX2_star_0 1 rfl) rfl ?_
  refine g_aload_n C (gd DX2_star_0 2 rfl) 0 rfl rfl ?_
  refine g_geti (ci := 2) (k := 0) C rfl (by decide) rfl lf_TestJudge_Piece_7 kx (gd DX2_star_0 3 rfl) ?_
  rw [((hExt_sN h 3 0).2 x px.2.1).1, px.1.1]
  refine g_iload_n C (gd DX2_star_0 4 rfl) 1 rfl rfl ?_
  refine g_cI C [_, _] mX2_init lm_TestJudge_Piece_37 (e_pc_init n hw _) hfl (by decide) (by decide) (by omega) (by omega) rfl rfl (Nat.le_of_ble_eq_true rfl) (gd DX2_star_0 5 rfl) ?_
  clear kx
  have ta := @pcF_t w.2.2.2 h n al
  have px1 := px.ext (@hExt_pcF w.2.2.2 h n al)
  have kx := px1.2.2.1.1.1
  have dx : x < hT h ∧ (0 < szP n → x + 4 < hT h) := ⟨px.2.1, fun q => (px.2.2.1.2 q).2⟩
  have hs6 := szP_le n
  have w6 : 0 < szP n → n ≤ 6 := fun q => Nat.not_lt.mp (fun q2 => by rw [szP_h q2] at q; omega)
  refine GW.cast rfl rfl (hP_self (h := pcF w.2.2.2 h n al) (a := hT h)).symm ?_
  have ag0 : agR (fun i => hI (pcF w.2.2.2 h n al) (hT h + i)) (szP n) (fun _ => 0) := by
    intro p hp
    have z : ∀ i, 1 ≤ i → i ≤ 4 → ∀ j, hI (pcF w.2.2.2 h n al) (hT h + i) j = 0 := fun i h1 h2 j => pcF_z (by omega) h1 h2 j
    exact ⟨z 1 (by omega) (by omega) _, z 2 (by omega) (by omega) _, z 3 (by omega) (by omega) _, fun q hq => z 4 (by omega) (by omega) _⟩
  generalize (fun i => hI (pcF w.2.2.2 h n al) (hT h + i)) = ρ at ag0 ⊢
  have x2e : ∀ σ, hI (hP (pcF w.2.2.2 h n al) (hT h) σ) x 2 = nI (szP n) := fun σ => by rw [hP_ne (by omega), px1.2.2.1.1.2]
  refine g_astore_n (lv' := [(0, _), (1, _), (2, _)]) C (gd DX2_star_0 6 rfl) [1, 2, 0] rfl (by decide) rfl ?_
  refine g_aload_n C (gd DX2_star_0 7 rfl) 2 rfl rfl ?_
  refine g_aload_n C (gd DX2_star_0 8 rfl) 0 rfl rfl ?_
  refine g_iconst (v := 0) C (gd DX2_star_0 9 rfl) (by decide) ?_
  refine g_callV (ci := 2) C [_, _] mX2_copyPlaces lm_TestJudge_Piece_40 (by exact ta.1.1) rfl rfl (e_pc_copy (o := 0) (Z := fun _ => 0) ta (szP_le _) px1.2.2 (szP_le _) dx (by omega) (fun _ => ag0)) hfl (by decide) (by decide) (by omega) (by omega) rfl rfl (Nat.le_of_ble_eq_true rfl) (gd DX2_star_0 10 rfl) (fun r h2 hp => ?_)
  obtain ⟨rfl, ρ1, rfl, g1⟩ := hp
  show GW z w 5 _ _ _ _ _ [] _
  have g1' := g1 (by omega)
  have zr : ∀ k, 2 ≤ k → (k < 50 → (k - 2) % 16 < szP n) → (50 ≤ k → (k - 50) / 16 < szP n ∧ (k - 50) % 16 < szP n) → cpZ (fun _ => 0) X 0 (szP n) (szP n) (szP n) 0 k = X k := by
    intro k k1 k2 k3
    unfold cpZ
    by_cases e : k < 50
    · have := k2 e
      rw [if_pos e, if_pos (by omega), Nat.sub_zero]
    · have := k3 (by omega)
      rw [if_neg e, if_pos (by omega)]
      rfl
  have fin : ∀ σ, agR σ (szP n) (stP (cpZ (fun _ => 0) X 0 (szP n) (szP n) (szP n) 0) al (szP n) (szP n) 0) → mkP h n (rStar X n al) (some (.ref (hT h))) (hP (pcF w.2.2.2 h n al) (hT h) σ) := by
    intro σ g
    refine ⟨hT h, rfl, Nat.le_refl _, hP_ext hExt_pcF, pcF_T.2, pcW_mk pcF_0.1 (fun q => pcF_0.2.trans ?_) pcF_T.1 ta (fun q => ?_)⟩
    · rw [rStar, if_pos (by omega), stP, if_pos rfl]
    · rw [szP_s q] at g
      refine g.q (fun k k1 k2 k3 => ?_) q
      rw [szP_s q] at zr
      rw [rStar, if_pos (by omega)]
      refine stP_cg (zr k k1 k2 k3) (fun q1 q2 => ?_)
      have := k3 q1
      exact ⟨zr _ (by omega) (fun _ => by omega) (fun _ => by omega), zr _ (by omega) (fun _ => by omega) (fun _ => by omega)⟩
  have z34 : ∀ p q p', p' < szP n → stP (cpZ (fun _ => 0) X 0 (szP n) (szP n) (szP n) 0) al (szP n) p q (34 + p') = X (34 + p') := fun p q p' hp => by
    rw [stP, if_neg (by omega), if_neg (by omega), zr _ (by omega) (fun _ => by omega) (fun _ => by omega)]
  have z18 : ∀ p q p', p' < szP n → stP (cpZ (fun _ => 0) X 0 (szP n) (szP n) (szP n) 0) al (szP n) p q (18 + p') = X (18 + p') := fun p q p' hp => by
    rw [stP, if_neg (by omega), if_neg (by omega), zr _ (by omega) (fun _ => by omega) (fun _ => by omega)]
  generalize cpZ (fun _ => 0) X 0 (szP n) (szP n) (szP n) 0 = Z at g1' fin z34 z18
  have outer : ∀ y1 p (σ : Nat → Nat → Int32), p + y1 = szP n → agR σ (szP n) (stP Z al (szP n) p 0) → GW z w 5 (gQ z w 5 61 (fun r' h'' => mkP h n (rStar X n al) r' h'')) 5 61 21 [(0, .ref x), (1, .int al), (2, .ref (hT h)), (3, .int (nI p))] [] (hP (pcF w.2.2.2 h n al) (hT h) σ) := by
    intro y1
    induction y1 with
    | zero =>
      intro p σ hp g
      have ep : p = szP n := by omega
      refine g_iload_n C (gd DX2_star_0 13 rfl) 3 rfl rfl ?_
      refine g_aload_n C (gd DX2_star_0 14 rfl) 0 rfl rfl ?_
      refine g_geti (ci := 2) (k := 2) C rfl (by decide) rfl lf_TestJudge_Piece_16 kx (gd DX2_star_0 15 rfl) ?_
      rw [x2e]
      refine g_icmp_ge C 84 (gd DX2_star_0 16 rfl) (by decide) (fun c26 => ?_) (fun c26 => ?_)
      · refine g_aload_n C (gd DX2_star_0 48 rfl) 2 rfl rfl ?_
        refine g_aret C (by omega) (by omega) (fin σ ?_) (gd DX2_star_0 49 rfl)
        rw [ep] at g
        exact g
      · exact absurd (nI_le (by omega) (by omega)) c26
    | succ y1 ih =>
      intro p σ hp g
      have n6 := w6 (by omega)
      have aw := (ta.2 (by omega)).1
      have xw := (px1.2.2.1.2 (by omega)).1
      have hxa := dx.2 (by omega)
      have inner : ∀ y2 q (σ : Nat → Nat → Int32), q + y2 = szP n → agR σ (szP n) (stP Z al (szP n) p q) → GW z w 5 (gQ z w 5 61 (fun r' h'' => mkP h n (rStar X n al) r' h'')) 5 61 32 [(0, .ref x), (1, .int al), (2, .ref (hT h)), (3, .int (nI p)), (4, .int (nI q))] [] (hP (pcF w.2.2.2 h n al) (hT h) σ) := by
        intro y2
        induction y2 with
        | zero =>
          intro q σ hq g
          have eq : q = szP n := by omega
          subst eq
          refine g_iload C (gd DX2_star_0 19 rfl) 4 rfl ?_
          refine g_aload_n C (gd DX2_star_0 20 rfl) 0 rfl rfl ?_
          refine g_geti (ci := 2) (k := 2) C rfl (by decide) rfl lf_TestJudge_Piece_16 kx (gd DX2_star_0 21 rfl) ?_
          rw [x2e]
          refine g_icmp_ge C 78 (gd DX2_star_0 22 rfl) (by decide) (fun c38 => ?_) (fun c38 => ?_)
          · refine GW.sub [0, 1, 2, 3, 4] rfl (Nat.le_refl _) (Nat.le_refl _) (lv' := [(0, _), (1, _), (2, _), (3, _), (4, _)]) ?_
            refine g_iinc (lv' := [(0, _), (1, _), (2, _), (3, _), (4, _)]) C (gd DX2_star_0 46 rfl) 3 [1, 2, 3, 0, 4] rfl rfl (by decide) rfl ?_
            refine g_goto (tgt := 21) C (gd DX2_star_0 47 rfl) (by decide) ?_
            refine GW.sub [0, 1, 2, 3] rfl (Nat.le_refl _) (Nat.le_refl _) (lv' := [(0, _), (1, _), (2, _), (3, _)]) ?_
            refine GW.cast (by rw [inc1]) rfl rfl (ih (p + 1) σ (by omega) (g.cg (stP_row Z al (szP n) p)))
          · exact absurd (nI_le (Nat.le_refl _) (by omega)) c38
        | succ y2 ih2 =>
          intro q σ hq g
          have e1 := (px1.2.2.2 p (by omega)).2.2.1
          have e2 := (px1.2.2.2 q (by omega)).2.1
          refine g_iload C (gd DX2_star_0 19 rfl) 4 rfl ?_
          refine g_aload_n C (gd DX2_star_0 20 rfl) 0 rfl rfl ?_
          refine g_geti (ci := 2) (k := 2) C rfl (by decide) rfl lf_TestJudge_Piece_16 kx (gd DX2_star_0 21 rfl) ?_
          rw [x2e]
          refine g_icmp_ge C 78 (gd DX2_star_0 22 rfl) (by decide) (fun c38 => ?_) (fun c38 => ?_)
          · exact absurd c38 (nI_ge (by omega) (by omega))
          · refine g_aload_n C (gd DX2_star_0 23 rfl) 2 rfl rfl ?_
            refine g_getr (ci := 2) (k := 6) C rfl (by decide) rfl lf_TestJudge_Piece_34 ta.1.1 aw.1.2.2.2 (gd DX2_star_0 24 rfl) ?_
            refine g_iload_n C (gd DX2_star_0 25 rfl) 3 rfl rfl ?_
            refine g_aload_n C (gd DX2_star_0 26 rfl) 0 rfl rfl ?_
            refine g_geti (ci := 2) (k := 2) C rfl (by decide) rfl lf_TestJudge_Piece_16 kx (gd DX2_star_0 27 rfl) ?_
            rw [x2e]
            refine g_imul C (gd DX2_star_0 28 rfl) ?_
            refine g_iload C (gd DX2_star_0 29 rfl) 4 rfl ?_
            refine g_iadd C (gd DX2_star_0 30 rfl) ?_
            refine g_dup2 C (gd DX2_star_0 31 rfl) rfl rfl ?_
            refine g_iaj (j := p * szP n + q) C aw.2.1.2.2.2 aw.2.2.2.2.2 (Nat.lt_of_le_of_lt (Nat.mul_le_mul hs6 hs6) (by decide)) (nx_add (nx_mul rfl rfl) rfl) (ix_lt (by omega) (by omega)) (gd DX2_star_0 32 rfl) ?_
            rw [hP_at (by omega) (by omega), (g p (by omega)).2.2.2 q (by omega)]
            refine g_aload_n C (gd DX2_star_0 33 rfl) 0 rfl rfl ?_
            refine g_getr (ci := 2) (k := 5) C rfl (by decide) rfl lf_TestJudge_Piece_31 kx xw.1.2.2.1 (gd DX2_star_0 34 rfl) ?_
            refine g_iload_n C (gd DX2_star_0 35 rfl) 3 rfl rfl ?_
            refine g_iaj (j := p) C xw.2.1.2.2.1 xw.2.2.2.2.1 (by first | decide | omega) rfl (by omega) (gd DX2_star_0 36 rfl) ?_
            rw [hP_ne (by omega), e1]
            refine g_aload_n C (gd DX2_star_0 37 rfl) 0 rfl rfl ?_
            refine g_getr (ci := 2) (k := 4) C rfl (by decide) rfl lf_TestJudge_Piece_28 kx xw.1.2.1 (gd DX2_star_0 38 rfl) ?_
            refine g_iload C (gd DX2_star_0 39 rfl) 4 rfl ?_
            refine g_iaj (j := q) C xw.2.1.2.1 xw.2.2.2.1 (by omega) rfl (by omega) (gd DX2_star_0 40 rfl) ?_
            rw [hP_ne (by omega), e2]
            refine g_iand C (gd DX2_star_0 41 rfl) ?_
            refine g_ior C (gd DX2_star_0 42 rfl) ?_
            refine g_isj (j := p * szP n + q) C aw.2.1.2.2.2 aw.2.2.2.2.2 (Nat.lt_of_le_of_lt (Nat.mul_le_mul hs6 hs6) (by decide)) (nx_add (nx_mul rfl rfl) rfl) (ix_lt (by omega) (by omega)) (gd DX2_star_0 43 rfl) ?_
            rw [hP_i (by omega) (by omega)]
            refine g_iinc (lv' := [(0, _), (1, _), (2, _), (3, _), (4, _)]) C (gd DX2_star_0 44 rfl) 4 [1, 2, 3, 4, 0] rfl rfl (by decide) rfl ?_
            refine g_goto (tgt := 32) C (gd DX2_star_0 45 rfl) (by decide) ?_
            refine GW.cast (by rw [inc1]) rfl rfl (ih2 (q + 1) _ (by omega) ?_)
            refine (g.u4 hs6 _ (P := p) (Q := q) (by omega) (by omega)).cg ?_
            have hst := stP_s Z al (a := szP n) (p := p) (q := q) (by omega) (by omega) (by omega)
            rw [z34 p q p (by omega), z18 p q q (by omega)] at hst
            exact hst
      refine g_iload_n C (gd DX2_star_0 13 rfl) 3 rfl rfl ?_
      refine g_aload_n C (gd DX2_star_0 14 rfl) 0 rfl rfl ?_
      refine g_geti (ci := 2) (k := 2) C rfl (by decide) rfl lf_TestJudge_Piece_16 kx (gd DX2_star_0 15 rfl) ?_
      rw [x2e]
      refine g_icmp_ge C 84 (gd DX2_star_0 16 rfl) (by decide) (fun c26 => ?_) (fun c26 => ?_)
      · exact absurd c26 (nI_ge (by omega) (by omega))
      · refine g_iconst (v := 0) C (gd DX2_star_0 17 rfl) (by decide) ?_
        refine g_istore (lv' := [(0, _), (1, _), (2, _), (3, _), (4, _)]) C (gd DX2_star_0 18 rfl) [1, 2, 3, 4, 0] (by decide) rfl ?_
        exact inner (szP n) 0 σ (by omega) g
  refine g_iconst (v := 0) C (gd DX2_star_0 11 rfl) (by decide) ?_
  refine g_istore_n (lv' := [(0, _), (1, _), (2, _), (3, _)]) C (gd DX2_star_0 12 rfl) [1, 2, 3, 0] rfl (by decide) rfl ?_
  refine outer (szP n) 0 ρ1 (by omega) (g1'.q (fun k k1 _ _ => ?_) hs6)
  rw [← stP_0, upd, if_neg (by omega)]
end C31
