/-! Search: goOnBy, goOn -/
theorem kSg_W {P : kP} (hs : kSm P) {b : Int32} {key k' : Int64} {t : Nat} (h : kSg P b key t = some k') : kW P k' := by
  unfold kSg kSs at h
  have : kSc P key t = some k' := by
    split at h
    · exact h
    · split at h
      · cases h
      · exact h
  obtain ⟨a, b0, f, ha, hb0, hf0, -, -, -, rfl⟩ := kSc_W hs this
  exact Or.inr ⟨a, b0, f, ha, hb0, hf0, rfl⟩
section C8
variable {w : gD} {s : Nat} {h : HS}
theorem e_s_goOnBy (hs : sSh s h) {P : kP} (rd : sRd P s h) {nt na : Nat} {L : List (Int64 × Nat)} (ok : kOk P L) {F BH NU SI CA : Nat → Int32} (fl : sFl P nt na F) {i : Nat} {key : Int64} (hkw : kW P key) (f9 : F 9 = kS1 key) (f10 : F 10 = kS2 key) (f11 : F 11 = kS3 key) {k : Nat} (hk : k < 2 ^ nt) (hf : hasB (kGd P key) (nI k)) {b : Int32} (hb : b = 0 ∨ b = 1) (q : sQ (gst (kSg P b) key i L (3 * k)) F NU SI CA) (bh : bhI (kSg P b) key (gst (kSg P b) key i L (3 * k)) BH (3 * k)) :
    Ev w 2 0 0 yX5_goOnBy cX5_goOnBy 13 none [.ref s, .int (nI i), .int (nI k), .int b] (hS s h F BH NU SI CA) (fun r' h' => r' = none ∧ ∃ F' BH' NU' SI' CA', h' = hS s h F' BH' NU' SI' CA' ∧ sQ (gst (kSg P b) key i L (3 * k + 3)) F' NU' SI' CA' ∧ bhI (kSg P b) key (gst (kSg P b) key i L (3 * k + 3)) BH' (3 * k + 3) ∧ ∀ i, i ≠ 0 → F' i = F i) := by
  refine g_start (by decide) (Nat.le_of_ble_eq_true rfl) [(0, _), (1, _), (2, _), (3, _)] rfl (fun z hfl C => ?_)
  obtain ⟨hnt, hna, hP1, hP2, h7, h8⟩ := fl
  have p8 : 2 ^ nt ≤ 2 ^ 3 := Nat.pow_le_pow_right (by omega) hnt
  have hk8 : k < 8 := by omega
  have loop : ∀ y c F' BH' NU' SI' CA', c + y = na → sQ (gst (kSg P b) key i L (3 * k + c)) F' NU' SI' CA' → bhI (kSg P b) key (gst (kSg P b) key i L (3 * k + c)) BH' (3 * k + c) → (∀ i, i ≠ 0 → F' i = F i) → GW z w 13 (gQ z w 0 0 (fun r' h'' => r' = none ∧ ∃ F' BH' NU' SI' CA', h'' = hS s h F' BH' NU' SI' CA' ∧ sQ (gst (kSg P b) key i L (3 * k + 3)) F' NU' SI' CA' ∧ bhI (kSg P b) key (gst (kSg P b) key i L (3 * k + 3)) BH' (3 * k + 3) ∧ ∀ i, i ≠ 0 → F' i = F i)) 0 0 45 [(0, .ref s), (1, .int (nI i)), (2, .int (nI k)), (3, .int b), (4, .int (rgF (hI h (s + 3)) (kS1 key) k 7)), (5, .int (rgF (hI h (s + 7)) (kS2 key) k 7)), (6, .int (rgF (hI h (s + 11)) (kS3 key) k 7)), (7, .int (nI c))] [] (hS s h F' BH' NU' SI' CA') := by
    intro y
    induction y with
    | zero =>
      intro c F' BH' NU' SI' CA' hc q bh hF
      have e : c = na := by omega
      subst e
      refine g_iload C (gd DX5_goOnBy_0 23 rfl) 7 rfl ?_
      refine g_iconst (v := 3) C (gd DX5_goOnBy_0 24 rfl) (by decide) ?_
      refine g_icmp_ge C 194 (gd DX5_goOnBy_0 25 rfl) (by decide) (fun c48 => ?_) (fun c48 => ?_)
      · obtain ⟨e1, e2⟩ := gst_to (3 - c) (3 * k + c) (by omega) (fun t h1 h2 => kSg_no hnt hna hP1 hP2 (by omega) (Or.inr (Or.inl (by omega))) b) bh
        rw [show 3 * k + c + (3 - c) = 3 * k + 3 by omega] at e1 e2
        exact g_vret C (by omega) (by omega) ⟨rfl, F', BH', NU', SI', CA', rfl, by rw [e1]; exact q, e2, hF⟩ (gd DX5_goOnBy_1 42 rfl)
      refine g_iload C (gd DX5_goOnBy_0 26 rfl) 7 rfl ?_
      refine g_aload_n C (gd DX5_goOnBy_0 27 rfl) 0 rfl rfl ?_
      refine g_geti (ci := 5) (k := 7) C rfl (by decide) rfl lf_TestJudge_Search_38 hs.1 (gd DX5_goOnBy_0 28 rfl) ?_
      rw [hS_0, hF 7 (by omega), h7]
      refine g_icmp_ge C 194 (gd DX5_goOnBy_0 29 rfl) (by decide) (fun c57 => ?_) (fun c57 => ?_)
      · obtain ⟨e1, e2⟩ := gst_to (3 - c) (3 * k + c) (by omega) (fun t h1 h2 => kSg_no hnt hna hP1 hP2 (by omega) (Or.inr (Or.inl (by omega))) b) bh
        rw [show 3 * k + c + (3 - c) = 3 * k + 3 by omega] at e1 e2
        exact g_vret C (by omega) (by omega) ⟨rfl, F', BH', NU', SI', CA', rfl, by rw [e1]; exact q, e2, hF⟩ (gd DX5_goOnBy_1 42 rfl)
      · exact absurd (nI_le (by omega) (by omega)) c57
    | succ y ih =>
      intro c F' BH' NU' SI' CA' hc q bh hF
      have hc3 : c < 3 := by omega
      refine g_iload C (gd DX5_goOnBy_0 23 rfl) 7 rfl ?_
      refine g_iconst (v := 3) C (gd DX5_goOnBy_0 24 rfl) (by decide) ?_
      refine g_icmp_ge C 194 (gd DX5_goOnBy_0 25 rfl) (by decide) (fun c48 => ?_) (fun c48 => ?_)
      · exact absurd c48 (nI_ge (a := c) (b := 3) hc3 (by omega))
      refine g_iload C (gd DX5_goOnBy_0 26 rfl) 7 rfl ?_
      refine g_aload_n C (gd DX5_goOnBy_0 27 rfl) 0 rfl rfl ?_
      refine g_geti (ci := 5) (k := 7) C rfl (by decide) rfl lf_TestJudge_Search_38 hs.1 (gd DX5_goOnBy_0 28 rfl) ?_
      rw [hS_0, hF 7 (by omega), h7]
      refine g_icmp_ge C 194 (gd DX5_goOnBy_0 29 rfl) (by decide) (fun c57 => ?_) (fun c57 => ?_)
      · exact absurd c57 (nI_ge (by omega) (by omega))
      · refine g_iload C (gd DX5_goOnBy_0 30 rfl) 4 rfl ?_
        refine g_aload_n C (gd DX5_goOnBy_0 31 rfl) 0 rfl rfl ?_
        refine g_getr (ci := 5) (k := 4) C rfl (by decide) rfl lf_TestJudge_Search_28 hs.1 hs.2.2.1.1 (gd DX5_goOnBy_0 32 rfl) ?_
        refine g_iload C (gd DX5_goOnBy_0 33 rfl) 7 rfl ?_
        refine g_cV1 (ci := 4) C [_] mX4_actPlaces lm_TestJudge_Search_118 (by exact hs.2.2.1.2.1) rfl rfl (e_r_actPlaces (h := hS s h F' BH' NU' SI' CA') (by exact hs.2.2.1.2) hc3) hfl (by first | decide | omega) (by decide) (by omega) (by omega) rfl rfl (Nat.le_of_ble_eq_true rfl) (gd DX5_goOnBy_0 34 rfl) ?_
        rw [show hI (hS s h F' BH' NU' SI' CA') (s + 2 + 3) = hI h (s + 5) from hS_ne (by omega)]
        refine g_iand C (gd DX5_goOnBy_0 35 rfl) ?_
        refine g_bipush (v := 63) C (gd DX5_goOnBy_0 36 rfl) (by decide) ?_
        refine g_iand C (gd DX5_goOnBy_0 37 rfl) ?_
        rw [go_A rd hkw hk8 hc3]
        refine g_istore (lv' := [(0, _), (1, _), (2, _), (3, _), (4, _), (5, _), (6, _), (7, _), (8, _)]) C (gd DX5_goOnBy_0 38 rfl) [1, 2, 3, 4, 5, 6, 7, 8, 0] (by decide) rfl ?_
        refine g_iload C (gd DX5_goOnBy_0 39 rfl) 5 rfl ?_
        refine g_aload_n C (gd DX5_goOnBy_0 40 rfl) 0 rfl rfl ?_
        refine g_getr (ci := 5) (k := 5) C rfl (by decide) rfl lf_TestJudge_Search_32 hs.1 hs.2.2.2.1.1 (gd DX5_goOnBy_0 41 rfl) ?_
        refine g_iload C (gd DX5_goOnBy_0 42 rfl) 7 rfl ?_
        refine g_cV1 (ci := 4) C [_] mX4_actPlaces lm_TestJudge_Search_118 (by exact hs.2.2.2.1.2.1) rfl rfl (e_r_actPlaces (h := hS s h F' BH' NU' SI' CA') (by exact hs.2.2.2.1.2) hc3) hfl (by first | decide | omega) (by decide) (by omega) (by omega) rfl rfl (Nat.le_of_ble_eq_true rfl) (gd DX5_goOnBy_0 43 rfl) ?_
        rw [show hI (hS s h F' BH' NU' SI' CA') (s + 6 + 3) = hI h (s + 9) from hS_ne (by omega)]
        refine g_iand C (gd DX5_goOnBy_0 44 rfl) ?_
        refine g_bipush (v := 63) C (gd DX5_goOnBy_0 45 rfl) (by decide) ?_
        refine g_iand C (gd DX5_goOnBy_0 46 rfl) ?_
        rw [go_B rd hkw hk8 hc3]
        refine g_istore (lv' := [(0, _), (1, _), (2, _), (3, _), (4, _), (5, _), (6, _), (7, _), (8, _), (9, _)]) C (gd DX5_goOnBy_0 47 rfl) [1, 2, 3, 4, 5, 6, 7, 8, 9, 0] (by decide) rfl ?_
        refine g_iload C (gd DX5_goOnBy_0 48 rfl) 6 rfl ?_
        refine g_aload_n C (gd DX5_goOnBy_0 49 rfl) 0 rfl rfl ?_
        refine g_getr (ci := 5) (k := 6) C rfl (by decide) rfl lf_TestJudge_Search_35 hs.1 hs.2.2.2.2.1.1 (gd DX5_goOnBy_0 50 rfl) ?_
        refine g_iload C (gd DX5_goOnBy_0 51 rfl) 7 rfl ?_
        refine g_cV1 (ci := 4) C [_] mX4_actPlaces lm_TestJudge_Search_118 (by exact hs.2.2.2.2.1.2.1) rfl rfl (e_r_actPlaces (h := hS s h F' BH' NU' SI' CA') (by exact hs.2.2.2.2.1.2) hc3) hfl (by first | decide | omega) (by decide) (by omega) (by omega) rfl rfl (Nat.le_of_ble_eq_true rfl) (gd DX5_goOnBy_0 52 rfl) ?_
        rw [show hI (hS s h F' BH' NU' SI' CA') (s + 10 + 3) = hI h (s + 13) from hS_ne (by omega)]
        refine g_iand C (gd DX5_goOnBy_0 53 rfl) ?_
        refine g_iconst (v := 3) C (gd DX5_goOnBy_0 54 rfl) (by decide) ?_
        refine g_iand C (gd DX5_goOnBy_0 55 rfl) ?_
        rw [go_F rd hkw hk8 hc3]
        have step := kSg_at rd.1 hnt hna hP1 hP2 hk (show c < na by omega) hf b
        have k182 : ∀ x8 x9 x10 x11 F2 BH2 NU2 SI2 CA2, sQ (gst (kSg P b) key i L (3 * k + (c + 1))) F2 NU2 SI2 CA2 → bhI (kSg P b) key (gst (kSg P b) key i L (3 * k + (c + 1))) BH2 (3 * k + (c + 1)) → (∀ i, i ≠ 0 → F2 i = F i) → GW z w 13 (gQ z w 0 0 (fun r' h'' => r' = none ∧ ∃ F' BH' NU' SI' CA', h'' = hS s h F' BH' NU' SI' CA' ∧ sQ (gst (kSg P b) key i L (3 * k + 3)) F' NU' SI' CA' ∧ bhI (kSg P b) key (gst (kSg P b) key i L (3 * k + 3)) BH' (3 * k + 3) ∧ ∀ i, i ≠ 0 → F' i = F i)) 0 0 188 [(0, .ref s), (1, .int (nI i)), (2, .int (nI k)), (3, .int b), (4, .int (rgF (hI h (s + 3)) (kS1 key) k 7)), (5, .int (rgF (hI h (s + 7)) (kS2 key) k 7)), (6, .int (rgF (hI h (s + 11)) (kS3 key) k 7)), (7, .int (nI c)), (8, .int x8), (9, .int x9), (10, .int x10), (11, .int x11)] [] (hS s h F2 BH2 NU2 SI2 CA2) := by
          intro x8 x9 x10 x11 F2 BH2 NU2 SI2 CA2 g1 g2 g3
          refine g_iinc (lv' := [(0, _), (1, _), (2, _), (3, _), (4, _), (5, _), (6, _), (7, _), (8, _), (9, _), (10, _), (11, _)]) C (gd DX5_goOnBy_1 40 rfl) 7 [1, 2, 3, 4, 5, 6, 7, 0, 8, 9, 10, 11] rfl rfl (by decide) rfl ?_
          refine g_goto (tgt := 45) C (gd DX5_goOnBy_1 41 rfl) (by decide) ?_
          refine GW.sub [0, 1, 2, 3, 4, 5, 6, 7] rfl (Nat.le_refl _) (Nat.le_refl _) (lv' := [(0, _), (1, _), (2, _), (3, _), (4, _), (5, _), (6, _), (7, _)]) ?_
          exact GW.cast (by rw [inc1]) rfl rfl (ih (c + 1) _ _ _ _ _ (by omega) g1 g2 g3)
        have k139 : ∀ v : Int32, (¬ v = 0 ↔ (if b = 0 then ¬ (kA P key (3 * k + c) ||| kB P key (3 * k + c) = 0) else (¬ kA P key (3 * k + c) = 0 ∧ ¬ kB P key (3 * k + c) = 0))) → GW z w 13 (gQ z w 0 0 (fun r' h'' => r' = none ∧ ∃ F' BH' NU' SI' CA', h'' = hS s h F' BH' NU' SI' CA' ∧ sQ (gst (kSg P b) key i L (3 * k + 3)) F' NU' SI' CA' ∧ bhI (kSg P b) key (gst (kSg P b) key i L (3 * k + 3)) BH' (3 * k + 3) ∧ ∀ i, i ≠ 0 → F' i = F i)) 0 0 145 [(0, .ref s), (1, .int (nI i)), (2, .int (nI k)), (3, .int b), (4, .int (rgF (hI h (s + 3)) (kS1 key) k 7)), (5, .int (rgF (hI h (s + 7)) (kS2 key) k 7)), (6, .int (rgF (hI h (s + 11)) (kS3 key) k 7)), (7, .int (nI c)), (8, .int (kA P key (3 * k + c))), (9, .int (kB P key (3 * k + c))), (10, .int (kF P key (3 * k + c)))] [.int v] (hS s h F' BH' NU' SI' CA') := by
          intro v hv
          refine g_istore (lv' := [(0, _), (1, _), (2, _), (3, _), (4, _), (5, _), (6, _), (7, _), (8, _), (9, _), (10, _), (11, _)]) C (gd DX5_goOnBy_1 14 rfl) [1, 2, 3, 4, 5, 6, 7, 8, 9, 10, 11, 0] (by decide) rfl ?_
          refine g_iload C (gd DX5_goOnBy_1 15 rfl) 11 rfl ?_
          refine g_if_eq C 188 (gd DX5_goOnBy_1 16 rfl) (by decide) (fun c149 => ?_) (fun c149 => ?_)
          · rcases step with ⟨y1, y2⟩ | ⟨y1, y2⟩
            · exact absurd c149 (hv.mpr y1)
            · exact k182 _ _ _ _ F' BH' NU' SI' CA' (by rw [← Nat.add_assoc, gst_n y2]; exact q) (by rw [← Nat.add_assoc, gst_n y2]; exact bh.n y2) hF
          · rcases step with ⟨y1, k', y2, y3, y4⟩ | ⟨y1, y2⟩
            · refine g_iload_n C (gd DX5_goOnBy_1 17 rfl) 2 rfl rfl ?_
              refine g_iconst (v := 3) C (gd DX5_goOnBy_1 18 rfl) (by decide) ?_
              refine g_imul C (gd DX5_goOnBy_1 19 rfl) ?_
              refine g_iload C (gd DX5_goOnBy_1 20 rfl) 7 rfl ?_
              refine g_iadd C (gd DX5_goOnBy_1 21 rfl) ?_
              refine g_istore (lv' := [(0, _), (1, _), (2, _), (3, _), (4, _), (5, _), (6, _), (7, _), (8, _), (9, _), (10, _), (11, _), (12, _)]) C (gd DX5_goOnBy_1 22 rfl) [1, 2, 3, 4, 5, 6, 7, 8, 9, 10, 11, 12, 0] (by decide) rfl ?_
              refine g_aload_n C (gd DX5_goOnBy_1 23 rfl) 0 rfl rfl ?_
              refine g_getr (ci := 5) (k := 2) C rfl (by decide) rfl lf_TestJudge_Search_20 hs.1 hs.2.1.1 (gd DX5_goOnBy_1 24 rfl) ?_
              refine g_iload C (gd DX5_goOnBy_1 25 rfl) 12 rfl ?_
              refine g_aload_n C (gd DX5_goOnBy_1 26 rfl) 0 rfl rfl ?_
              refine g_iload C (gd DX5_goOnBy_1 27 rfl) 8 rfl ?_
              refine g_iload C (gd DX5_goOnBy_1 28 rfl) 9 rfl ?_
              refine g_bipush (v := 6) C (gd DX5_goOnBy_1 29 rfl) (by decide) ?_
              refine g_ishl C (gd DX5_goOnBy_1 30 rfl) ?_
              refine g_ior C (gd DX5_goOnBy_1 31 rfl) ?_
              refine g_iload C (gd DX5_goOnBy_1 32 rfl) 10 rfl ?_
              refine g_bipush (v := 12) C (gd DX5_goOnBy_1 33 rfl) (by decide) ?_
              refine g_ishl C (gd DX5_goOnBy_1 34 rfl) ?_
              refine g_ior C (gd DX5_goOnBy_1 35 rfl) ?_
              rw [y4, show nI k * 3 + nI c = nI (3 * k + c) from by rw [show 3 * k + c = k * 3 + c by omega]; exact nx_add (nx_mul (b := 3) rfl rfl) rfl]
              refine g_iload_n C (gd DX5_goOnBy_1 36 rfl) 1 rfl rfl ?_
              refine g_iload C (gd DX5_goOnBy_1 37 rfl) 12 rfl ?_
              refine g_callV (ci := 5) C [_, _, _] mX5_meet lm_TestJudge_Search_96 (by exact hs.1) rfl rfl (e_s_meet hs rd.1 (gst_ok ok (fun t k2 _ hk2 => kSg_W rd.1 hk2) (3 * k + c) (by omega)) q y2) hfl (by first | decide | omega) (by decide) (by omega) (by omega) rfl rfl (Nat.le_of_ble_eq_true rfl) (gd DX5_goOnBy_1 38 rfl) (fun r h2 hp => ?_)
              obtain ⟨j, v2, F2, NU2, SI2, CA2, rfl, rfl, g1, g2, g3⟩ := hp
              show GW z w 13 _ 0 0 _ _ (.int (nI j) :: _) _
              refine g_isj (j := (3 * k + c)) C hs.2.1.2.1 hs.2.1.2.2 (by first | decide | omega) rfl (by omega) (gd DX5_goOnBy_1 39 rfl) ?_
              refine GW.sub [0, 1, 2, 3, 4, 5, 6, 7, 8, 9, 10, 11] rfl (Nat.le_refl _) (Nat.le_refl _) (lv' := [(0, _), (1, _), (2, _), (3, _), (4, _), (5, _), (6, _), (7, _), (8, _), (9, _), (10, _), (11, _)]) ?_
              rw [hS_i1]
              refine k182 _ _ _ _ F2 _ NU2 SI2 CA2 (by rw [← Nat.add_assoc, gst_s y3]; exact g1) (by rw [← Nat.add_assoc, gst_s y3]; exact bh.s (by omega) y3 g2) (fun i hi => (g3 i hi).trans (hF i hi))
            · exact absurd (hv.mp c149) y1
        refine g_istore (lv' := [(0, _), (1, _), (2, _), (3, _), (4, _), (5, _), (6, _), (7, _), (8, _), (9, _), (10, _)]) C (gd DX5_goOnBy_0 56 rfl) [1, 2, 3, 4, 5, 6, 7, 8, 9, 10, 0] (by decide) rfl ?_
        refine g_iload_n C (gd DX5_goOnBy_0 57 rfl) 3 rfl rfl ?_
        refine g_if_eq C 132 (gd DX5_goOnBy_0 58 rfl) (by decide) (fun c111 => ?_) (fun c111 => ?_)
        · have hb0 : b = 0 := c111
          refine g_iload C (gd DX5_goOnBy_1 7 rfl) 8 rfl ?_
          refine g_iload C (gd DX5_goOnBy_1 8 rfl) 9 rfl ?_
          refine g_ior C (gd DX5_goOnBy_1 9 rfl) ?_
          refine g_if_eq C 144 (gd DX5_goOnBy_1 10 rfl) (by decide) (fun c137 => ?_) (fun c137 => ?_)
          · refine g_iconst (v := 0) C (gd DX5_goOnBy_1 13 rfl) (by decide) ?_
            exact k139 _ ⟨fun x => absurd rfl x, fun x => by rw [if_pos hb0] at x; exact absurd c137 x⟩
          · refine g_iconst (v := 1) C (gd DX5_goOnBy_1 11 rfl) (by decide) ?_
            refine g_goto (tgt := 145) C (gd DX5_goOnBy_1 12 rfl) (by decide) ?_
            exact k139 _ ⟨fun x => by rw [if_pos hb0]; exact c137, fun x => by decide⟩
        · have hb0 : ¬ b = 0 := c111
          refine g_iload C (gd DX5_goOnBy_0 59 rfl) 8 rfl ?_
          refine g_if_eq C 128 (gd DX5_goOnBy_1 0 rfl) (by decide) (fun c116 => ?_) (fun c116 => ?_)
          · refine g_iconst (v := 0) C (gd DX5_goOnBy_1 5 rfl) (by decide) ?_
            refine g_goto (tgt := 145) C (gd DX5_goOnBy_1 6 rfl) (by decide) ?_
            exact k139 _ ⟨fun x => absurd rfl x, fun x => by rw [if_neg hb0] at x; exact absurd c116 x.1⟩
          · refine g_iload C (gd DX5_goOnBy_1 1 rfl) 9 rfl ?_
            refine g_if_eq C 128 (gd DX5_goOnBy_1 2 rfl) (by decide) (fun c121 => ?_) (fun c121 => ?_)
            · refine g_iconst (v := 0) C (gd DX5_goOnBy_1 5 rfl) (by decide) ?_
              refine g_goto (tgt := 145) C (gd DX5_goOnBy_1 6 rfl) (by decide) ?_
              exact k139 _ ⟨fun x => absurd rfl x, fun x => by rw [if_neg hb0] at x; exact absurd c121 x.2⟩
            · refine g_iconst (v := 1) C (gd DX5_goOnBy_1 3 rfl) (by decide) ?_
              refine g_goto (tgt := 145) C (gd DX5_goOnBy_1 4 rfl) (by decide) ?_
              exact k139 _ ⟨fun x => by rw [if_neg hb0]; exact ⟨c116, c121⟩, fun x => by decide⟩
  refine g_aload_n C (gd DX5_goOnBy_0 0 rfl) 0 rfl rfl ?_
  refine g_getr (ci := 5) (k := 4) C rfl (by decide) rfl lf_TestJudge_Search_28 hs.1 hs.2.2.1.1 (gd DX5_goOnBy_0 1 rfl) ?_
  refine g_aload_n C (gd DX5_goOnBy_0 2 rfl) 0 rfl rfl ?_
  refine g_geti (ci := 5) (k := 9) C rfl (by decide) rfl lf_TestJudge_Search_44 hs.1 (gd DX5_goOnBy_0 3 rfl) ?_
  rw [hS_0, f9]
  refine g_iload_n C (gd DX5_goOnBy_0 4 rfl) 2 rfl rfl ?_
  refine g_cV1 (ci := 4) C [_, _] mX4_goes lm_TestJudge_Search_114 (by exact hs.2.2.1.2.1) rfl rfl (e_r_goes (h := hS s h F BH NU SI CA) (by exact hs.2.2.1.2) _ hk8) hfl (by first | decide | omega) (by decide) (by omega) (by omega) rfl rfl (Nat.le_of_ble_eq_true rfl) (gd DX5_goOnBy_0 5 rfl) ?_
  rw [show hI (hS s h F BH NU SI CA) (s + 2 + 1) = hI h (s + 3) from hS_ne (by omega)]
  refine g_istore (lv' := [(0, _), (1, _), (2, _), (3, _), (4, _)]) C (gd DX5_goOnBy_0 6 rfl) [1, 2, 3, 4, 0] (by decide) rfl ?_
  refine g_aload_n C (gd DX5_goOnBy_0 7 rfl) 0 rfl rfl ?_
  refine g_getr (ci := 5) (k := 5) C rfl (by decide) rfl lf_TestJudge_Search_32 hs.1 hs.2.2.2.1.1 (gd DX5_goOnBy_0 8 rfl) ?_
  refine g_aload_n C (gd DX5_goOnBy_0 9 rfl) 0 rfl rfl ?_
  refine g_geti (ci := 5) (k := 10) C rfl (by decide) rfl lf_TestJudge_Search_47 hs.1 (gd DX5_goOnBy_0 10 rfl) ?_
  rw [hS_0, f10]
  refine g_iload_n C (gd DX5_goOnBy_0 11 rfl) 2 rfl rfl ?_
  refine g_cV1 (ci := 4) C [_, _] mX4_goes lm_TestJudge_Search_114 (by exact hs.2.2.2.1.2.1) rfl rfl (e_r_goes (h := hS s h F BH NU SI CA) (by exact hs.2.2.2.1.2) _ hk8) hfl (by first | decide | omega) (by decide) (by omega) (by omega) rfl rfl (Nat.le_of_ble_eq_true rfl) (gd DX5_goOnBy_0 12 rfl) ?_
  rw [show hI (hS s h F BH NU SI CA) (s + 6 + 1) = hI h (s + 7) from hS_ne (by omega)]
  refine g_istore (lv' := [(0, _), (1, _), (2, _), (3, _), (4, _), (5, _)]) C (gd DX5_goOnBy_0 13 rfl) [1, 2, 3, 4, 5, 0] (by decide) rfl ?_
  refine g_aload_n C (gd DX5_goOnBy_0 14 rfl) 0 rfl rfl ?_
  refine g_getr (ci := 5) (k := 6) C rfl (by decide) rfl lf_TestJudge_Search_35 hs.1 hs.2.2.2.2.1.1 (gd DX5_goOnBy_0 15 rfl) ?_
  refine g_aload_n C (gd DX5_goOnBy_0 16 rfl) 0 rfl rfl ?_
  refine g_geti (ci := 5) (k := 11) C rfl (by decide) rfl lf_TestJudge_Search_50 hs.1 (gd DX5_goOnBy_0 17 rfl) ?_
  rw [hS_0, f11]
  refine g_iload_n C (gd DX5_goOnBy_0 18 rfl) 2 rfl rfl ?_
  refine g_cV1 (ci := 4) C [_, _] mX4_goes lm_TestJudge_Search_114 (by exact hs.2.2.2.2.1.2.1) rfl rfl (e_r_goes (h := hS s h F BH NU SI CA) (by exact hs.2.2.2.2.1.2) _ hk8) hfl (by first | decide | omega) (by decide) (by omega) (by omega) rfl rfl (Nat.le_of_ble_eq_true rfl) (gd DX5_goOnBy_0 19 rfl) ?_
  rw [show hI (hS s h F BH NU SI CA) (s + 10 + 1) = hI h (s + 11) from hS_ne (by omega)]
  refine g_istore (lv' := [(0, _), (1, _), (2, _), (3, _), (4, _), (5, _), (6, _)]) C (gd DX5_goOnBy_0 20 rfl) [1, 2, 3, 4, 5, 6, 0] (by decide) rfl ?_
  refine g_iconst (v := 0) C (gd DX5_goOnBy_0 21 rfl) (by decide) ?_
  refine g_istore (lv' := [(0, _), (1, _), (2, _), (3, _), (4, _), (5, _), (6, _), (7, _)]) C (gd DX5_goOnBy_0 22 rfl) [1, 2, 3, 4, 5, 6, 7, 0] (by decide) rfl ?_
  exact loop na 0 F BH NU SI CA (by omega) q bh (fun _ _ => rfl)
theorem e_s_goOn (hs : sSh s h) {P : kP} (rd : sRd P s h) {nt na : Nat} {L : List (Int64 × Nat)} (ok : kOk P L) {F BH NU SI CA : Nat → Int32} (fl : sFl P nt na F) {i : Nat} {key : Int64} (hkw : kW P key) (f9 : F 9 = kS1 key) (f10 : F 10 = kS2 key) (f11 : F 11 = kS3 key) (f12 : F 12 = kGd P key) {b : Int32} (hb : b = 0 ∨ b = 1) (q : sQ L F NU SI CA) :
    Ev w 3 0 0 yX5_goOn cX5_goOn 4 none [.ref s, .int (nI i), .int b] (hS s h F BH NU SI CA) (fun r' h' => r' = none ∧ ∃ F' BH' NU' SI' CA', h' = hS s h F' BH' NU' SI' CA' ∧ sQ (gst (kSg P b) key i L 24) F' NU' SI' CA' ∧ bhI (kSg P b) key (gst (kSg P b) key i L 24) BH' 24 ∧ ∀ i, i ≠ 0 → F' i = F i) := by
  refine g_start (by decide) (Nat.le_of_ble_eq_true rfl) [(0, _), (1, _), (2, _)] rfl (fun z hfl C => ?_)
  have fl0 := fl
  obtain ⟨hnt, hna, hP1, hP2, h7, h8⟩ := fl
  have p8 : 2 ^ nt ≤ 2 ^ 3 := Nat.pow_le_pow_right (by omega) hnt
  have loop : ∀ y k F' BH' NU' SI' CA', k + y = 2 ^ nt → sQ (gst (kSg P b) key i L (3 * k)) F' NU' SI' CA' → bhI (kSg P b) key (gst (kSg P b) key i L (3 * k)) BH' (3 * k) → (∀ i, i ≠ 0 → F' i = F i) → GW z w 4 (gQ z w 0 0 (fun r' h'' => r' = none ∧ ∃ F' BH' NU' SI' CA', h'' = hS s h F' BH' NU' SI' CA' ∧ sQ (gst (kSg P b) key i L 24) F' NU' SI' CA' ∧ bhI (kSg P b) key (gst (kSg P b) key i L 24) BH' 24 ∧ ∀ i, i ≠ 0 → F' i = F i)) 0 0 10 [(0, .ref s), (1, .int (nI i)), (2, .int b), (3, .int (nI k))] [] (hS s h F' BH' NU' SI' CA') := by
    intro y
    induction y with
    | zero =>
      intro k F' BH' NU' SI' CA' hk q bh hF
      have e : k = 2 ^ nt := by omega
      refine g_iload_n C (gd DX5_goOn_0 6 rfl) 3 rfl rfl ?_
      refine g_bipush (v := 8) C (gd DX5_goOn_0 7 rfl) (by decide) ?_
      refine g_icmp_ge C 48 (gd DX5_goOn_0 8 rfl) (by decide) (fun c13 => ?_) (fun c13 => ?_)
      · obtain ⟨e1, e2⟩ := gst_to (24 - 3 * k) (3 * k) (by omega) (fun t h1 h2 => kSg_no hnt hna hP1 hP2 (by omega) (Or.inl (by omega)) b) bh
        rw [show 3 * k + (24 - 3 * k) = 24 by omega] at e1 e2
        exact g_vret C (by omega) (by omega) ⟨rfl, F', BH', NU', SI', CA', rfl, by rw [e1]; exact q, e2, hF⟩ (gd DX5_goOn_0 27 rfl)
      refine g_iload_n C (gd DX5_goOn_0 9 rfl) 3 rfl rfl ?_
      refine g_aload_n C (gd DX5_goOn_0 10 rfl) 0 rfl rfl ?_
      refine g_geti (ci := 5) (k := 8) C rfl (by decide) rfl lf_TestJudge_Search_41 hs.1 (gd DX5_goOn_0 11 rfl) ?_
      rw [hS_0, hF 8 (by omega), h8]
      refine g_icmp_ge C 48 (gd DX5_goOn_0 12 rfl) (by decide) (fun c21 => ?_) (fun c21 => ?_)
      · obtain ⟨e1, e2⟩ := gst_to (24 - 3 * k) (3 * k) (by omega) (fun t h1 h2 => kSg_no hnt hna hP1 hP2 (by omega) (Or.inl (by omega)) b) bh
        rw [show 3 * k + (24 - 3 * k) = 24 by omega] at e1 e2
        exact g_vret C (by omega) (by omega) ⟨rfl, F', BH', NU', SI', CA', rfl, by rw [e1]; exact q, e2, hF⟩ (gd DX5_goOn_0 27 rfl)
      · exact absurd (nI_le (by omega) (by omega)) c21
    | succ y ih =>
      intro k F' BH' NU' SI' CA' hk q bh hF
      have nx : ∀ F2 BH2 NU2 SI2 CA2, sQ (gst (kSg P b) key i L (3 * k + 3)) F2 NU2 SI2 CA2 → bhI (kSg P b) key (gst (kSg P b) key i L (3 * k + 3)) BH2 (3 * k + 3) → (∀ i, i ≠ 0 → F2 i = F i) → GW z w 4 (gQ z w 0 0 (fun r' h'' => r' = none ∧ ∃ F' BH' NU' SI' CA', h'' = hS s h F' BH' NU' SI' CA' ∧ sQ (gst (kSg P b) key i L 24) F' NU' SI' CA' ∧ bhI (kSg P b) key (gst (kSg P b) key i L 24) BH' 24 ∧ ∀ i, i ≠ 0 → F' i = F i)) 0 0 42 [(0, .ref s), (1, .int (nI i)), (2, .int b), (3, .int (nI k))] [] (hS s h F2 BH2 NU2 SI2 CA2) := by
        intro F2 BH2 NU2 SI2 CA2 g1 g2 g3
        refine g_iinc (lv' := [(0, _), (1, _), (2, _), (3, _)]) C (gd DX5_goOn_0 25 rfl) 3 [1, 2, 3, 0] rfl rfl (by decide) rfl ?_
        refine g_goto (tgt := 10) C (gd DX5_goOn_0 26 rfl) (by decide) ?_
        exact GW.cast (by rw [inc1]) rfl rfl (ih (k + 1) _ _ _ _ _ (by omega) g1 g2 g3)
      refine g_iload_n C (gd DX5_goOn_0 6 rfl) 3 rfl rfl ?_
      refine g_bipush (v := 8) C (gd DX5_goOn_0 7 rfl) (by decide) ?_
      refine g_icmp_ge C 48 (gd DX5_goOn_0 8 rfl) (by decide) (fun c13 => ?_) (fun c13 => ?_)
      · exact absurd c13 (nI_ge (a := k) (b := 8) (by omega) (by omega))
      refine g_iload_n C (gd DX5_goOn_0 9 rfl) 3 rfl rfl ?_
      refine g_aload_n C (gd DX5_goOn_0 10 rfl) 0 rfl rfl ?_
      refine g_geti (ci := 5) (k := 8) C rfl (by decide) rfl lf_TestJudge_Search_41 hs.1 (gd DX5_goOn_0 11 rfl) ?_
      rw [hS_0, hF 8 (by omega), h8]
      refine g_icmp_ge C 48 (gd DX5_goOn_0 12 rfl) (by decide) (fun c21 => ?_) (fun c21 => ?_)
      · exact absurd c21 (nI_ge (by omega) (by omega))
      · refine g_aload_n C (gd DX5_goOn_0 13 rfl) 0 rfl rfl ?_
        refine g_geti (ci := 5) (k := 12) C rfl (by decide) rfl lf_TestJudge_Search_53 hs.1 (gd DX5_goOn_0 14 rfl) ?_
        rw [hS_0, hF 12 (by omega), f12]
        refine g_iload_n C (gd DX5_goOn_0 15 rfl) 3 rfl rfl ?_
        refine g_ishr C (gd DX5_goOn_0 16 rfl) ?_
        refine g_iconst (v := 1) C (gd DX5_goOn_0 17 rfl) (by decide) ?_
        refine g_iand C (gd DX5_goOn_0 18 rfl) ?_
        refine g_if_eq C 42 (gd DX5_goOn_0 19 rfl) (by decide) (fun c32 => ?_) (fun c32 => ?_)
        · have hno : ¬ hasB (kGd P key) (nI k) := fun x => absurd c32 ((bit_ne0 (by omega)).mpr x)
          obtain ⟨e1, e2⟩ := gst_to 3 (3 * k) (by omega) (fun t h1 h2 => kSg_no hnt hna hP1 hP2 (by omega) (Or.inr (Or.inr (by rw [show t / 3 = k by omega]; exact hno))) b) bh
          exact nx F' BH' NU' SI' CA' (by rw [e1]; exact q) e2 hF
        · have hyes : hasB (kGd P key) (nI k) := (bit_ne0 (by omega)).mp c32
          refine g_aload_n C (gd DX5_goOn_0 20 rfl) 0 rfl rfl ?_
          refine g_iload_n C (gd DX5_goOn_0 21 rfl) 1 rfl rfl ?_
          refine g_iload_n C (gd DX5_goOn_0 22 rfl) 3 rfl rfl ?_
          refine g_iload_n C (gd DX5_goOn_0 23 rfl) 2 rfl rfl ?_
          refine g_callV (ci := 5) C [_, _, _] mX5_goOnBy lm_TestJudge_Search_110 (by exact hs.1) rfl rfl (e_s_goOnBy hs rd ok (by exact ⟨hnt, hna, hP1, hP2, (hF 7 (by omega)).trans h7, (hF 8 (by omega)).trans h8⟩) hkw ((hF 9 (by omega)).trans f9) ((hF 10 (by omega)).trans f10) ((hF 11 (by omega)).trans f11) (by omega) hyes hb q bh) hfl (by first | decide | omega) (by decide) (by omega) (by omega) rfl rfl (Nat.le_of_ble_eq_true rfl) (gd DX5_goOn_0 24 rfl) (fun r h2 hp => ?_)
          obtain ⟨rfl, F2, BH2, NU2, SI2, CA2, rfl, g1, g2, g3⟩ := hp
          exact nx F2 BH2 NU2 SI2 CA2 g1 g2 (fun i hi => (g3 i hi).trans (hF i hi))
  refine g_aload_n C (gd DX5_goOn_0 0 rfl) 0 rfl rfl ?_
  refine g_getr (ci := 5) (k := 2) C rfl (by decide) rfl lf_TestJudge_Search_20 hs.1 hs.2.1.1 (gd DX5_goOn_0 1 rfl) ?_
  refine g_iconst (v := -1) C (gd DX5_goOn_0 2 rfl) (by decide) ?_
  refine g_cS0 (v := .null) C [_, _] mJ7_fill_53178 lm_TestJudge_Search_104 (e_fill (h := hS s h F BH NU SI CA) hs.2.1.2.1 hs.2.1.2.2 (by decide) _) hfl (by first | decide | omega) (by decide) (by omega) (by omega) rfl rfl (Nat.le_of_ble_eq_true rfl) (gd DX5_goOn_0 3 rfl) ?_
  rw [hS_1, hS_f1]
  refine g_iconst (v := 0) C (gd DX5_goOn_0 4 rfl) (by decide) ?_
  refine g_istore_n (lv' := [(0, _), (1, _), (2, _), (3, _)]) C (gd DX5_goOn_0 5 rfl) [1, 2, 3, 0] rfl (by decide) rfl ?_
  refine loop (2 ^ nt) 0 F _ NU SI CA (by omega) q (fun t ht => ⟨fun _ => ?_, fun x => by omega⟩) (fun _ _ => rfl)
  show (if t < 24 then (-1 : Int32) else BH t) = -1
  rw [if_pos ht]
end C8
