/-! World: what it is asked -/
def wSh (W : Nat) (h : HS) : Prop := hK h W = 9 ∧ (hR h W 5 = some (W + 1) ∧ hK h (W + 1) = 16 ∧ hN h (W + 1) = 8) ∧ (hR h W 6 = some (W + 2) ∧ hK h (W + 2) = 12 ∧ hN h (W + 2) = 8) ∧ (hR h W 7 = some (W + 3) ∧ hK h (W + 3) = 16 ∧ hN h (W + 3) = 2) ∧ (hR h W 8 = some (W + 4) ∧ hK h (W + 4) = 16 ∧ hN h (W + 4) = 4) ∧ (hR h W 9 = some (W + 5) ∧ hK h (W + 5) = 3)
/-- atoms in which a test holds, as the class adds them up -/
def holdC (k : Int32) : Nat → Int32
  | 0 => 0
  | p + 1 => holdC k p ||| (nI p >>> (k &&& 31) &&& 1) <<< (nI p &&& 31)
theorem holdC_F (t : Nat) (ht : t < 32) : ∀ n, n ≤ 32 → holdC (nI t) n = holdF (nI t) n := by
  intro n
  induction n with
  | zero => intro _; rfl
  | succ n ih =>
    intro hn
    rw [holdC, holdF, ih (by omega)]
    congr 1
    rcases bit01 (nI n) ht with e | e
    · rw [e, if_neg (by decide)]; simp
    · rw [e, if_pos rfl]
section C9a
variable {z : gZ} {w : gD} {d MC MS n : Nat} {y : MethodName} {cc : ByteArray} {ret : Option FieldType} {Q : State → Prop} {cn sn pc : Nat} {lv lv' : List (Nat × Value)} {rest : List Value} {h : HS}
theorem g_astore_nN (C : GC z w d MC MS y cc n ret) {k : Fin 4} {i : Nat} (hd : decode cc pc = .ok (.astore_n k, 1)) (ks : List Nat) (hi : (k : Nat) = i) (hn : i < n) (hv : lv_pick ((i, .null) :: lv.filter (fun q => !(q.1 == i) && !(q.1 + 1 == i && q.2.category == 2))) ks = lv') (kk : GW z w n Q cn sn (pc + 1) lv' rest h) : GW z w n Q cn sn pc lv (.null :: rest) h := fun H locs ls hR hL hl => lv_astore_nN C.1 C.2.1 hd hi hl hn rfl (fun ls hl => kk H locs ls hR hL (lv_sub hl ks hv))
end C9a
section C9
variable {w : gD} {W : Nat} {h : HS}
theorem e_w_atomCount (hw : wSh W h) : EvF w 0 0 0 yX8_atomCount cX8_atomCount 1 (some .int) [.ref W] h (some (.int (atF (hI h W 0)))) h := by
  refine g_start (by decide) (Nat.le_of_ble_eq_true rfl) [(0, _)] rfl (fun z hfl C => ?_)
  refine g_iconst (v := 1) C (gd DX8_atomCount_0 0 rfl) (by decide) ?_
  refine g_aload_n C (gd DX8_atomCount_0 1 rfl) 0 rfl rfl ?_
  refine g_geti (ci := 8) (k := 0) C rfl (by decide) rfl lf_TestJudge_World_9 hw.1 (gd DX8_atomCount_0 2 rfl) ?_
  refine g_ishl C (gd DX8_atomCount_0 3 rfl) ?_
  exact g_iret C (by omega) (by omega) ⟨rfl, rfl⟩ (gd DX8_atomCount_0 4 rfl)
theorem e_w_allAtoms (hw : wSh W h) : EvF w 0 0 0 yX8_allAtoms cX8_allAtoms 1 (some .int) [.ref W] h (some (.int (allF (hI h W 0)))) h := by
  refine g_start (by decide) (Nat.le_of_ble_eq_true rfl) [(0, _)] rfl (fun z hfl C => ?_)
  refine g_iconst (v := 1) C (gd DX8_allAtoms_0 0 rfl) (by decide) ?_
  refine g_iconst (v := 1) C (gd DX8_allAtoms_0 1 rfl) (by decide) ?_
  refine g_aload_n C (gd DX8_allAtoms_0 2 rfl) 0 rfl rfl ?_
  refine g_geti (ci := 8) (k := 0) C rfl (by decide) rfl lf_TestJudge_World_9 hw.1 (gd DX8_allAtoms_0 3 rfl) ?_
  refine g_ishl C (gd DX8_allAtoms_0 4 rfl) ?_
  refine g_ishl C (gd DX8_allAtoms_0 5 rfl) ?_
  refine g_iconst (v := 1) C (gd DX8_allAtoms_0 6 rfl) (by decide) ?_
  refine g_isub C (gd DX8_allAtoms_0 7 rfl) ?_
  exact g_iret C (by omega) (by omega) ⟨rfl, rfl⟩ (gd DX8_allAtoms_0 8 rfl)
theorem e_w_testAtoms (hw : wSh W h) {nt : Nat} (h0 : hI h W 0 = nI nt) (hnt : nt ≤ 3) (t : Int32) : EvF w 0 0 0 yX8_testAtoms cX8_testAtoms 4 (some .int) [.ref W, .int t] h (some (.int (holdC t (2 ^ nt)))) h := by
  refine g_start (by decide) (Nat.le_of_ble_eq_true rfl) [(0, _), (1, _)] rfl (fun z hfl C => ?_)
  have p8 : 2 ^ nt ≤ 2 ^ 3 := Nat.pow_le_pow_right (by omega) hnt
  have key : ∀ y k, k + y = 2 ^ nt → GW z w 4 (gQ z w 0 0 (fun r' h'' => r' = some (.int (holdC t (2 ^ nt))) ∧ h'' = h)) 0 0 4 [(0, .ref W), (1, .int t), (2, .int (holdC t k)), (3, .int (nI k))] [] h := by
    intro y
    induction y with
    | zero =>
      intro k hk
      refine g_iload_n C (gd DX8_testAtoms_0 4 rfl) 3 rfl rfl ?_
      refine g_iconst (v := 1) C (gd DX8_testAtoms_0 5 rfl) (by decide) ?_
      refine g_aload_n C (gd DX8_testAtoms_0 6 rfl) 0 rfl rfl ?_
      refine g_geti (ci := 8) (k := 0) C rfl (by decide) rfl lf_TestJudge_World_9 hw.1 (gd DX8_testAtoms_0 7 rfl) ?_
      refine g_ishl C (gd DX8_testAtoms_0 8 rfl) ?_
      rw [h0, show (1 : Int32) <<< (nI nt &&& 31) = nI (2 ^ nt) from atF_n hnt]
      refine g_icmp_ge C 30 (gd DX8_testAtoms_0 9 rfl) (by decide) (fun c11 => ?_) (fun c11 => ?_)
      · refine g_iload_n C (gd DX8_testAtoms_0 22 rfl) 2 rfl rfl ?_
        exact g_iret C (by omega) (by omega) ⟨by rw [show k = 2 ^ nt by omega], rfl⟩ (gd DX8_testAtoms_0 23 rfl)
      · exact absurd (nI_le (by omega) (by omega)) c11
    | succ y ih =>
      intro k hk
      refine g_iload_n C (gd DX8_testAtoms_0 4 rfl) 3 rfl rfl ?_
      refine g_iconst (v := 1) C (gd DX8_testAtoms_0 5 rfl) (by decide) ?_
      refine g_aload_n C (gd DX8_testAtoms_0 6 rfl) 0 rfl rfl ?_
      refine g_geti (ci := 8) (k := 0) C rfl (by decide) rfl lf_TestJudge_World_9 hw.1 (gd DX8_testAtoms_0 7 rfl) ?_
      refine g_ishl C (gd DX8_testAtoms_0 8 rfl) ?_
      rw [h0, show (1 : Int32) <<< (nI nt &&& 31) = nI (2 ^ nt) from atF_n hnt]
      refine g_icmp_ge C 30 (gd DX8_testAtoms_0 9 rfl) (by decide) (fun c11 => ?_) (fun c11 => ?_)
      · exact absurd c11 (nI_ge (by omega) (by omega))
      · refine g_iload_n C (gd DX8_testAtoms_0 10 rfl) 2 rfl rfl ?_
        refine g_iload_n C (gd DX8_testAtoms_0 11 rfl) 3 rfl rfl ?_
        refine g_iload_n C (gd DX8_testAtoms_0 12 rfl) 1 rfl rfl ?_
        refine g_ishr C (gd DX8_testAtoms_0 13 rfl) ?_
        refine g_iconst (v := 1) C (gd DX8_testAtoms_0 14 rfl) (by decide) ?_
        refine g_iand C (gd DX8_testAtoms_0 15 rfl) ?_
        refine g_iload_n C (gd DX8_testAtoms_0 16 rfl) 3 rfl rfl ?_
        refine g_ishl C (gd DX8_testAtoms_0 17 rfl) ?_
        refine g_ior C (gd DX8_testAtoms_0 18 rfl) ?_
        refine g_istore_n (lv' := [(0, _), (1, _), (2, _), (3, _)]) C (gd DX8_testAtoms_0 19 rfl) [1, 2, 0, 3] rfl (by decide) rfl ?_
        refine g_iinc (lv' := [(0, _), (1, _), (2, _), (3, _)]) C (gd DX8_testAtoms_0 20 rfl) 3 [1, 2, 3, 0] rfl rfl (by decide) rfl ?_
        refine g_goto (tgt := 4) C (gd DX8_testAtoms_0 21 rfl) (by decide) ?_
        exact GW.cast (by rw [inc1]; rfl) rfl rfl (ih (k + 1) (by omega))
  refine g_iconst (v := 0) C (gd DX8_testAtoms_0 0 rfl) (by decide) ?_
  refine g_istore_n (lv' := [(0, _), (1, _), (2, _)]) C (gd DX8_testAtoms_0 1 rfl) [1, 2, 0] rfl (by decide) rfl ?_
  refine g_iconst (v := 0) C (gd DX8_testAtoms_0 2 rfl) (by decide) ?_
  refine g_istore_n (lv' := [(0, _), (1, _), (2, _), (3, _)]) C (gd DX8_testAtoms_0 3 rfl) [1, 2, 3, 0] rfl (by decide) rfl ?_
  exact key (2 ^ nt) 0 (by omega)
theorem e_w_piece (hw : wSh W h) {np r a : Nat} (hnp : np ≤ 8) (h2 : hI h W 2 = nI np) (hr : r < np) (ha : hR h (W + 1) r = some a) : EvF w 0 0 0 yX8_piece cX8_piece 3 (some (.object RX2)) [.ref W, .int (nI r)] h (some (.ref a)) h := by
  refine g_start (by decide) (Nat.le_of_ble_eq_true rfl) [(0, _), (1, _)] rfl (fun z hfl C => ?_)
  refine g_iload_n C (gd DX8_piece_0 0 rfl) 1 rfl rfl ?_
  refine g_if_lt C 21 (gd DX8_piece_0 1 rfl) (by decide) (fun c1 => ?_) (fun c1 => ?_)
  · exact absurd c1 (nI_nn (by omega))
  · refine g_iload_n C (gd DX8_piece_0 2 rfl) 1 rfl rfl ?_
    refine g_aload_n C (gd DX8_piece_0 3 rfl) 0 rfl rfl ?_
    refine g_geti (ci := 8) (k := 2) C rfl (by decide) rfl lf_TestJudge_World_18 hw.1 (gd DX8_piece_0 4 rfl) ?_
    rw [h2]
    refine g_icmp_ge C 21 (gd DX8_piece_0 5 rfl) (by decide) (fun c9 => ?_) (fun c9 => ?_)
    · exact absurd c9 (nI_ge hr (by omega))
    · refine g_aload_n C (gd DX8_piece_0 6 rfl) 0 rfl rfl ?_
      refine g_getr (ci := 8) (k := 5) C rfl (by decide) rfl lf_TestJudge_World_29 hw.1 hw.2.1.1 (gd DX8_piece_0 7 rfl) ?_
      refine g_iload_n C (gd DX8_piece_0 8 rfl) 1 rfl rfl ?_
      refine g_aaj (j := r) C hw.2.1.2.1 hw.2.1.2.2 (by first | decide | omega) rfl (by omega) (gd DX8_piece_0 9 rfl) ?_
      rw [ha]
      show GW z w 3 _ 0 0 _ _ [.ref a] _
      refine g_goto (tgt := 22) C (gd DX8_piece_0 10 rfl) (by decide) ?_
      refine g_astore_n (lv' := [(0, _), (1, _), (2, _)]) C (gd DX8_piece_0 12 rfl) [1, 2, 0] rfl (by decide) rfl ?_
      refine g_aload_n C (gd DX8_piece_0 13 rfl) 2 rfl rfl ?_
      refine g_ifnonnull C 34 (gd DX8_piece_0 14 rfl) (by decide) ?_
      refine g_aload_n C (gd DX8_piece_0 18 rfl) 2 rfl rfl ?_
      exact g_aret C (by omega) (by omega) ⟨rfl, rfl⟩ (gd DX8_piece_0 19 rfl)
theorem e_w_bar (hw : wSh W h) {f a : Nat} (hf : f < 4) (ha : hR h (W + 4) f = some a) : EvF w 0 0 0 yX8_bar cX8_bar 3 (some (.object RX2)) [.ref W, .int (nI f)] h (some (.ref a)) h := by
  refine g_start (by decide) (Nat.le_of_ble_eq_true rfl) [(0, _), (1, _)] rfl (fun z hfl C => ?_)
  refine g_iload_n C (gd DX8_bar_0 0 rfl) 1 rfl rfl ?_
  refine g_if_lt C 22 (gd DX8_bar_0 1 rfl) (by decide) (fun c1 => ?_) (fun c1 => ?_)
  · exact absurd c1 (nI_nn (by omega))
  · refine g_iload_n C (gd DX8_bar_0 2 rfl) 1 rfl rfl ?_
    refine g_aload_n C (gd DX8_bar_0 3 rfl) 0 rfl rfl ?_
    refine g_getr (ci := 8) (k := 8) C rfl (by decide) rfl lf_TestJudge_World_40 hw.1 hw.2.2.2.2.1.1 (gd DX8_bar_0 4 rfl) ?_
    refine g_alen_r C hw.2.2.2.2.1.2.1 (gd DX8_bar_0 5 rfl) ?_
    rw [hw.2.2.2.2.1.2.2]
    refine g_icmp_ge C 22 (gd DX8_bar_0 6 rfl) (by decide) (fun c10 => ?_) (fun c10 => ?_)
    · exact absurd c10 (nI_ge (a := f) (b := 4) hf (by omega))
    · refine g_aload_n C (gd DX8_bar_0 7 rfl) 0 rfl rfl ?_
      refine g_getr (ci := 8) (k := 8) C rfl (by decide) rfl lf_TestJudge_World_40 hw.1 hw.2.2.2.2.1.1 (gd DX8_bar_0 8 rfl) ?_
      refine g_iload_n C (gd DX8_bar_0 9 rfl) 1 rfl rfl ?_
      refine g_aaj (j := f) C hw.2.2.2.2.1.2.1 hw.2.2.2.2.1.2.2 (by first | decide | omega) rfl (by omega) (gd DX8_bar_0 10 rfl) ?_
      rw [ha]
      show GW z w 3 _ 0 0 _ _ [.ref a] _
      refine g_goto (tgt := 23) C (gd DX8_bar_0 11 rfl) (by decide) ?_
      refine g_astore_n (lv' := [(0, _), (1, _), (2, _)]) C (gd DX8_bar_0 13 rfl) [1, 2, 0] rfl (by decide) rfl ?_
      refine g_aload_n C (gd DX8_bar_0 14 rfl) 2 rfl rfl ?_
      refine g_ifnonnull C 35 (gd DX8_bar_0 15 rfl) (by decide) ?_
      refine g_aload_n C (gd DX8_bar_0 19 rfl) 2 rfl rfl ?_
      exact g_aret C (by omega) (by omega) ⟨rfl, rfl⟩ (gd DX8_bar_0 20 rfl)
/-- while no text was read nothing is barred -/
theorem e_w_bar0 (hw : wSh W h) {f : Nat} (hf : f < 4) (ha : hR h (W + 4) f = none) : EvF w 0 0 0 yX8_bar cX8_bar 3 (some (.object RX2)) [.ref W, .int (nI f)] h (some (.ref (W + 5))) h := by
  refine g_start (by decide) (Nat.le_of_ble_eq_true rfl) [(0, _), (1, _)] rfl (fun z hfl C => ?_)
  refine g_iload_n C (gd DX8_bar_0 0 rfl) 1 rfl rfl ?_
  refine g_if_lt C 22 (gd DX8_bar_0 1 rfl) (by decide) (fun c1 => ?_) (fun c1 => ?_)
  · exact absurd c1 (nI_nn (by omega))
  · refine g_iload_n C (gd DX8_bar_0 2 rfl) 1 rfl rfl ?_
    refine g_aload_n C (gd DX8_bar_0 3 rfl) 0 rfl rfl ?_
    refine g_getr (ci := 8) (k := 8) C rfl (by decide) rfl lf_TestJudge_World_40 hw.1 hw.2.2.2.2.1.1 (gd DX8_bar_0 4 rfl) ?_
    refine g_alen_r C hw.2.2.2.2.1.2.1 (gd DX8_bar_0 5 rfl) ?_
    rw [hw.2.2.2.2.1.2.2]
    refine g_icmp_ge C 22 (gd DX8_bar_0 6 rfl) (by decide) (fun c10 => ?_) (fun c10 => ?_)
    · exact absurd c10 (nI_ge (a := f) (b := 4) hf (by omega))
    · refine g_aload_n C (gd DX8_bar_0 7 rfl) 0 rfl rfl ?_
      refine g_getr (ci := 8) (k := 8) C rfl (by decide) rfl lf_TestJudge_World_40 hw.1 hw.2.2.2.2.1.1 (gd DX8_bar_0 8 rfl) ?_
      refine g_iload_n C (gd DX8_bar_0 9 rfl) 1 rfl rfl ?_
      refine g_aaj (j := f) C hw.2.2.2.2.1.2.1 hw.2.2.2.2.1.2.2 (by first | decide | omega) rfl (by omega) (gd DX8_bar_0 10 rfl) ?_
      rw [ha]
      show GW z w 3 _ 0 0 _ _ [.null] _
      refine g_goto (tgt := 23) C (gd DX8_bar_0 11 rfl) (by decide) ?_
      refine g_astore_nN (lv' := [(0, _), (1, _), (2, _)]) C (gd DX8_bar_0 13 rfl) [1, 2, 0] rfl (by decide) rfl ?_
      refine g_aload_nN C (gd DX8_bar_0 14 rfl) 2 rfl rfl ?_
      refine g_ifnonnullN C (gd DX8_bar_0 15 rfl) ?_
      refine g_aload_n C (gd DX8_bar_0 16 rfl) 0 rfl rfl ?_
      refine g_getr (ci := 8) (k := 9) C rfl (by decide) rfl lf_TestJudge_World_46 hw.1 hw.2.2.2.2.2.1 (gd DX8_bar_0 17 rfl) ?_
      refine g_goto (tgt := 36) C (gd DX8_bar_0 18 rfl) (by decide) ?_
      exact g_aret C (by omega) (by omega) ⟨rfl, rfl⟩ (gd DX8_bar_0 20 rfl)
theorem e_w_layer (hw : wSh W h) {np r : Nat} (hnp : np ≤ 8) (h2 : hI h W 2 = nI np) (hr : r < np) : EvF w 0 0 0 yX8_layer cX8_layer 2 (some .int) [.ref W, .int (nI r)] h (some (.int (hI h (W + 2) r))) h := by
  refine g_start (by decide) (Nat.le_of_ble_eq_true rfl) [(0, _), (1, _)] rfl (fun z hfl C => ?_)
  refine g_iload_n C (gd DX8_layer_0 0 rfl) 1 rfl rfl ?_
  refine g_if_lt C 21 (gd DX8_layer_0 1 rfl) (by decide) (fun c1 => ?_) (fun c1 => ?_)
  · exact absurd c1 (nI_nn (by omega))
  · refine g_iload_n C (gd DX8_layer_0 2 rfl) 1 rfl rfl ?_
    refine g_aload_n C (gd DX8_layer_0 3 rfl) 0 rfl rfl ?_
    refine g_geti (ci := 8) (k := 2) C rfl (by decide) rfl lf_TestJudge_World_18 hw.1 (gd DX8_layer_0 4 rfl) ?_
    rw [h2]
    refine g_icmp_ge C 21 (gd DX8_layer_0 5 rfl) (by decide) (fun c9 => ?_) (fun c9 => ?_)
    · exact absurd c9 (nI_ge hr (by omega))
    · refine g_aload_n C (gd DX8_layer_0 6 rfl) 0 rfl rfl ?_
      refine g_getr (ci := 8) (k := 6) C rfl (by decide) rfl lf_TestJudge_World_33 hw.1 hw.2.2.1.1 (gd DX8_layer_0 7 rfl) ?_
      refine g_iload_n C (gd DX8_layer_0 8 rfl) 1 rfl rfl ?_
      refine g_iaj (j := r) C hw.2.2.1.2.1 hw.2.2.1.2.2 (by first | decide | omega) rfl (by omega) (gd DX8_layer_0 9 rfl) ?_
      refine g_goto (tgt := 22) C (gd DX8_layer_0 10 rfl) (by decide) ?_
      exact g_iret C (by omega) (by omega) ⟨rfl, rfl⟩ (gd DX8_layer_0 12 rfl)
theorem e_w_factPiece (hw : wSh W h) {nf f a : Nat} (hnf : nf ≤ 2) (h3 : hI h W 3 = nI nf) (hf : f < nf) (ha : hR h (W + 3) f = some a) : EvF w 0 0 0 yX8_factPiece cX8_factPiece 3 (some (.object RX2)) [.ref W, .int (nI f)] h (some (.ref a)) h := by
  refine g_start (by decide) (Nat.le_of_ble_eq_true rfl) [(0, _), (1, _)] rfl (fun z hfl C => ?_)
  refine g_iload_n C (gd DX8_factPiece_0 0 rfl) 1 rfl rfl ?_
  refine g_if_lt C 21 (gd DX8_factPiece_0 1 rfl) (by decide) (fun c1 => ?_) (fun c1 => ?_)
  · exact absurd c1 (nI_nn (by omega))
  · refine g_iload_n C (gd DX8_factPiece_0 2 rfl) 1 rfl rfl ?_
    refine g_aload_n C (gd DX8_factPiece_0 3 rfl) 0 rfl rfl ?_
    refine g_geti (ci := 8) (k := 3) C rfl (by decide) rfl lf_TestJudge_World_21 hw.1 (gd DX8_factPiece_0 4 rfl) ?_
    rw [h3]
    refine g_icmp_ge C 21 (gd DX8_factPiece_0 5 rfl) (by decide) (fun c9 => ?_) (fun c9 => ?_)
    · exact absurd c9 (nI_ge hf (by omega))
    · refine g_aload_n C (gd DX8_factPiece_0 6 rfl) 0 rfl rfl ?_
      refine g_getr (ci := 8) (k := 7) C rfl (by decide) rfl lf_TestJudge_World_37 hw.1 hw.2.2.2.1.1 (gd DX8_factPiece_0 7 rfl) ?_
      refine g_iload_n C (gd DX8_factPiece_0 8 rfl) 1 rfl rfl ?_
      refine g_aaj (j := f) C hw.2.2.2.1.2.1 hw.2.2.2.1.2.2 (by first | decide | omega) rfl (by omega) (gd DX8_factPiece_0 9 rfl) ?_
      rw [ha]
      show GW z w 3 _ 0 0 _ _ [.ref a] _
      refine g_goto (tgt := 22) C (gd DX8_factPiece_0 10 rfl) (by decide) ?_
      refine g_astore_n (lv' := [(0, _), (1, _), (2, _)]) C (gd DX8_factPiece_0 12 rfl) [1, 2, 0] rfl (by decide) rfl ?_
      refine g_aload_n C (gd DX8_factPiece_0 13 rfl) 2 rfl rfl ?_
      refine g_ifnonnull C 34 (gd DX8_factPiece_0 14 rfl) (by decide) ?_
      refine g_aload_n C (gd DX8_factPiece_0 18 rfl) 2 rfl rfl ?_
      exact g_aret C (by omega) (by omega) ⟨rfl, rfl⟩ (gd DX8_factPiece_0 19 rfl)
end C9
