/-! Deeds -/
def dSh (D : Nat) (h : HS) : Prop := hK h D = 1 ∧ (hR h D 1 = some (D + 1) ∧ hK h (D + 1) = 12 ∧ hN h (D + 1) = 8) ∧ (hR h D 2 = some (D + 2) ∧ hK h (D + 2) = 12 ∧ hN h (D + 2) = 8) ∧ (hR h D 3 = some (D + 3) ∧ hK h (D + 3) = 16 ∧ hN h (D + 3) = 8) ∧ hR h D 4 = some (D + 4) ∧ hK h (D + 4) = 12 ∧ hN h (D + 4) = 8
/-- deeds with their number F, kinds A, numbers B, layers L, pieces P -/
def hD (D : Nat) (h : HS) (F A B L : Nat → Int32) (P : Nat → Option Nat) : HS := sO (sF (sF (sF (sF h D F) (D + 1) A) (D + 2) B) (D + 4) L) (D + 3) P
section HD
variable {D : Nat} {h : HS} {F A B L : Nat → Int32} {P : Nat → Option Nat}
theorem hD_0 : hI (hD D h F A B L P) D = F := by
  show hI (sF (sF (sF (sF h D F) (D + 1) A) (D + 2) B) (D + 4) L) D = F
  rw [hI_sF_ne (by omega), hI_sF_ne (by omega), hI_sF_ne (by omega), hI_sF_eq]
theorem hD_1 : hI (hD D h F A B L P) (D + 1) = A := by
  show hI (sF (sF (sF (sF h D F) (D + 1) A) (D + 2) B) (D + 4) L) (D + 1) = A
  rw [hI_sF_ne (by omega), hI_sF_ne (by omega), hI_sF_eq]
theorem hD_2 : hI (hD D h F A B L P) (D + 2) = B := by
  show hI (sF (sF (sF (sF h D F) (D + 1) A) (D + 2) B) (D + 4) L) (D + 2) = B
  rw [hI_sF_ne (by omega), hI_sF_eq]
theorem hD_4 : hI (hD D h F A B L P) (D + 4) = L := hI_sF_eq _ _ _
theorem hD_3 : hR (hD D h F A B L P) (D + 3) = P := hR_sO_eq _ _ _
theorem hD_ne {b : Nat} (hb : ¬ (b = D ∨ b = D + 1 ∨ b = D + 2 ∨ b = D + 4)) : hI (hD D h F A B L P) b = hI h b := by
  show hI (sF (sF (sF (sF h D F) (D + 1) A) (D + 2) B) (D + 4) L) b = _
  rw [hI_sF_ne (by omega), hI_sF_ne (by omega), hI_sF_ne (by omega), hI_sF_ne (by omega)]
theorem hD_neR {b : Nat} (hb : b ≠ D + 3) : hR (hD D h F A B L P) b = hR h b := hR_sO_ne hb
theorem hD_i0 {k : Nat} {v : Int32} : sI (hD D h F A B L P) D k v = hD D h (upd F k v) A B L P := by
  rw [sI_sF, hD_0]
  unfold hD
  rw [sF_sO, sF_sF_c (by omega), sF_sF_c (a := D + 2) (by omega), sF_sF_c (a := D + 1) (by omega), sF_sF]
theorem hD_i1 {k : Nat} {v : Int32} : sI (hD D h F A B L P) (D + 1) k v = hD D h F (upd A k v) B L P := by
  rw [sI_sF, hD_1]
  unfold hD
  rw [sF_sO, sF_sF_c (by omega), sF_sF_c (a := D + 2) (by omega), sF_sF]
theorem hD_i2 {k : Nat} {v : Int32} : sI (hD D h F A B L P) (D + 2) k v = hD D h F A (upd B k v) L P := by
  rw [sI_sF, hD_2]
  unfold hD
  rw [sF_sO, sF_sF_c (by omega), sF_sF]
theorem hD_i4 {k : Nat} {v : Int32} : sI (hD D h F A B L P) (D + 4) k v = hD D h F A B (upd L k v) P := by
  rw [sI_sF, hD_4]
  unfold hD
  rw [sF_sO, sF_sF]
theorem hD_r3 {k : Nat} {v : Option Nat} : sR (hD D h F A B L P) (D + 3) k v = hD D h F A B L (updO P k v) := by
  rw [sR_sO, hD_3]
  unfold hD
  rw [sO_sO]
theorem hD_self : hD D h (hI h D) (hI h (D + 1)) (hI h (D + 2)) (hI h (D + 4)) (hR h (D + 3)) = h := by
  unfold hD
  rw [sF_self, sF_self, sF_self, sF_self]
  exact sO_self h (D + 3)
theorem dSh.dd (hd : dSh D h) : dSh D (hD D h F A B L P) := by
  unfold dSh
  rw [hD_neR (by omega)]
  exact hd
end HD
section C34
variable {w : gD} {D : Nat} {h : HS}
theorem e_d_forgetOldest (hd : dSh D h) {F A B L : Nat → Int32} {P : Nat → Option Nat} (hP : ∀ j, j < 8 → ∃ b, P j = some b ∧ hK h b = 3) : EvF w 0 0 0 yX0_forgetOldest cX0_forgetOldest 2 none [.ref D] (hD D h F A B L P) none (hD D h (upd F 0 (nI 7)) (mvD A 0 7) (mvD B 0 7) (mvD L 0 7) (mvD P 0 7)) := by
  refine g_start (by decide) (Nat.le_of_ble_eq_true rfl) [(0, _)] rfl (fun z hfl C => ?_)
  have loop : ∀ y i, i + y = 7 → GW z w 2 (gQ z w 0 0 (fun r' h'' => r' = none ∧ h'' = hD D h (upd F 0 (nI 7)) (mvD A 0 7) (mvD B 0 7) (mvD L 0 7) (mvD P 0 7))) 0 0 2 [(0, .ref D), (1, .int (nI (i + 1)))] [] (hD D h F (mvD A 0 i) (mvD B 0 i) (mvD L 0 i) (mvD P 0 i)) := by
    intro y
    induction y with
    | zero =>
      intro i hi
      have ei : i = 7 := hi
      subst ei
      refine g_iload_n C (gd DX0_forgetOldest_0 2 rfl) 1 rfl rfl ?_
      refine g_bipush (v := 8) C (gd DX0_forgetOldest_0 3 rfl) (by decide) ?_
      refine g_icmp_ge C 70 (gd DX0_forgetOldest_0 4 rfl) (by decide) (fun c5 => ?_) (fun c5 => ?_)
      · refine GW.sub [0, 1] rfl (Nat.le_refl _) (Nat.le_refl _) (lv' := [(0, _), (1, _)]) ?_
        refine g_aload_n C (gd DX0_forgetOldest_0 47 rfl) 0 rfl rfl ?_
        refine g_bipush (v := 7) C (gd DX0_forgetOldest_0 48 rfl) (by decide) ?_
        refine g_puti (ci := 0) (k := 0) C rfl (by decide) rfl lf_TestJudge_Deeds_9 hd.dd.1 (Or.inl rfl) rfl (gd DX0_forgetOldest_0 49 rfl) ?_
        rw [hD_i0]
        exact g_vret C (by omega) (by omega) ⟨rfl, rfl⟩ (gd DX0_forgetOldest_0 50 rfl)
      · exact absurd (by decide) c5
    | succ y ih =>
      intro i hi
      obtain ⟨b, hb, kb⟩ := hP (i + 1) (by omega)
      have e1 : mvD P 0 i (i + 1) = some b := (if_neg (by omega)).trans hb
      have em : nI (i + 1) - 1 = nI i := nx_sub (a := i + 1) (b := 1) rfl rfl (by omega)
      refine g_iload_n C (gd DX0_forgetOldest_0 2 rfl) 1 rfl rfl ?_
      refine g_bipush (v := 8) C (gd DX0_forgetOldest_0 3 rfl) (by decide) ?_
      refine g_icmp_ge C 70 (gd DX0_forgetOldest_0 4 rfl) (by decide) (fun c5 => ?_) (fun c5 => ?_)
      · exact absurd c5 (nI_ge (a := i + 1) (b := 8) (by omega) (by omega))
      · refine g_aload_n C (gd DX0_forgetOldest_0 5 rfl) 0 rfl rfl ?_
        refine g_getr (ci := 0) (k := 1) C rfl (by decide) rfl lf_TestJudge_Deeds_15 hd.dd.1 hd.dd.2.1.1 (gd DX0_forgetOldest_0 6 rfl) ?_
        refine g_iload_n C (gd DX0_forgetOldest_0 7 rfl) 1 rfl rfl ?_
        refine g_iconst (v := 1) C (gd DX0_forgetOldest_0 8 rfl) (by decide) ?_
        refine g_isub C (gd DX0_forgetOldest_0 9 rfl) ?_
        refine g_aload_n C (gd DX0_forgetOldest_0 10 rfl) 0 rfl rfl ?_
        refine g_getr (ci := 0) (k := 1) C rfl (by decide) rfl lf_TestJudge_Deeds_15 hd.dd.1 hd.dd.2.1.1 (gd DX0_forgetOldest_0 11 rfl) ?_
        refine g_iload_n C (gd DX0_forgetOldest_0 12 rfl) 1 rfl rfl ?_
        refine g_iaj (j := (i + 1)) C hd.dd.2.1.2.1 hd.dd.2.1.2.2 (by first | decide | omega) rfl (by omega) (gd DX0_forgetOldest_0 13 rfl) ?_
        rw [hD_1]
        refine g_isj (j := i) C hd.dd.2.1.2.1 hd.dd.2.1.2.2 (by omega) em (by omega) (gd DX0_forgetOldest_0 14 rfl) ?_
        rw [hD_i1, mvD_s A (by omega)]
        refine g_aload_n C (gd DX0_forgetOldest_0 15 rfl) 0 rfl rfl ?_
        refine g_getr (ci := 0) (k := 2) C rfl (by decide) rfl lf_TestJudge_Deeds_19 hd.dd.1 hd.dd.2.2.1.1 (gd DX0_forgetOldest_0 16 rfl) ?_
        refine g_iload_n C (gd DX0_forgetOldest_0 17 rfl) 1 rfl rfl ?_
        refine g_iconst (v := 1) C (gd DX0_forgetOldest_0 18 rfl) (by decide) ?_
        refine g_isub C (gd DX0_forgetOldest_0 19 rfl) ?_
        refine g_aload_n C (gd DX0_forgetOldest_0 20 rfl) 0 rfl rfl ?_
        refine g_getr (ci := 0) (k := 2) C rfl (by decide) rfl lf_TestJudge_Deeds_19 hd.dd.1 hd.dd.2.2.1.1 (gd DX0_forgetOldest_0 21 rfl) ?_
        refine g_iload_n C (gd DX0_forgetOldest_0 22 rfl) 1 rfl rfl ?_
        refine g_iaj (j := (i + 1)) C hd.dd.2.2.1.2.1 hd.dd.2.2.1.2.2 (by first | decide | omega) rfl (by omega) (gd DX0_forgetOldest_0 23 rfl) ?_
        rw [hD_2]
        refine g_isj (j := i) C hd.dd.2.2.1.2.1 hd.dd.2.2.1.2.2 (by omega) em (by omega) (gd DX0_forgetOldest_0 24 rfl) ?_
        rw [hD_i2, mvD_s B (by omega)]
        refine g_aload_n C (gd DX0_forgetOldest_0 25 rfl) 0 rfl rfl ?_
        refine g_getr (ci := 0) (k := 3) C rfl (by decide) rfl lf_TestJudge_Deeds_24 hd.dd.1 hd.dd.2.2.2.1.1 (gd DX0_forgetOldest_0 26 rfl) ?_
        refine g_iload_n C (gd DX0_forgetOldest_0 27 rfl) 1 rfl rfl ?_
        refine g_iconst (v := 1) C (gd DX0_forgetOldest_0 28 rfl) (by decide) ?_
        refine g_isub C (gd DX0_forgetOldest_0 29 rfl) ?_
        refine g_aload_n C (gd DX0_forgetOldest_0 30 rfl) 0 rfl rfl ?_
        refine g_getr (ci := 0) (k := 3) C rfl (by decide) rfl lf_TestJudge_Deeds_24 hd.dd.1 hd.dd.2.2.2.1.1 (gd DX0_forgetOldest_0 31 rfl) ?_
        refine g_iload_n C (gd DX0_forgetOldest_0 32 rfl) 1 rfl rfl ?_
        refine g_aaj (j := (i + 1)) C hd.dd.2.2.2.1.2.1 hd.dd.2.2.2.1.2.2 (by first | decide | omega) rfl (by omega) (gd DX0_forgetOldest_0 33 rfl) ?_
        rw [hD_3, e1]
        refine g_asj (j := i) C hd.dd.2.2.2.1.2.1 kb hd.dd.2.2.2.1.2.2 (by omega) em (by omega) (gd DX0_forgetOldest_0 34 rfl) ?_
        rw [hD_r3, ← e1, mvD_sO P (by omega)]
        refine g_aload_n C (gd DX0_forgetOldest_0 35 rfl) 0 rfl rfl ?_
        refine g_getr (ci := 0) (k := 4) C rfl (by decide) rfl lf_TestJudge_Deeds_28 hd.dd.1 hd.dd.2.2.2.2.1 (gd DX0_forgetOldest_0 36 rfl) ?_
        refine g_iload_n C (gd DX0_forgetOldest_0 37 rfl) 1 rfl rfl ?_
        refine g_iconst (v := 1) C (gd DX0_forgetOldest_0 38 rfl) (by decide) ?_
        refine g_isub C (gd DX0_forgetOldest_0 39 rfl) ?_
        refine g_aload_n C (gd DX0_forgetOldest_0 40 rfl) 0 rfl rfl ?_
        refine g_getr (ci := 0) (k := 4) C rfl (by decide) rfl lf_TestJudge_Deeds_28 hd.dd.1 hd.dd.2.2.2.2.1 (gd DX0_forgetOldest_0 41 rfl) ?_
        refine g_iload_n C (gd DX0_forgetOldest_0 42 rfl) 1 rfl rfl ?_
        refine g_iaj (j := (i + 1)) C hd.dd.2.2.2.2.2.1 hd.dd.2.2.2.2.2.2 (by first | decide | omega) rfl (by omega) (gd DX0_forgetOldest_0 43 rfl) ?_
        rw [hD_4]
        refine g_isj (j := i) C hd.dd.2.2.2.2.2.1 hd.dd.2.2.2.2.2.2 (by omega) em (by omega) (gd DX0_forgetOldest_0 44 rfl) ?_
        rw [hD_i4, mvD_s L (by omega)]
        refine g_iinc (lv' := [(0, _), (1, _)]) C (gd DX0_forgetOldest_0 45 rfl) 1 [1, 0] rfl rfl (by decide) rfl ?_
        refine g_goto (tgt := 2) C (gd DX0_forgetOldest_0 46 rfl) (by decide) ?_
        exact GW.cast (by rw [inc1]) rfl rfl (ih (i + 1) (by omega))
  refine g_iconst (v := 1) C (gd DX0_forgetOldest_0 0 rfl) (by decide) ?_
  refine g_istore_n (lv' := [(0, _), (1, _)]) C (gd DX0_forgetOldest_0 1 rfl) [1, 0] rfl (by decide) rfl ?_
  refine GW.cast rfl rfl ?_ (loop 7 0 rfl)
  rw [mvD_0, mvD_0, mvD_0, mvD_0]
theorem e_d_keepAt (hd : dSh D h) {k a : Nat} (hk : k < 8) {F A B L : Nat → Int32} {P : Nat → Option Nat} (h0 : F 0 = nI k) (ka : hK h a = 3) (c n l : Int32) : EvF w 1 0 0 yX0_keep cX0_keep 5 none [.ref D, .int c, .int n, .ref a, .int l] (hD D h F A B L P) none (hD D h (upd F 0 (nI (k + 1))) (upd A k c) (upd B k n) (upd L k l) (updO P k (some a))) := by
  refine g_start (by decide) (Nat.le_of_ble_eq_true rfl) [(0, _), (1, _), (2, _), (3, _), (4, _)] rfl (fun z hfl C => ?_)
  refine g_aload_n C (gd DX0_keep_0 0 rfl) 0 rfl rfl ?_
  refine g_geti (ci := 0) (k := 0) C rfl (by decide) rfl lf_TestJudge_Deeds_9 hd.dd.1 (gd DX0_keep_0 1 rfl) ?_
  rw [hD_0, h0]
  refine g_bipush (v := 8) C (gd DX0_keep_0 2 rfl) (by decide) ?_
  refine g_icmp_lt C 13 (gd DX0_keep_0 3 rfl) (by decide) (fun c6 => ?_) (fun c6 => ?_)
  · refine g_aload_n C (gd DX0_keep_0 6 rfl) 0 rfl rfl ?_
    refine g_getr (ci := 0) (k := 1) C rfl (by decide) rfl lf_TestJudge_Deeds_15 hd.dd.1 hd.dd.2.1.1 (gd DX0_keep_0 7 rfl) ?_
    refine g_aload_n C (gd DX0_keep_0 8 rfl) 0 rfl rfl ?_
    refine g_geti (ci := 0) (k := 0) C rfl (by decide) rfl lf_TestJudge_Deeds_9 hd.dd.1 (gd DX0_keep_0 9 rfl) ?_
    rw [hD_0, h0]
    refine g_iload_n C (gd DX0_keep_0 10 rfl) 1 rfl rfl ?_
    refine g_isj (j := k) C hd.dd.2.1.2.1 hd.dd.2.1.2.2 (by first | decide | omega) rfl (by omega) (gd DX0_keep_0 11 rfl) ?_
    rw [hD_i1]
    refine g_aload_n C (gd DX0_keep_0 12 rfl) 0 rfl rfl ?_
    refine g_getr (ci := 0) (k := 2) C rfl (by decide) rfl lf_TestJudge_Deeds_19 hd.dd.1 hd.dd.2.2.1.1 (gd DX0_keep_0 13 rfl) ?_
    refine g_aload_n C (gd DX0_keep_0 14 rfl) 0 rfl rfl ?_
    refine g_geti (ci := 0) (k := 0) C rfl (by decide) rfl lf_TestJudge_Deeds_9 hd.dd.1 (gd DX0_keep_0 15 rfl) ?_
    rw [hD_0, h0]
    refine g_iload_n C (gd DX0_keep_0 16 rfl) 2 rfl rfl ?_
    refine g_isj (j := k) C hd.dd.2.2.1.2.1 hd.dd.2.2.1.2.2 (by first | decide | omega) rfl (by omega) (gd DX0_keep_0 17 rfl) ?_
    rw [hD_i2]
    refine g_aload_n C (gd DX0_keep_0 18 rfl) 0 rfl rfl ?_
    refine g_getr (ci := 0) (k := 3) C rfl (by decide) rfl lf_TestJudge_Deeds_24 hd.dd.1 hd.dd.2.2.2.1.1 (gd DX0_keep_0 19 rfl) ?_
    refine g_aload_n C (gd DX0_keep_0 20 rfl) 0 rfl rfl ?_
    refine g_geti (ci := 0) (k := 0) C rfl (by decide) rfl lf_TestJudge_Deeds_9 hd.dd.1 (gd DX0_keep_0 21 rfl) ?_
    rw [hD_0, h0]
    refine g_aload_n C (gd DX0_keep_0 22 rfl) 3 rfl rfl ?_
    refine g_asj (j := k) C hd.dd.2.2.2.1.2.1 ka hd.dd.2.2.2.1.2.2 (by first | decide | omega) rfl (by omega) (gd DX0_keep_0 23 rfl) ?_
    rw [hD_r3]
    refine g_aload_n C (gd DX0_keep_0 24 rfl) 0 rfl rfl ?_
    refine g_getr (ci := 0) (k := 4) C rfl (by decide) rfl lf_TestJudge_Deeds_28 hd.dd.1 hd.dd.2.2.2.2.1 (gd DX0_keep_0 25 rfl) ?_
    refine g_aload_n C (gd DX0_keep_0 26 rfl) 0 rfl rfl ?_
    refine g_geti (ci := 0) (k := 0) C rfl (by decide) rfl lf_TestJudge_Deeds_9 hd.dd.1 (gd DX0_keep_0 27 rfl) ?_
    rw [hD_0, h0]
    refine g_iload C (gd DX0_keep_0 28 rfl) 4 rfl ?_
    refine g_isj (j := k) C hd.dd.2.2.2.2.2.1 hd.dd.2.2.2.2.2.2 (by first | decide | omega) rfl (by omega) (gd DX0_keep_0 29 rfl) ?_
    rw [hD_i4]
    refine g_aload_n C (gd DX0_keep_0 30 rfl) 0 rfl rfl ?_
    refine g_dup C (gd DX0_keep_0 31 rfl) rfl ?_
    refine g_geti (ci := 0) (k := 0) C rfl (by decide) rfl lf_TestJudge_Deeds_9 hd.dd.1 (gd DX0_keep_0 32 rfl) ?_
    rw [hD_0, h0]
    refine g_iconst (v := 1) C (gd DX0_keep_0 33 rfl) (by decide) ?_
    refine g_iadd C (gd DX0_keep_0 34 rfl) ?_
    rw [show nI k + 1 = nI (k + 1) from nx_add (b := 1) rfl rfl]
    refine g_puti (ci := 0) (k := 0) C rfl (by decide) rfl lf_TestJudge_Deeds_9 hd.dd.1 (Or.inl rfl) rfl (gd DX0_keep_0 35 rfl) ?_
    rw [hD_i0]
    exact g_vret C (by omega) (by omega) ⟨rfl, rfl⟩ (gd DX0_keep_0 36 rfl)
  · exact absurd (Int32.not_le.mp (fun q => by have := (nI_leI (a := 8) (b := k) (by omega) (by omega)).mp q; omega)) c6
theorem e_d_keep8 (hd : dSh D h) {a : Nat} {F A B L : Nat → Int32} {P : Nat → Option Nat} (h0 : F 0 = nI 8) (ka : hK h a = 3) (hP : ∀ j, j < 8 → ∃ b, P j = some b ∧ hK h b = 3) (c n l : Int32) : EvF w 1 0 0 yX0_keep cX0_keep 5 none [.ref D, .int c, .int n, .ref a, .int l] (hD D h F A B L P) none (hD D h (upd (upd F 0 (nI 7)) 0 (nI 8)) (upd (mvD A 0 7) 7 c) (upd (mvD B 0 7) 7 n) (upd (mvD L 0 7) 7 l) (updO (mvD P 0 7) 7 (some a))) := by
  refine g_start (by decide) (Nat.le_of_ble_eq_true rfl) [(0, _), (1, _), (2, _), (3, _), (4, _)] rfl (fun z hfl C => ?_)
  have h7 : upd F 0 (nI 7) 0 = nI 7 := if_pos rfl
  refine g_aload_n C (gd DX0_keep_0 0 rfl) 0 rfl rfl ?_
  refine g_geti (ci := 0) (k := 0) C rfl (by decide) rfl lf_TestJudge_Deeds_9 hd.dd.1 (gd DX0_keep_0 1 rfl) ?_
  rw [hD_0, h0]
  refine g_bipush (v := 8) C (gd DX0_keep_0 2 rfl) (by decide) ?_
  refine g_icmp_lt C 13 (gd DX0_keep_0 3 rfl) (by decide) (fun c6 => ?_) (fun c6 => ?_)
  · exact absurd c6 (by decide)
  · refine g_aload_n C (gd DX0_keep_0 4 rfl) 0 rfl rfl ?_
    refine g_cV0 (v := .null) (ci := 0) C [] mX0_forgetOldest lm_TestJudge_Deeds_31 (by exact hd.dd.1) rfl rfl (e_d_forgetOldest hd hP) hfl (by decide) (by decide) (by omega) (by omega) rfl rfl (Nat.le_of_ble_eq_true rfl) (gd DX0_keep_0 5 rfl) ?_
    generalize upd F 0 (nI 7) = F at h7 ⊢
    refine g_aload_n C (gd DX0_keep_0 6 rfl) 0 rfl rfl ?_
    refine g_getr (ci := 0) (k := 1) C rfl (by decide) rfl lf_TestJudge_Deeds_15 hd.dd.1 hd.dd.2.1.1 (gd DX0_keep_0 7 rfl) ?_
    refine g_aload_n C (gd DX0_keep_0 8 rfl) 0 rfl rfl ?_
    refine g_geti (ci := 0) (k := 0) C rfl (by decide) rfl lf_TestJudge_Deeds_9 hd.dd.1 (gd DX0_keep_0 9 rfl) ?_
    rw [hD_0, h7]
    refine g_iload_n C (gd DX0_keep_0 10 rfl) 1 rfl rfl ?_
    refine g_isj (j := 7) C hd.dd.2.1.2.1 hd.dd.2.1.2.2 (by first | decide | omega) rfl (by omega) (gd DX0_keep_0 11 rfl) ?_
    rw [hD_i1]
    refine g_aload_n C (gd DX0_keep_0 12 rfl) 0 rfl rfl ?_
    refine g_getr (ci := 0) (k := 2) C rfl (by decide) rfl lf_TestJudge_Deeds_19 hd.dd.1 hd.dd.2.2.1.1 (gd DX0_keep_0 13 rfl) ?_
    refine g_aload_n C (gd DX0_keep_0 14 rfl) 0 rfl rfl ?_
    refine g_geti (ci := 0) (k := 0) C rfl (by decide) rfl lf_TestJudge_Deeds_9 hd.dd.1 (gd DX0_keep_0 15 rfl) ?_
    rw [hD_0, h7]
    refine g_iload_n C (gd DX0_keep_0 16 rfl) 2 rfl rfl ?_
    refine g_isj (j := 7) C hd.dd.2.2.1.2.1 hd.dd.2.2.1.2.2 (by first | decide | omega) rfl (by omega) (gd DX0_keep_0 17 rfl) ?_
    rw [hD_i2]
    refine g_aload_n C (gd DX0_keep_0 18 rfl) 0 rfl rfl ?_
    refine g_getr (ci := 0) (k := 3) C rfl (by decide) rfl lf_TestJudge_Deeds_24 hd.dd.1 hd.dd.2.2.2.1.1 (gd DX0_keep_0 19 rfl) ?_
    refine g_aload_n C (gd DX0_keep_0 20 rfl) 0 rfl rfl ?_
    refine g_geti (ci := 0) (k := 0) C rfl (by decide) rfl lf_TestJudge_Deeds_9 hd.dd.1 (gd DX0_keep_0 21 rfl) ?_
    rw [hD_0, h7]
    refine g_aload_n C (gd DX0_keep_0 22 rfl) 3 rfl rfl ?_
    refine g_asj (j := 7) C hd.dd.2.2.2.1.2.1 ka hd.dd.2.2.2.1.2.2 (by first | decide | omega) rfl (by omega) (gd DX0_keep_0 23 rfl) ?_
    rw [hD_r3]
    refine g_aload_n C (gd DX0_keep_0 24 rfl) 0 rfl rfl ?_
    refine g_getr (ci := 0) (k := 4) C rfl (by decide) rfl lf_TestJudge_Deeds_28 hd.dd.1 hd.dd.2.2.2.2.1 (gd DX0_keep_0 25 rfl) ?_
    refine g_aload_n C (gd DX0_keep_0 26 rfl) 0 rfl rfl ?_
    refine g_geti (ci := 0) (k := 0) C rfl (by decide) rfl lf_TestJudge_Deeds_9 hd.dd.1 (gd DX0_keep_0 27 rfl) ?_
    rw [hD_0, h7]
    refine g_iload C (gd DX0_keep_0 28 rfl) 4 rfl ?_
    refine g_isj (j := 7) C hd.dd.2.2.2.2.2.1 hd.dd.2.2.2.2.2.2 (by first | decide | omega) rfl (by omega) (gd DX0_keep_0 29 rfl) ?_
    rw [hD_i4]
    refine g_aload_n C (gd DX0_keep_0 30 rfl) 0 rfl rfl ?_
    refine g_dup C (gd DX0_keep_0 31 rfl) rfl ?_
    refine g_geti (ci := 0) (k := 0) C rfl (by decide) rfl lf_TestJudge_Deeds_9 hd.dd.1 (gd DX0_keep_0 32 rfl) ?_
    rw [hD_0, h7]
    refine g_iconst (v := 1) C (gd DX0_keep_0 33 rfl) (by decide) ?_
    refine g_iadd C (gd DX0_keep_0 34 rfl) ?_
    refine g_puti (ci := 0) (k := 0) C rfl (by decide) rfl lf_TestJudge_Deeds_9 hd.dd.1 (Or.inl rfl) rfl (gd DX0_keep_0 35 rfl) ?_
    rw [hD_i0]
    exact g_vret C (by omega) (by omega) ⟨rfl, rfl⟩ (gd DX0_keep_0 36 rfl)
theorem e_d_tbMade (hd : dSh D h) {W np p k : Nat} (hw : wSh W h) (dW : W + 5 < D ∨ D + 4 < W) (hk : k < 8) (h0 : hI h D 0 = nI (k + 1)) (hA : hI h (D + 1) k = 0) (hB : hI h (D + 2) k = nI p) (h2 : hI h W 2 = nI np) (hnp : np ≤ 8) (hp : p < np) (hP : ∀ j, j < np → ∃ b, hR h (W + 1) j = some b ∧ hK h b = 3) :
    EvF w 1 0 0 yX0_takeBack cX0_takeBack 3 none [.ref D, .ref W] h none (hV W (sI h D 0 (nI k)) (upd (hI h W) 2 (nI (np - 1))) (mvD (hI h (W + 2)) p (np - 1)) (updO (mvD (hR h (W + 1)) p (np - 1)) (np - 1) none)) := by
  refine g_start (by decide) (Nat.le_of_ble_eq_true rfl) [(0, _), (1, _)] rfl (fun z hfl C => ?_)
  refine g_aload_n C (gd DX0_takeBack_0 0 rfl) 0 rfl rfl ?_
  refine g_geti (ci := 0) (k := 0) C rfl (by decide) rfl lf_TestJudge_Deeds_9 hd.1 (gd DX0_takeBack_0 1 rfl) ?_
  rw [h0]
  refine g_if_le C 16 (gd DX0_takeBack_0 2 rfl) (by decide) (fun c4 => ?_) (fun c4 => ?_)
  · exact absurd ((nI_leI (a := k + 1) (b := 0) (by omega) (by omega)).mp c4) (by omega)
  · refine g_aload_n C (gd DX0_takeBack_0 3 rfl) 0 rfl rfl ?_
    refine g_geti (ci := 0) (k := 0) C rfl (by decide) rfl lf_TestJudge_Deeds_9 hd.1 (gd DX0_takeBack_0 4 rfl) ?_
    rw [h0]
    refine g_bipush (v := 8) C (gd DX0_takeBack_0 5 rfl) (by decide) ?_
    refine g_icmp_le C 17 (gd DX0_takeBack_0 6 rfl) (by decide) (fun c13 => ?_) (fun c13 => ?_)
    · refine g_aload_n C (gd DX0_takeBack_0 8 rfl) 0 rfl rfl ?_
      refine g_dup C (gd DX0_takeBack_0 9 rfl) rfl ?_
      refine g_geti (ci := 0) (k := 0) C rfl (by decide) rfl lf_TestJudge_Deeds_9 hd.1 (gd DX0_takeBack_0 10 rfl) ?_
      rw [h0]
      refine g_iconst (v := 1) C (gd DX0_takeBack_0 11 rfl) (by decide) ?_
      refine g_isub C (gd DX0_takeBack_0 12 rfl) ?_
      rw [show nI (k + 1) - 1 = nI k from nx_sub (a := k + 1) (b := 1) rfl rfl (by omega)]
      refine g_puti (ci := 0) (k := 0) C rfl (by decide) rfl lf_TestJudge_Deeds_9 hd.1 (Or.inl rfl) rfl (gd DX0_takeBack_0 13 rfl) ?_
      refine g_aload_n C (gd DX0_takeBack_0 14 rfl) 0 rfl rfl ?_
      refine g_getr (ci := 0) (k := 2) C rfl (by decide) rfl lf_TestJudge_Deeds_19 hd.1 hd.2.2.1.1 (gd DX0_takeBack_0 15 rfl) ?_
      refine g_aload_n C (gd DX0_takeBack_0 16 rfl) 0 rfl rfl ?_
      refine g_geti (ci := 0) (k := 0) C rfl (by decide) rfl lf_TestJudge_Deeds_9 hd.1 (gd DX0_takeBack_0 17 rfl) ?_
      rw [hI_sI, if_pos ⟨rfl, rfl⟩]
      refine g_iaj (j := k) C hd.2.2.1.2.1 hd.2.2.1.2.2 (by first | decide | omega) rfl (by omega) (gd DX0_takeBack_0 18 rfl) ?_
      rw [hI_sI_ne (by omega), hB]
      refine g_istore_n (lv' := [(0, _), (1, _), (2, _)]) C (gd DX0_takeBack_0 19 rfl) [1, 2, 0] rfl (by decide) rfl ?_
      refine g_aload_n C (gd DX0_takeBack_0 20 rfl) 0 rfl rfl ?_
      refine g_getr (ci := 0) (k := 1) C rfl (by decide) rfl lf_TestJudge_Deeds_15 hd.1 hd.2.1.1 (gd DX0_takeBack_0 21 rfl) ?_
      refine g_aload_n C (gd DX0_takeBack_0 22 rfl) 0 rfl rfl ?_
      refine g_geti (ci := 0) (k := 0) C rfl (by decide) rfl lf_TestJudge_Deeds_9 hd.1 (gd DX0_takeBack_0 23 rfl) ?_
      rw [hI_sI, if_pos ⟨rfl, rfl⟩]
      refine g_iaj (j := k) C hd.2.1.2.1 hd.2.1.2.2 (by first | decide | omega) rfl (by omega) (gd DX0_takeBack_0 24 rfl) ?_
      rw [hI_sI_ne (by omega), hA]
      refine g_if_ne C 57 (gd DX0_takeBack_0 25 rfl) (by decide) (fun c46 => ?_) (fun c46 => ?_)
      · exact absurd rfl c46
      · refine g_aload_n C (gd DX0_takeBack_0 26 rfl) 1 rfl rfl ?_
        refine g_iload_n C (gd DX0_takeBack_0 27 rfl) 2 rfl rfl ?_
        refine GW.cast rfl rfl (hV_self (W := W)).symm ?_
        refine g_cV0 (v := .null) (ci := 8) C [_] mX8_remove lm_TestJudge_Deeds_34 (by exact hw.1) rfl rfl (e_w_remove (h := sI h D 0 (nI k)) hw (by rw [hI_sI_ne (by omega)]; exact h2) hnp hp hP) hfl (by decide) (by decide) (by omega) (by omega) rfl rfl (Nat.le_of_ble_eq_true rfl) (gd DX0_takeBack_0 28 rfl) ?_
        refine g_goto (tgt := 108) C (gd DX0_takeBack_0 29 rfl) (by decide) ?_
        refine g_vret C (by omega) (by omega) ⟨rfl, ?_⟩ (gd DX0_takeBack_0 59 rfl)
        rw [hI_sI_ne (by omega), hI_sI_ne (by omega)]
    · exact absurd (nI_le (a := k + 1) (b := 8) (by omega) (by omega)) c13
theorem e_d_tbDropped (hd : dSh D h) {W np p k a : Nat} (hw : wSh W h) (dW : W + 5 < D ∨ D + 4 < W) (hk : k < 8) (h0 : hI h D 0 = nI (k + 1)) (hA : hI h (D + 1) k = 1) (hB : hI h (D + 2) k = nI p) (hPk : hR h (D + 3) k = some a) (ka : hK h a = 3) (h2 : hI h W 2 = nI np) (hnp : np < 8) (hp : p ≤ np) (hP : ∀ j, j < np → ∃ b, hR h (W + 1) j = some b ∧ hK h b = 3) :
    EvF w 1 0 0 yX0_takeBack cX0_takeBack 3 none [.ref D, .ref W] h none (hV W (sI h D 0 (nI k)) (upd (hI h W) 2 (nI (np + 1))) (upd (mvU (hI h (W + 2)) p np) p (hI h (D + 4) k)) (updO (mvU (hR h (W + 1)) p np) p (some a))) := by
  refine g_start (by decide) (Nat.le_of_ble_eq_true rfl) [(0, _), (1, _)] rfl (fun z hfl C => ?_)
  refine g_aload_n C (gd DX0_takeBack_0 0 rfl) 0 rfl rfl ?_
  refine g_geti (ci := 0) (k := 0) C rfl (by decide) rfl lf_TestJudge_Deeds_9 hd.1 (gd DX0_takeBack_0 1 rfl) ?_
  rw [h0]
  refine g_if_le C 16 (gd DX0_takeBack_0 2 rfl) (by decide) (fun c4 => ?_) (fun c4 => ?_)
  · exact absurd ((nI_leI (a := k + 1) (b := 0) (by omega) (by omega)).mp c4) (by omega)
  · refine g_aload_n C (gd DX0_takeBack_0 3 rfl) 0 rfl rfl ?_
    refine g_geti (ci := 0) (k := 0) C rfl (by decide) rfl lf_TestJudge_Deeds_9 hd.1 (gd DX0_takeBack_0 4 rfl) ?_
    rw [h0]
    refine g_bipush (v := 8) C (gd DX0_takeBack_0 5 rfl) (by decide) ?_
    refine g_icmp_le C 17 (gd DX0_takeBack_0 6 rfl) (by decide) (fun c13 => ?_) (fun c13 => ?_)
    · refine g_aload_n C (gd DX0_takeBack_0 8 rfl) 0 rfl rfl ?_
      refine g_dup C (gd DX0_takeBack_0 9 rfl) rfl ?_
      refine g_geti (ci := 0) (k := 0) C rfl (by decide) rfl lf_TestJudge_Deeds_9 hd.1 (gd DX0_takeBack_0 10 rfl) ?_
      rw [h0]
      refine g_iconst (v := 1) C (gd DX0_takeBack_0 11 rfl) (by decide) ?_
      refine g_isub C (gd DX0_takeBack_0 12 rfl) ?_
      rw [show nI (k + 1) - 1 = nI k from nx_sub (a := k + 1) (b := 1) rfl rfl (by omega)]
      refine g_puti (ci := 0) (k := 0) C rfl (by decide) rfl lf_TestJudge_Deeds_9 hd.1 (Or.inl rfl) rfl (gd DX0_takeBack_0 13 rfl) ?_
      refine g_aload_n C (gd DX0_takeBack_0 14 rfl) 0 rfl rfl ?_
      refine g_getr (ci := 0) (k := 2) C rfl (by decide) rfl lf_TestJudge_Deeds_19 hd.1 hd.2.2.1.1 (gd DX0_takeBack_0 15 rfl) ?_
      refine g_aload_n C (gd DX0_takeBack_0 16 rfl) 0 rfl rfl ?_
      refine g_geti (ci := 0) (k := 0) C rfl (by decide) rfl lf_TestJudge_Deeds_9 hd.1 (gd DX0_takeBack_0 17 rfl) ?_
      rw [hI_sI, if_pos ⟨rfl, rfl⟩]
      refine g_iaj (j := k) C hd.2.2.1.2.1 hd.2.2.1.2.2 (by first | decide | omega) rfl (by omega) (gd DX0_takeBack_0 18 rfl) ?_
      rw [hI_sI_ne (by omega), hB]
      refine g_istore_n (lv' := [(0, _), (1, _), (2, _)]) C (gd DX0_takeBack_0 19 rfl) [1, 2, 0] rfl (by decide) rfl ?_
      refine g_aload_n C (gd DX0_takeBack_0 20 rfl) 0 rfl rfl ?_
      refine g_getr (ci := 0) (k := 1) C rfl (by decide) rfl lf_TestJudge_Deeds_15 hd.1 hd.2.1.1 (gd DX0_takeBack_0 21 rfl) ?_
      refine g_aload_n C (gd DX0_takeBack_0 22 rfl) 0 rfl rfl ?_
      refine g_geti (ci := 0) (k := 0) C rfl (by decide) rfl lf_TestJudge_Deeds_9 hd.1 (gd DX0_takeBack_0 23 rfl) ?_
      rw [hI_sI, if_pos ⟨rfl, rfl⟩]
      refine g_iaj (j := k) C hd.2.1.2.1 hd.2.1.2.2 (by first | decide | omega) rfl (by omega) (gd DX0_takeBack_0 24 rfl) ?_
      rw [hI_sI_ne (by omega), hA]
      refine g_if_ne C 57 (gd DX0_takeBack_0 25 rfl) (by decide) (fun c46 => ?_) (fun c46 => ?_)
      · refine g_aload_n C (gd DX0_takeBack_0 30 rfl) 0 rfl rfl ?_
        refine g_getr (ci := 0) (k := 1) C rfl (by decide) rfl lf_TestJudge_Deeds_15 hd.1 hd.2.1.1 (gd DX0_takeBack_0 31 rfl) ?_
        refine g_aload_n C (gd DX0_takeBack_0 32 rfl) 0 rfl rfl ?_
        refine g_geti (ci := 0) (k := 0) C rfl (by decide) rfl lf_TestJudge_Deeds_9 hd.1 (gd DX0_takeBack_0 33 rfl) ?_
        rw [hI_sI, if_pos ⟨rfl, rfl⟩]
        refine g_iaj (j := k) C hd.2.1.2.1 hd.2.1.2.2 (by first | decide | omega) rfl (by omega) (gd DX0_takeBack_0 34 rfl) ?_
        rw [hI_sI_ne (by omega), hA]
        refine g_iconst (v := 1) C (gd DX0_takeBack_0 35 rfl) (by decide) ?_
        refine g_icmp_ne C 96 (gd DX0_takeBack_0 36 rfl) (by decide) (fun c67 => ?_) (fun c67 => ?_)
        · exact absurd rfl c67
        · refine g_aload_n C (gd DX0_takeBack_0 37 rfl) 1 rfl rfl ?_
          refine g_iload_n C (gd DX0_takeBack_0 38 rfl) 2 rfl rfl ?_
          refine g_aload_n C (gd DX0_takeBack_0 39 rfl) 0 rfl rfl ?_
          refine g_getr (ci := 0) (k := 3) C rfl (by decide) rfl lf_TestJudge_Deeds_24 hd.1 hd.2.2.2.1.1 (gd DX0_takeBack_0 40 rfl) ?_
          refine g_aload_n C (gd DX0_takeBack_0 41 rfl) 0 rfl rfl ?_
          refine g_geti (ci := 0) (k := 0) C rfl (by decide) rfl lf_TestJudge_Deeds_9 hd.1 (gd DX0_takeBack_0 42 rfl) ?_
          rw [hI_sI, if_pos ⟨rfl, rfl⟩]
          refine g_aaj (j := k) C hd.2.2.2.1.2.1 hd.2.2.2.1.2.2 (by first | decide | omega) rfl (by omega) (gd DX0_takeBack_0 43 rfl) ?_
          rw [show hR (sI h D 0 (nI k)) (D + 3) k = some a from hPk]
          show GW z w 3 _ 0 0 _ _ (.ref a :: _) _
          refine g_aload_n C (gd DX0_takeBack_0 44 rfl) 0 rfl rfl ?_
          refine g_getr (ci := 0) (k := 4) C rfl (by decide) rfl lf_TestJudge_Deeds_28 hd.1 hd.2.2.2.2.1 (gd DX0_takeBack_0 45 rfl) ?_
          refine g_aload_n C (gd DX0_takeBack_0 46 rfl) 0 rfl rfl ?_
          refine g_geti (ci := 0) (k := 0) C rfl (by decide) rfl lf_TestJudge_Deeds_9 hd.1 (gd DX0_takeBack_0 47 rfl) ?_
          rw [hI_sI, if_pos ⟨rfl, rfl⟩]
          refine g_iaj (j := k) C hd.2.2.2.2.2.1 hd.2.2.2.2.2.2 (by first | decide | omega) rfl (by omega) (gd DX0_takeBack_0 48 rfl) ?_
          rw [hI_sI_ne (by omega)]
          refine GW.cast rfl rfl (hV_self (W := W)).symm ?_
          refine g_cV0 (v := .null) (ci := 8) C [_, _, _] mX8_insert lm_TestJudge_Deeds_40 (by exact hw.1) rfl rfl (e_w_insert (h := sI h D 0 (nI k)) hw (by rw [hI_sI_ne (by omega)]; exact h2) hnp hp ka hP _) hfl (by decide) (by decide) (by omega) (by omega) rfl rfl (Nat.le_of_ble_eq_true rfl) (gd DX0_takeBack_0 49 rfl) ?_
          refine g_goto (tgt := 108) C (gd DX0_takeBack_0 50 rfl) (by decide) ?_
          refine g_vret C (by omega) (by omega) ⟨rfl, ?_⟩ (gd DX0_takeBack_0 59 rfl)
          rw [hI_sI_ne (by omega), hI_sI_ne (by omega)]
      · exact absurd c46 (by decide)
    · exact absurd (nI_le (a := k + 1) (b := 8) (by omega) (by omega)) c13
theorem e_d_tbAssumed (hd : dSh D h) {W p k : Nat} (hw : wSh W h) (dW : W + 5 < D ∨ D + 4 < W) (hk : k < 8) (h0 : hI h D 0 = nI (k + 1)) (hA : hI h (D + 1) k = 2) (hB : hI h (D + 2) k = nI p) :
    EvF w 1 0 0 yX0_takeBack cX0_takeBack 3 none [.ref D, .ref W] h none (sI (sI h D 0 (nI k)) W 4 (hI h W 4 ^^^ 1 <<< (nI p &&& 31))) := by
  refine g_start (by decide) (Nat.le_of_ble_eq_true rfl) [(0, _), (1, _)] rfl (fun z hfl C => ?_)
  refine g_aload_n C (gd DX0_takeBack_0 0 rfl) 0 rfl rfl ?_
  refine g_geti (ci := 0) (k := 0) C rfl (by decide) rfl lf_TestJudge_Deeds_9 hd.1 (gd DX0_takeBack_0 1 rfl) ?_
  rw [h0]
  refine g_if_le C 16 (gd DX0_takeBack_0 2 rfl) (by decide) (fun c4 => ?_) (fun c4 => ?_)
  · exact absurd ((nI_leI (a := k + 1) (b := 0) (by omega) (by omega)).mp c4) (by omega)
  · refine g_aload_n C (gd DX0_takeBack_0 3 rfl) 0 rfl rfl ?_
    refine g_geti (ci := 0) (k := 0) C rfl (by decide) rfl lf_TestJudge_Deeds_9 hd.1 (gd DX0_takeBack_0 4 rfl) ?_
    rw [h0]
    refine g_bipush (v := 8) C (gd DX0_takeBack_0 5 rfl) (by decide) ?_
    refine g_icmp_le C 17 (gd DX0_takeBack_0 6 rfl) (by decide) (fun c13 => ?_) (fun c13 => ?_)
    · refine g_aload_n C (gd DX0_takeBack_0 8 rfl) 0 rfl rfl ?_
      refine g_dup C (gd DX0_takeBack_0 9 rfl) rfl ?_
      refine g_geti (ci := 0) (k := 0) C rfl (by decide) rfl lf_TestJudge_Deeds_9 hd.1 (gd DX0_takeBack_0 10 rfl) ?_
      rw [h0]
      refine g_iconst (v := 1) C (gd DX0_takeBack_0 11 rfl) (by decide) ?_
      refine g_isub C (gd DX0_takeBack_0 12 rfl) ?_
      rw [show nI (k + 1) - 1 = nI k from nx_sub (a := k + 1) (b := 1) rfl rfl (by omega)]
      refine g_puti (ci := 0) (k := 0) C rfl (by decide) rfl lf_TestJudge_Deeds_9 hd.1 (Or.inl rfl) rfl (gd DX0_takeBack_0 13 rfl) ?_
      refine g_aload_n C (gd DX0_takeBack_0 14 rfl) 0 rfl rfl ?_
      refine g_getr (ci := 0) (k := 2) C rfl (by decide) rfl lf_TestJudge_Deeds_19 hd.1 hd.2.2.1.1 (gd DX0_takeBack_0 15 rfl) ?_
      refine g_aload_n C (gd DX0_takeBack_0 16 rfl) 0 rfl rfl ?_
      refine g_geti (ci := 0) (k := 0) C rfl (by decide) rfl lf_TestJudge_Deeds_9 hd.1 (gd DX0_takeBack_0 17 rfl) ?_
      rw [hI_sI, if_pos ⟨rfl, rfl⟩]
      refine g_iaj (j := k) C hd.2.2.1.2.1 hd.2.2.1.2.2 (by first | decide | omega) rfl (by omega) (gd DX0_takeBack_0 18 rfl) ?_
      rw [hI_sI_ne (by omega), hB]
      refine g_istore_n (lv' := [(0, _), (1, _), (2, _)]) C (gd DX0_takeBack_0 19 rfl) [1, 2, 0] rfl (by decide) rfl ?_
      refine g_aload_n C (gd DX0_takeBack_0 20 rfl) 0 rfl rfl ?_
      refine g_getr (ci := 0) (k := 1) C rfl (by decide) rfl lf_TestJudge_Deeds_15 hd.1 hd.2.1.1 (gd DX0_takeBack_0 21 rfl) ?_
      refine g_aload_n C (gd DX0_takeBack_0 22 rfl) 0 rfl rfl ?_
      refine g_geti (ci := 0) (k := 0) C rfl (by decide) rfl lf_TestJudge_Deeds_9 hd.1 (gd DX0_takeBack_0 23 rfl) ?_
      rw [hI_sI, if_pos ⟨rfl, rfl⟩]
      refine g_iaj (j := k) C hd.2.1.2.1 hd.2.1.2.2 (by first | decide | omega) rfl (by omega) (gd DX0_takeBack_0 24 rfl) ?_
      rw [hI_sI_ne (by omega), hA]
      refine g_if_ne C 57 (gd DX0_takeBack_0 25 rfl) (by decide) (fun c46 => ?_) (fun c46 => ?_)
      · refine g_aload_n C (gd DX0_takeBack_0 30 rfl) 0 rfl rfl ?_
        refine g_getr (ci := 0) (k := 1) C rfl (by decide) rfl lf_TestJudge_Deeds_15 hd.1 hd.2.1.1 (gd DX0_takeBack_0 31 rfl) ?_
        refine g_aload_n C (gd DX0_takeBack_0 32 rfl) 0 rfl rfl ?_
        refine g_geti (ci := 0) (k := 0) C rfl (by decide) rfl lf_TestJudge_Deeds_9 hd.1 (gd DX0_takeBack_0 33 rfl) ?_
        rw [hI_sI, if_pos ⟨rfl, rfl⟩]
        refine g_iaj (j := k) C hd.2.1.2.1 hd.2.1.2.2 (by first | decide | omega) rfl (by omega) (gd DX0_takeBack_0 34 rfl) ?_
        rw [hI_sI_ne (by omega), hA]
        refine g_iconst (v := 1) C (gd DX0_takeBack_0 35 rfl) (by decide) ?_
        refine g_icmp_ne C 96 (gd DX0_takeBack_0 36 rfl) (by decide) (fun c67 => ?_) (fun c67 => ?_)
        · refine g_aload_n C (gd DX0_takeBack_0 51 rfl) 1 rfl rfl ?_
          refine g_dup C (gd DX0_takeBack_0 52 rfl) rfl ?_
          refine g_geti (ci := 8) (k := 4) C rfl (by decide) rfl lf_TestJudge_Deeds_44 hw.1 (gd DX0_takeBack_0 53 rfl) ?_
          rw [hI_sI_ne (by omega)]
          refine g_iconst (v := 1) C (gd DX0_takeBack_0 54 rfl) (by decide) ?_
          refine g_iload_n C (gd DX0_takeBack_0 55 rfl) 2 rfl rfl ?_
          refine g_ishl C (gd DX0_takeBack_0 56 rfl) ?_
          refine g_ixor C (gd DX0_takeBack_0 57 rfl) ?_
          refine g_puti (ci := 8) (k := 4) C rfl (by decide) rfl lf_TestJudge_Deeds_44 hw.1 (Or.inl rfl) rfl (gd DX0_takeBack_0 58 rfl) ?_
          exact g_vret C (by omega) (by omega) ⟨rfl, rfl⟩ (gd DX0_takeBack_0 59 rfl)
        · exact absurd c67 (by decide)
      · exact absurd c46 (by decide)
    · exact absurd (nI_le (a := k + 1) (b := 8) (by omega) (by omega)) c13
end C34
