/-! The class's actions: drop, assume, undo -/
def mAct (M : aM) : aM := mWl (mSt M 0) (-1, M.2.2.1.2.1, M.2.2.1.2.2)
def qDro (V : aV) (M : aM) (p : Int32) (v : Value) (V' : aV) (M' : aM) : Prop := (¬ inP (vNp V) p ∧ v = .int (-1) ∧ V' = V ∧ M' = mSt M 2) ∨ ∃ r, r < vNp V ∧ p = nI r ∧ v = .int (nI (vNp V - 1)) ∧ V' = vAct V (vNp V - 1, vS V, fun k => if k < r then vPR V k else vPR V (k + 1)) ∧ M' = mAct M
def qAss (V : aV) (M : aM) (p y : Int32) (v : Value) (V' : aV) (M' : aM) : Prop := (¬ inP (vNf V) p ∧ v = .int (-1) ∧ V' = V ∧ M' = mSt M 2) ∨ ∃ f, f < vNf V ∧ p = nI f ∧ ((b1 (nI (vS V) >>> (nI f &&& 31) &&& 1 = 1) = y ∧ v = .int (-1) ∧ V' = V ∧ M' = mSt M 4) ∨ (¬ b1 (nI (vS V) >>> (nI f &&& 31) &&& 1 = 1) = y ∧ v = .int (bcF (nI (vS V ^^^ 2 ^ f))) ∧ V' = vAct V (vNp V, vS V ^^^ 2 ^ f, vPR V) ∧ M' = mAct M))
def qUnd (V : aV) (M : aM) (v : Value) (V' : aV) (M' : aM) : Prop := (vA V = 0 ∧ v = .int (-1) ∧ V' = V ∧ M' = mSt M 5) ∨ ∃ b, vA V = b + 1 ∧ v = .int (nI b) ∧ V' = (V.1, V.2.1, b, vHi V) ∧ M' = mAct M
theorem xor_s : ∀ s, s < 4 → ∀ f, f < 2 → nI s ^^^ 1 <<< (nI f &&& 31) = nI (s ^^^ 2 ^ f) ∧ s ^^^ 2 ^ f < 4 ∧ nI s = nI (s ^^^ 2 ^ f) ^^^ 1 <<< (nI f &&& 31) := by decide
/-- a deed kept -/
def kpD (x : Nat) (h : HS) (a : Nat) (c n l : Int32) (p : Nat) : HS := if a = 8 then hD (x + 12) h (upd (upd (hI h (x + 12)) 0 (nI 7)) 0 (nI 8)) (upd (mvD (hI h (x + 13)) 0 7) 7 c) (upd (mvD (hI h (x + 14)) 0 7) 7 n) (upd (mvD (hI h (x + 16)) 0 7) 7 l) (updO (mvD (hR h (x + 15)) 0 7) 7 (some p)) else hD (x + 12) h (upd (hI h (x + 12)) 0 (nI (a + 1))) (upd (hI h (x + 13)) a c) (upd (hI h (x + 14)) a n) (upd (hI h (x + 16)) a l) (updO (hR h (x + 15)) a (some p))
section AD0
variable {x W : Nat} {h : HS} {a : Nat} {c n l : Int32} {p : Nat}
theorem kpD_fr : aFr x W h (kpD x h a c n l p) := by
  unfold kpD
  split
  · exact aFr_D
  · exact aFr_D
theorem kpD_T : hT (kpD x h a c n l p) = hT h ∧ hK (kpD x h a c n l p) = hK h := by
  unfold kpD
  split
  · exact ⟨rfl, rfl⟩
  · exact ⟨rfl, rfl⟩
theorem kpD_ne {b : Nat} (hb : ¬ (x + 12 ≤ b ∧ b ≤ x + 16)) : hI (kpD x h a c n l p) b = hI h b := by
  unfold kpD
  split
  · exact hD_ne (by omega)
  · exact hD_ne (by omega)
theorem kpD_neR {b : Nat} (hb : b ≠ x + 15) : hR (kpD x h a c n l p) b = hR h b := by
  unfold kpD
  split
  · exact hD_neR hb
  · exact hD_neR hb
theorem kpD_r : dkR x h (kpD x h a c n l p) a c n l p := by
  unfold kpD
  by_cases e : a = 8
  · rw [if_pos e]
    refine ⟨?_, Or.inr ⟨e, hD_1, hD_2, hD_4, hD_3⟩⟩
    rw [hD_0, if_pos e]
    rfl
  · rw [if_neg e]
    refine ⟨?_, Or.inl ⟨e, hD_1, hD_2, hD_4, hD_3⟩⟩
    rw [hD_0, if_neg e]
    rfl
theorem dkR.e {h1 h2 : HS} (d : dkR x h h1 a c n l p) (e : ∀ b, x + 12 ≤ b → b ≤ x + 16 → hI h2 b = hI h1 b) (er : hR h2 (x + 15) = hR h1 (x + 15)) : dkR x h h2 a c n l p := by
  unfold dkR
  rw [e (x + 12) (by omega) (by omega), e (x + 13) (by omega) (by omega), e (x + 14) (by omega) (by omega), e (x + 16) (by omega) (by omega), er]
  exact d
theorem dkR.o {h0 h1 : HS} (d : dkR x h h1 a c n l p) (e : ∀ b, x + 12 ≤ b → b ≤ x + 16 → hI h0 b = hI h b) (er : hR h0 (x + 15) = hR h (x + 15)) : dkR x h0 h1 a c n l p := by
  unfold dkR
  rw [e (x + 13) (by omega) (by omega), e (x + 14) (by omega) (by omega), e (x + 16) (by omega) (by omega), er]
  exact d
end AD0
theorem kvM.ac {x : Nat} {h g : HS} {M : aM} (m : kvM x h M) (e : ∀ b, b = x ∨ b = x + 1 ∨ b = x + 47 ∨ b = x + 48 → hI g b = hI h b) : kvM x (sI (sI g x 12 (-1)) x 3 0) (mAct M) := by
  obtain ⟨⟨m1, m2, m3⟩, ⟨m4, m5, m6⟩, ⟨m7, m8, m9⟩, ma, mb, mc⟩ := m
  have ne : ∀ b, b ≠ x → hI (sI (sI g x 12 (-1)) x 3 0) b = hI g b := fun b hb => (hI_sI_ne hb).trans (hI_sI_ne hb)
  have xx : ∀ j, j ≠ 3 → j ≠ 12 → hI (sI (sI g x 12 (-1)) x 3 0) x j = hI h x j := fun j j1 j2 => by rw [xI_ne j1, xI_ne j2, e x (Or.inl rfl)]
  refine ⟨⟨by rw [xx 2 (by omega) (by omega)]; exact m1, m2, by rw [ne _ (by omega), e _ (Or.inr (Or.inl rfl))]; exact m3⟩, ⟨xI_eq, by rw [xx 4 (by omega) (by omega)]; exact m5, by rw [xx 5 (by omega) (by omega)]; exact m6⟩, ⟨by rw [xI_ne (by omega), xI_eq]; rfl, by rw [xx 13 (by omega) (by omega)]; exact m8, by rw [xx 14 (by omega) (by omega)]; exact m9⟩, by rw [ne _ (by omega), e _ (Or.inr (Or.inr (Or.inl rfl)))]; exact ma, mb, by rw [ne _ (by omega), e _ (Or.inr (Or.inr (Or.inr rfl)))]; exact mc⟩
section AD
variable {w : gD} {x W : Nat} {h : HS} {V : aV} {RC : Nat → Nat → Int32} {M : aM}
theorem e_x_keep {a : Nat} (hd : dSh (x + 12) h) (h0 : hI h (x + 12) 0 = nI a) (ha : a ≤ 8) (hP : a = 8 → ∀ j, j < 8 → ∃ b, hR h (x + 15) j = some b ∧ hK h b = 3) {p : Nat} (kp : hK h p = 3) (c n l : Int32) : EvF w 1 0 0 yX0_keep cX0_keep 5 none [.ref (x + 12), .int c, .int n, .ref p, .int l] h none (kpD x h a c n l p) := by
  unfold kpD
  by_cases e : a = 8
  · rw [if_pos e]
    have t := e_d_keep8 (w := w) hd (F := hI h (x + 12)) (A := hI h (x + 13)) (B := hI h (x + 14)) (L := hI h (x + 16)) (P := hR h (x + 15)) (by rw [h0, e]) kp (hP e) c n l
    rw [show hD (x + 12) h (hI h (x + 12)) (hI h (x + 13)) (hI h (x + 14)) (hI h (x + 16)) (hR h (x + 15)) = h from hD_self] at t
    exact t
  · rw [if_neg e]
    have t := e_d_keepAt (w := w) hd (k := a) (by omega) (F := hI h (x + 12)) (A := hI h (x + 13)) (B := hI h (x + 14)) (L := hI h (x + 16)) (P := hR h (x + 15)) h0 kp c n l
    rw [show hD (x + 12) h (hI h (x + 12)) (hI h (x + 13)) (hI h (x + 14)) (hI h (x + 16)) (hR h (x + 15)) = h from hD_self] at t
    exact t
theorem vOK.a8 {V : aV} (h : vOK V) : vA V ≤ 8 := h.1.2.2.2
theorem K0.d8 (K : K0 x W h V RC) : vA V = 8 → ∀ j, j < 8 → ∃ b, hR h (x + 15) j = some b ∧ hK h b = 3 := fun e j hj => by
  obtain ⟨⟨b, b1, b2, -⟩, -⟩ := K.2.2.2.1.2 j (by omega)
  exact ⟨b, b1, b2⟩
theorem e_x_drop (K : K0 x W h V RC) (hM : kvM x h M) (p : Int32) : Ev w 3 0 0 yX9_drop cX9_drop 2 (some .int) [.ref x, .int p] h (aQ x (qDro V M p)) := by
  refine g_start (by decide) (Nat.le_of_ble_eq_true rfl) [(0, _), (1, _)] rfl (fun z hfl C => ?_)
  have hx := K.1
  obtain ⟨w0, w1, w2, w3, w4⟩ := K.2.2.1.1
  have hnp := K.2.1.np
  have xW := hx.2.2.2.2.2.2.2.2.2.1
  obtain ⟨xa, xb⟩ := hx.2.2.2.2.2.2.2.2.2.2.1
  refine g_aload_n C (gd DX9_drop_0 0 rfl) 0 rfl rfl ?_
  refine g_iload_n C (gd DX9_drop_0 1 rfl) 1 rfl rfl ?_
  refine g_cV1 (ci := 9) C [_] mX9_lacks lm_TestJudge_154 (by exact hx.1) rfl rfl (e_x_lacks hx (by omega) w2 p) hfl (by first | decide | omega) (by decide) (by omega) (by omega) rfl rfl (Nat.le_of_ble_eq_true rfl) (gd DX9_drop_0 2 rfl) ?_
  by_cases n1 : 0 ≤ p ∧ p ≤ nI (vNp V) - 1
  rotate_left
  · rw [b1_t (show ¬ (0 ≤ p ∧ p ≤ nI (vNp V) - 1) from n1)]
    refine g_if_eq C 14 (gd DX9_drop_0 3 rfl) (by decide) (fun c5 => ?_) (fun c5 => ?_)
    · exact absurd c5 (by decide)
    · refine g_aload_n C (gd DX9_drop_0 4 rfl) 0 rfl rfl ?_
      refine g_iconst (v := 2) C (gd DX9_drop_0 5 rfl) (by decide) ?_
      refine g_cV1 (ci := 9) C [_] mX9_refuse lm_TestJudge_90 (by exact hx.1) rfl rfl (e_x_refuse hx 2) hfl (by first | decide | omega) (by decide) (by omega) (by omega) rfl rfl (Nat.le_of_ble_eq_true rfl) (gd DX9_drop_0 6 rfl) ?_
      exact g_iret C (by omega) (by omega) ⟨_, V, mSt M 2, rfl, K.st K (qKp.rf x h) hM 2, Or.inl ⟨n1, rfl, rfl, rfl⟩⟩ (gd DX9_drop_0 7 rfl)
  rw [b1_f (show ¬ ¬ (0 ≤ p ∧ p ≤ nI (vNp V) - 1) from fun q => q n1)]
  refine g_if_eq C 14 (gd DX9_drop_0 3 rfl) (by decide) (fun c5 => ?_) (fun c5 => ?_)
  rotate_left
  · exact absurd rfl c5
  obtain ⟨r, hr, rfl⟩ := below_of (by omega) n1
  obtain ⟨a, a1, a2, a3, a4⟩ := K.2.2.1.2.1 r hr
  have d := K.2.2.2.1
  refine g_aload_n C (gd DX9_drop_0 8 rfl) 0 rfl rfl ?_
  refine g_getr (ci := 9) (k := 7) C rfl (by decide) rfl lf_TestJudge_43 hx.1 hx.2.2.2.2.1.1 (gd DX9_drop_0 9 rfl) ?_
  refine g_iconst (v := 1) C (gd DX9_drop_0 10 rfl) (by decide) ?_
  refine g_iload_n C (gd DX9_drop_0 11 rfl) 1 rfl rfl ?_
  refine g_aload_n C (gd DX9_drop_0 12 rfl) 0 rfl rfl ?_
  refine g_getr (ci := 9) (k := 6) C rfl (by decide) rfl lf_TestJudge_36 hx.1 hx.2.2.2.1.1 (gd DX9_drop_0 13 rfl) ?_
  refine g_iload_n C (gd DX9_drop_0 14 rfl) 1 rfl rfl ?_
  refine g_cV1 (ci := 8) C [_] mX8_piece lm_TestJudge_158 (by exact hx.2.2.2.1.2.1) rfl rfl (e_w_piece hx.2.2.2.1.2 hnp w2 hr a1) hfl (by first | decide | omega) (by decide) (by omega) (by omega) rfl rfl (Nat.le_of_ble_eq_true rfl) (gd DX9_drop_0 15 rfl) ?_
  refine g_aload_n C (gd DX9_drop_0 16 rfl) 0 rfl rfl ?_
  refine g_getr (ci := 9) (k := 6) C rfl (by decide) rfl lf_TestJudge_36 hx.1 hx.2.2.2.1.1 (gd DX9_drop_0 17 rfl) ?_
  refine g_iload_n C (gd DX9_drop_0 18 rfl) 1 rfl rfl ?_
  refine g_cV1 (ci := 8) C [_] mX8_layer lm_TestJudge_274 (by exact hx.2.2.2.1.2.1) rfl rfl (e_w_layer hx.2.2.2.1.2 hnp w2 hr) hfl (by first | decide | omega) (by decide) (by omega) (by omega) rfl rfl (Nat.le_of_ble_eq_true rfl) (gd DX9_drop_0 19 rfl) ?_
  rw [a4]
  refine g_cV0 (v := .null) (ci := 0) C [_, _, _, _] mX0_keep lm_TestJudge_290 (by exact hx.2.2.2.2.1.2.1) rfl rfl (e_x_keep hx.2.2.2.2.1.2 d.1 K.2.1.a8 K.d8 a3.2.2.1 _ _ _) hfl (by first | decide | omega) (by decide) (by omega) (by omega) rfl rfl (Nat.le_of_ble_eq_true rfl) (gd DX9_drop_0 20 rfl) ?_
  generalize hg : kpD x h (vA V) 1 (nI r) (vPR V r 306) a = g
  have fg : aFr x W h g := by rw [← hg]; exact kpD_fr
  have gW : ∀ b, ¬ (x + 12 ≤ b ∧ b ≤ x + 16) → hI g b = hI h b := fun b hb => by rw [← hg]; exact kpD_ne hb
  have gR : ∀ b, b ≠ x + 15 → hR g b = hR h b := fun b hb => by rw [← hg]; exact kpD_neR hb
  have gdk : dkR x h g (vA V) 1 (nI r) (vPR V r 306) a := by rw [← hg]; exact kpD_r
  have hxg := hx.a fg
  refine g_aload_n C (gd DX9_drop_0 21 rfl) 0 rfl rfl ?_
  refine g_getr (ci := 9) (k := 6) C rfl (by decide) rfl lf_TestJudge_36 hxg.1 hxg.2.2.2.1.1 (gd DX9_drop_0 22 rfl) ?_
  refine g_iload_n C (gd DX9_drop_0 23 rfl) 1 rfl rfl ?_
  refine GW.cast rfl rfl (hV_self (W := W)).symm ?_
  refine g_cV0 (v := .null) (ci := 8) C [_] mX8_remove lm_TestJudge_304 (by exact hxg.2.2.2.1.2.1) rfl rfl (e_w_remove (h := g) hxg.2.2.2.1.2 (np := vNp V) (by rw [gW W (by omega)]; exact w2) (by omega) hr (fun j hj => by obtain ⟨b, b1, b2, b3, -⟩ := K.2.2.1.2.1 j hj; exact ⟨b, by rw [gR (W + 1) (by omega)]; exact b1, (fg.2 b b3.2.1.1).1.1.trans b3.2.2.1⟩)) hfl (by first | decide | omega) (by decide) (by omega) (by omega) rfl rfl (Nat.le_of_ble_eq_true rfl) (gd DX9_drop_0 24 rfl) ?_
  have f2 : aFr x W h (hV W g (upd (hI g W) 2 (nI (vNp V - 1))) (mvD (hI g (W + 2)) r (vNp V - 1)) (updO (mvD (hR g (W + 1)) r (vNp V - 1)) (vNp V - 1) none)) := fg.tr aFr_V
  have hx2 := hx.a f2
  refine g_aload_n C (gd DX9_drop_0 25 rfl) 0 rfl rfl ?_
  refine g_cV0 (v := .null) (ci := 9) C [] mX9_endWalk lm_TestJudge_122 (by exact hx2.1) rfl rfl (e_x_endWalk hx2) hfl (by first | decide | omega) (by decide) (by omega) (by omega) rfl rfl (Nat.le_of_ble_eq_true rfl) (gd DX9_drop_0 26 rfl) ?_
  have f3 := f2.tr (aFr_x (x := x) (W := W) (k := 12) (v := -1))
  have hx3 := hx.a f3
  have ne3 : ∀ b, b ≠ x → hI (sI (hV W g (upd (hI g W) 2 (nI (vNp V - 1))) (mvD (hI g (W + 2)) r (vNp V - 1)) (updO (mvD (hR g (W + 1)) r (vNp V - 1)) (vNp V - 1) none)) x 12 (-1)) b = hI (hV W g (upd (hI g W) 2 (nI (vNp V - 1))) (mvD (hI g (W + 2)) r (vNp V - 1)) (updO (mvD (hR g (W + 1)) r (vNp V - 1)) (vNp V - 1) none)) b := fun b hb => hI_sI_ne hb
  refine g_aload_n C (gd DX9_drop_0 27 rfl) 0 rfl rfl ?_
  refine g_aload_n C (gd DX9_drop_0 28 rfl) 0 rfl rfl ?_
  refine g_getr (ci := 9) (k := 6) C rfl (by decide) rfl lf_TestJudge_36 hx3.1 hx3.2.2.2.1.1 (gd DX9_drop_0 29 rfl) ?_
  refine g_geti (ci := 8) (k := 2) C rfl (by decide) rfl lf_TestJudge_125 hx3.2.2.2.1.2.1 (gd DX9_drop_0 30 rfl) ?_
  rw [ne3 W (by omega), hV_0, show upd (hI g W) 2 (nI (vNp V - 1)) 2 = nI (vNp V - 1) from rfl]
  refine g_cV1 (ci := 9) C [_] mX9_allow lm_TestJudge_128 (by exact hx3.1) rfl rfl (e_x_allow hx3 _) hfl (by first | decide | omega) (by decide) (by omega) (by omega) rfl rfl (Nat.le_of_ble_eq_true rfl) (gd DX9_drop_0 31 rfl) ?_
  have f4 := f3.tr (aFr_x (x := x) (W := W) (k := 3) (v := 0))
  generalize hS : ((vNp V - 1, vS V, fun k => if k < r then vPR V k else vPR V (k + 1)) : aH) = S
  generalize hh : sI (sI (hV W g (upd (hI g W) 2 (nI (vNp V - 1))) (mvD (hI g (W + 2)) r (vNp V - 1)) (updO (mvD (hR g (W + 1)) r (vNp V - 1)) (vNp V - 1) none)) x 12 (-1)) x 3 0 = h4 at f4 ⊢
  have ne4 : ∀ b, b ≠ x → hI h4 b = hI (hV W g (upd (hI g W) 2 (nI (vNp V - 1))) (mvD (hI g (W + 2)) r (vNp V - 1)) (updO (mvD (hR g (W + 1)) r (vNp V - 1)) (vNp V - 1) none)) b := fun b hb => by rw [← hh]; exact (hI_sI_ne hb).trans (hI_sI_ne hb)
  have eW : hI h4 W = upd (hI h W) 2 (nI (vNp V - 1)) := by rw [ne4 W (by omega), hV_0, gW W (by omega)]
  have eL : hI h4 (W + 2) = mvD (hI h (W + 2)) r (vNp V - 1) := by rw [ne4 _ (by omega), hV_2, gW _ (by omega)]
  have eP : hR h4 (W + 1) = updO (mvD (hR h (W + 1)) r (vNp V - 1)) (vNp V - 1) none := by rw [← hh]; exact (hV_1).trans (by rw [gR _ (by omega)])
  have ok : vOK (vAct V S) := by
    have v5 := (K.2.1.2.1 (vA V) (Nat.le_refl _))
    rw [← hS]
    refine vAct_ok K.2.1 (by show vNp V - 1 ≤ 8; omega) v5.2.1 (fun k hk => ?_)
    have hk' : k < vNp V - 1 := hk
    show pOK (vNt V) (if k < r then vPR V k else vPR V (k + 1))
    by_cases e : k < r
    · rw [if_pos e]; exact v5.2.2 k (show k < vNp V by omega)
    · rw [if_neg e]; exact v5.2.2 (k + 1) (show k + 1 < vNp V by omega)
  have wp : kvP x W h4 (vHi (vAct V S) (vA (vAct V S))) RC := by
    rw [vAct_S, ← hS]
    refine ⟨by rw [eW]; rfl, by rw [eW]; exact w4, fun k hk => ?_⟩
    have hk' : k < vNp V - 1 := hk
    show ∃ b, hR h4 (W + 1) k = some b ∧ RC b = (if k < r then vPR V k else vPR V (k + 1)) ∧ okP x W h4 b (if k < r then vPR V k else vPR V (k + 1)) ∧ hI h4 (W + 2) k = (if k < r then vPR V k else vPR V (k + 1)) 306
    rw [eP, eL]
    unfold updO mvD
    rw [if_neg (by omega)]
    by_cases e : k < r
    · rw [if_pos e, if_neg (by omega), if_neg (by omega)]
      obtain ⟨b, b1, b2, b3, b4⟩ := K.2.2.1.2.1 k (by omega)
      exact ⟨b, b1, b2, b3.af f4, b4⟩
    · rw [if_neg e, if_pos (by omega), if_pos (by omega)]
      obtain ⟨b, b1, b2, b3, b4⟩ := K.2.2.1.2.1 (k + 1) (by omega)
      exact ⟨b, b1, b2, b3.af f4, b4⟩
  have d4 : kvD x W h4 (vAct V S) RC := by
    refine d.kp K.2.1 f4 (fun _ _ => rfl) (gdk.e (fun b b1 b2 => ?_) ?_) ⟨(f4.2 a a3.2.1.1).1.1.trans a3.2.2.1, by have := a3.1.1; omega, Nat.lt_of_lt_of_le a3.2.1.1 f4.1⟩ ?_
    · rw [ne4 b (by omega), hV_ne (by omega) (by omega)]
    · rw [← hh]; exact hV_neR (by omega)
    · rw [← hS]
      refine Or.inr (Or.inl ⟨rfl, r, a, rfl, hr, by show vNp V - 1 + 1 = vNp V; omega, rfl, fun k hk => if_pos hk, fun k hk _ => if_neg (by omega), rfl, rfl, a2, a3.af f4⟩)
  have K4 : K0 x W h4 (vAct V S) RC := K.ac f4 (fun _ _ => rfl) rfl rfl ok ⟨by rw [eW]; rfl, by rw [eW]; rfl, by rw [eW]; rfl⟩ wp d4
  have m4 : kvM x h4 (mAct M) := by
    rw [← hh]
    refine hM.ac (fun b hb => ?_)
    rw [hV_ne (by omega) (by omega), gW b (by omega)]
  exact g_iret C (by omega) (by omega) ⟨_, _, _, rfl, ⟨W, RC, K4, m4⟩, Or.inr ⟨r, hr, rfl, rfl, by rw [hS], rfl⟩⟩ (gd DX9_drop_0 32 rfl)
end AD
