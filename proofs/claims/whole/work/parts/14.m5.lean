/-! sums, begins, finishes, stars, whiles, holds -/
def rSum (X Y : Nat → Int32) (a b : Nat) : Nat → Int32 := if a + b ≤ 16 then upd (rBes X Y a b) 1 (X 1 ||| Y 1) else rBes X Y a b
def bgP (R : Nat → Int32) (e : Int32) (o p : Nat) : Nat → Int32 := fun k => if k = 1 then R 1 &&& e else if o ≤ k ∧ k < o + p then R k &&& e else R k
theorem bgP_0 (R : Nat → Int32) (e : Int32) (o : Nat) : upd R 1 (R 1 &&& e) = bgP R e o 0 := by
  funext k
  simp only [upd, bgP]
  (repeat' split) <;> first | rfl | (exfalso; omega) | (congr 1; omega)
theorem bgP_s (R : Nat → Int32) (e : Int32) {o p : Nat} (ho : 2 ≤ o) : upd (bgP R e o p) (o + p) (bgP R e o p (o + p) &&& e) = bgP R e o (p + 1) := by
  have h1 : bgP R e o p (o + p) = R (o + p) := by rw [bgP, if_neg (by omega), if_neg (by omega)]
  rw [h1]
  funext k
  by_cases e1 : k = o + p
  · subst e1
    rw [upd, if_pos rfl, bgP, if_neg (by omega), if_pos (by omega)]
  · rw [upd, if_neg e1]
    simp only [bgP]
    (repeat' split) <;> first | rfl | (exfalso; omega) | (congr 1; omega)
def rBegins (R : Nat → Int32) (a : Nat) (e : Int32) : Nat → Int32 := if a ≤ 16 then bgP R e 18 a else R
def rFinish (R : Nat → Int32) (a : Nat) (e : Int32) : Nat → Int32 := if a ≤ 16 then bgP R e 34 a else R
/-- stars, rows below p done, of row p the places below q -/
def stP (R : Nat → Int32) (all : Int32) (a p q : Nat) : Nat → Int32 := fun k => if k = 1 then all else if 50 ≤ k ∧ k < 306 ∧ (k - 50) % 16 < a ∧ ((k - 50) / 16 < p ∨ (k - 50) / 16 = p ∧ (k - 50) % 16 < q) then R k ||| (R (34 + (k - 50) / 16) &&& R (18 + (k - 50) % 16)) else R k
def rStar (R : Nat → Int32) (a : Nat) (all : Int32) : Nat → Int32 := if a ≤ 16 then stP R all a a 0 else R
theorem stP_0 (R : Nat → Int32) (all : Int32) (a : Nat) : upd R 1 all = stP R all a 0 0 := by
  funext k
  simp only [upd, stP]
  (repeat' split) <;> first | rfl | (exfalso; omega) | (congr 1; omega)
theorem stP_s (R : Nat → Int32) (all : Int32) {a p q : Nat} (hp : p < 16) (hq : q < a) (ha : a ≤ 16) : upd (stP R all a p q) (50 + 16 * p + q) (stP R all a p q (50 + 16 * p + q) ||| (stP R all a p q (34 + p) &&& stP R all a p q (18 + q))) = stP R all a p (q + 1) := by
  have h1 : stP R all a p q (50 + 16 * p + q) = R (50 + 16 * p + q) := by rw [stP, if_neg (by omega), if_neg (by omega)]
  have h2 : stP R all a p q (34 + p) = R (34 + p) := by rw [stP, if_neg (by omega), if_neg (by omega)]
  have h3 : stP R all a p q (18 + q) = R (18 + q) := by rw [stP, if_neg (by omega), if_neg (by omega)]
  rw [h1, h2, h3]
  funext k
  by_cases e1 : k = 50 + 16 * p + q
  · subst e1
    rw [upd, if_pos rfl, stP, if_neg (by omega), if_pos (by omega), show (50 + 16 * p + q - 50) / 16 = p by omega, show (50 + 16 * p + q - 50) % 16 = q by omega]
  · rw [upd, if_neg e1]
    simp only [stP]
    (repeat' split) <;> first | rfl | (exfalso; omega)
theorem stP_row (R : Nat → Int32) (all : Int32) (a p : Nat) : stP R all a p a = stP R all a (p + 1) 0 := by
  funext k
  simp only [stP]
  (repeat' split) <;> first | rfl | (exfalso; omega)
/-- atoms below p in which test k holds -/
def holdF (k : Int32) : Nat → Int32
  | 0 => 0
  | p + 1 => holdF k p ||| (if nI p >>> (k &&& 31) &&& 1 = 1 then 1 <<< (nI p &&& 31) else 0)
section M5
variable {w : gD} {m : Nat} {h : HS}
theorem e_m_sums (hm : mSh m h) {x y t a b : Nat} (hx : x < 102) (hy : y < 102) (ht : t < 102) (hxt : x ≠ t) (hyt : y ≠ t) (ha : gRec (hI h (m + 1)) x 0 = nI a) (hb : gRec (hI h (m + 1)) y 0 = nI b) (hab : a + b < 10000) :
    EvF w 3 0 0 yX10_sums cX10_sums 4 none [.ref m, .int (nI x), .int (nI y), .int (nI t)] h none (sF h (m + 1) (pRec (hI h (m + 1)) t (rSum (gRec (hI h (m + 1)) x) (gRec (hI h (m + 1)) y) a b))) := by
  refine g_start (by decide) (Nat.le_of_ble_eq_true rfl) [(0, _), (1, _), (2, _), (3, _)] rfl (fun z hfl C => ?_)
  refine g_aload_n C (gd DX10_sums_0 0 rfl) 0 rfl rfl ?_
  refine g_iload_n C (gd DX10_sums_0 1 rfl) 1 rfl rfl ?_
  refine g_iload_n C (gd DX10_sums_0 2 rfl) 2 rfl rfl ?_
  refine g_iload_n C (gd DX10_sums_0 3 rfl) 3 rfl rfl ?_
  refine g_cV1 (ci := 10) C [_, _, _] mX10_beside lm_TestJudgeModel_141 (by exact hm.1) rfl rfl (e_m_beside hm hx hy ht hxt hyt ha hb hab) hfl (by decide) (by decide) (by omega) (by omega) rfl rfl (Nat.le_of_ble_eq_true rfl) (gd DX10_sums_0 4 rfl) ?_
  by_cases hle : a + b ≤ 16
  · rw [b1_t hle]
    refine g_if_eq C 29 (gd DX10_sums_0 5 rfl) (by decide) (fun c7 => ?_) (fun c7 => ?_)
    · exact absurd c7 (by decide)
    · refine g_aload_n C (gd DX10_sums_0 6 rfl) 0 rfl rfl ?_
      refine g_iload_n C (gd DX10_sums_0 7 rfl) 3 rfl rfl ?_
      refine g_iconst (v := 1) C (gd DX10_sums_0 8 rfl) (by decide) ?_
      refine g_aload_n C (gd DX10_sums_0 9 rfl) 0 rfl rfl ?_
      refine g_iload_n C (gd DX10_sums_0 10 rfl) 1 rfl rfl ?_
      refine g_iconst (v := 1) C (gd DX10_sums_0 11 rfl) (by decide) ?_
      refine g_cV1 (ci := 10) C [_, _] mX10_at lm_TestJudgeModel_131 (by exact hm.1) rfl rfl (e_atO (k := 1) (x := x) hm (by omega) (by omega) (by omega) rfl rfl) hfl (by decide) (by decide) (by omega) (by omega) rfl rfl (Nat.le_of_ble_eq_true rfl) (gd DX10_sums_0 12 rfl) ?_
      refine g_aload_n C (gd DX10_sums_0 13 rfl) 0 rfl rfl ?_
      refine g_iload_n C (gd DX10_sums_0 14 rfl) 2 rfl rfl ?_
      refine g_iconst (v := 1) C (gd DX10_sums_0 15 rfl) (by decide) ?_
      refine g_cV1 (ci := 10) C [_, _] mX10_at lm_TestJudgeModel_131 (by exact hm.1) rfl rfl (e_atO (k := 1) (x := y) hm (by omega) (by omega) (by omega) rfl rfl) hfl (by decide) (by decide) (by omega) (by omega) rfl rfl (Nat.le_of_ble_eq_true rfl) (gd DX10_sums_0 16 rfl) ?_
      refine g_ior C (gd DX10_sums_0 17 rfl) ?_
      refine g_cV0 (v := .null) (ci := 10) C [_, _, _] mX10_puts lm_TestJudgeModel_123 (by exact hm.1) rfl rfl (e_puT (k := 1) hm (by omega) (by omega) rfl rfl) hfl (by decide) (by decide) (by omega) (by omega) rfl rfl (Nat.le_of_ble_eq_true rfl) (gd DX10_sums_0 18 rfl) ?_
      exact g_vret C (by omega) (by omega) ⟨rfl, by rw [rSum, if_pos hle]⟩ (gd DX10_sums_0 19 rfl)
  · rw [b1_f hle]
    refine g_if_eq C 29 (gd DX10_sums_0 5 rfl) (by decide) (fun c7 => ?_) (fun c7 => ?_)
    · exact g_vret C (by omega) (by omega) ⟨rfl, by rw [rSum, if_neg hle]⟩ (gd DX10_sums_0 19 rfl)
    · exact absurd rfl c7
theorem e_m_begins (hm : mSh m h) {ρ R : Nat → Int32} {t a : Nat} (ht : t < 102) (ha : R 0 = nI a) (hab : a < 10000) (e : Int32) :
    EvF w 2 0 0 yX10_begins cX10_begins 4 none [.ref m, .int (nI t), .int e] (sF h (m + 1) (pRec ρ t R)) none (sF h (m + 1) (pRec ρ t (rBegins R a e))) := by
  refine g_start (by decide) (Nat.le_of_ble_eq_true rfl) [(0, _), (1, _), (2, _)] rfl (fun z hfl C => ?_)
  have key : a ≤ 16 → ∀ n p, p + n = a → GW z w 4 (gQ z w 0 0 (fun r' h'' => r' = none ∧ h'' = sF h (m + 1) (pRec ρ t (rBegins R a e)))) 0 0 25 [(0, .ref m), (1, .int (nI t)), (2, .int e), (3, .int (nI p))] [] (sF h (m + 1) (pRec ρ t (bgP R e 18 p))) := by
    intro hle n
    have h0 : ∀ p, bgP R e 18 p 0 = nI a := fun p => by rw [bgP, if_neg (by omega), if_neg (by omega), ha]
    induction n with
    | zero =>
      intro p hp
      refine g_iload_n C (gd DX10_begins_0 17 rfl) 3 rfl rfl ?_
      refine g_aload_n C (gd DX10_begins_0 18 rfl) 0 rfl rfl ?_
      refine g_iload_n C (gd DX10_begins_0 19 rfl) 1 rfl rfl ?_
      refine g_iconst (v := 0) C (gd DX10_begins_0 20 rfl) (by decide) ?_
      refine g_cV1 (ci := 10) C [_, _] mX10_at lm_TestJudgeModel_131 (by exact hm.1) rfl rfl (e_atT (k := 0) hm (by omega) (by omega) rfl rfl) hfl (by decide) (by decide) (by omega) (by omega) rfl rfl (Nat.le_of_ble_eq_true rfl) (gd DX10_begins_0 21 rfl) ?_
      rw [h0]
      refine g_icmp_ge C 61 (gd DX10_begins_0 22 rfl) (by decide) (fun c32 => ?_) (fun c32 => ?_)
      · exact g_vret C (by omega) (by omega) ⟨rfl, by rw [rBegins, if_pos hle, show p = a by omega]⟩ (gd DX10_begins_0 39 rfl)
      · exact absurd (nI_le (by omega) (by omega)) c32
    | succ n ih =>
      intro p hp
      refine g_iload_n C (gd DX10_begins_0 17 rfl) 3 rfl rfl ?_
      refine g_aload_n C (gd DX10_begins_0 18 rfl) 0 rfl rfl ?_
      refine g_iload_n C (gd DX10_begins_0 19 rfl) 1 rfl rfl ?_
      refine g_iconst (v := 0) C (gd DX10_begins_0 20 rfl) (by decide) ?_
      refine g_cV1 (ci := 10) C [_, _] mX10_at lm_TestJudgeModel_131 (by exact hm.1) rfl rfl (e_atT (k := 0) hm (by omega) (by omega) rfl rfl) hfl (by decide) (by decide) (by omega) (by omega) rfl rfl (Nat.le_of_ble_eq_true rfl) (gd DX10_begins_0 21 rfl) ?_
      rw [h0]
      refine g_icmp_ge C 61 (gd DX10_begins_0 22 rfl) (by decide) (fun c32 => ?_) (fun c32 => ?_)
      · exact absurd c32 (nI_ge (by omega) (by omega))
      · refine g_aload_n C (gd DX10_begins_0 23 rfl) 0 rfl rfl ?_
        refine g_iload_n C (gd DX10_begins_0 24 rfl) 1 rfl rfl ?_
        refine g_bipush (v := 18) C (gd DX10_begins_0 25 rfl) (by decide) ?_
        refine g_iload_n C (gd DX10_begins_0 26 rfl) 3 rfl rfl ?_
        refine g_iadd C (gd DX10_begins_0 27 rfl) ?_
        refine g_aload_n C (gd DX10_begins_0 28 rfl) 0 rfl rfl ?_
        refine g_iload_n C (gd DX10_begins_0 29 rfl) 1 rfl rfl ?_
        refine g_bipush (v := 18) C (gd DX10_begins_0 30 rfl) (by decide) ?_
        refine g_iload_n C (gd DX10_begins_0 31 rfl) 3 rfl rfl ?_
        refine g_iadd C (gd DX10_begins_0 32 rfl) ?_
        refine g_cV1 (ci := 10) C [_, _] mX10_at lm_TestJudgeModel_131 (by exact hm.1) rfl rfl (e_atT (k := (18 + p)) hm (by omega) (by omega) rfl (nx_add rfl rfl)) hfl (by decide) (by decide) (by omega) (by omega) rfl rfl (Nat.le_of_ble_eq_true rfl) (gd DX10_begins_0 33 rfl) ?_
        refine g_iload_n C (gd DX10_begins_0 34 rfl) 2 rfl rfl ?_
        refine g_iand C (gd DX10_begins_0 35 rfl) ?_
        refine g_cV0 (v := .null) (ci := 10) C [_, _, _] mX10_puts lm_TestJudgeModel_123 (by exact hm.1) rfl rfl (e_puT (k := (18 + p)) hm (by omega) (by omega) rfl (nx_add rfl rfl)) hfl (by decide) (by decide) (by omega) (by omega) rfl rfl (Nat.le_of_ble_eq_true rfl) (gd DX10_begins_0 36 rfl) ?_
        refine g_iinc (lv' := [(0, _), (1, _), (2, _), (3, _)]) C (gd DX10_begins_0 37 rfl) 3 [1, 2, 3, 0] rfl rfl (by decide) rfl ?_
        refine g_goto (tgt := 25) C (gd DX10_begins_0 38 rfl) (by decide) ?_
        exact GW.cast (by rw [inc1]) rfl (by rw [bgP_s R e (by omega)]) (ih (p + 1) (by omega))
  refine g_aload_n C (gd DX10_begins_0 0 rfl) 0 rfl rfl ?_
  refine g_iload_n C (gd DX10_begins_0 1 rfl) 1 rfl rfl ?_
  refine g_cV1 (ci := 10) C [_] mX10_isKnown lm_TestJudgeModel_135 (by exact hm.1) rfl rfl (e_m_isKnown hm ht) hfl (by decide) (by decide) (by omega) (by omega) rfl rfl (Nat.le_of_ble_eq_true rfl) (gd DX10_begins_0 2 rfl) ?_
  by_cases hle : a ≤ 16
  · rw [b1_t (by rw [ha]; exact nI_le (b := 16) hle (by omega))]
    refine g_if_ne C 9 (gd DX10_begins_0 3 rfl) (by decide) (fun c5 => ?_) (fun c5 => ?_)
    · refine g_aload_n C (gd DX10_begins_0 5 rfl) 0 rfl rfl ?_
      refine g_iload_n C (gd DX10_begins_0 6 rfl) 1 rfl rfl ?_
      refine g_iconst (v := 1) C (gd DX10_begins_0 7 rfl) (by decide) ?_
      refine g_aload_n C (gd DX10_begins_0 8 rfl) 0 rfl rfl ?_
      refine g_iload_n C (gd DX10_begins_0 9 rfl) 1 rfl rfl ?_
      refine g_iconst (v := 1) C (gd DX10_begins_0 10 rfl) (by decide) ?_
      refine g_cV1 (ci := 10) C [_, _] mX10_at lm_TestJudgeModel_131 (by exact hm.1) rfl rfl (e_atT (k := 1) hm (by omega) (by omega) rfl rfl) hfl (by decide) (by decide) (by omega) (by omega) rfl rfl (Nat.le_of_ble_eq_true rfl) (gd DX10_begins_0 11 rfl) ?_
      refine g_iload_n C (gd DX10_begins_0 12 rfl) 2 rfl rfl ?_
      refine g_iand C (gd DX10_begins_0 13 rfl) ?_
      refine g_cV0 (v := .null) (ci := 10) C [_, _, _] mX10_puts lm_TestJudgeModel_123 (by exact hm.1) rfl rfl (e_puT (k := 1) hm (by omega) (by omega) rfl rfl) hfl (by decide) (by decide) (by omega) (by omega) rfl rfl (Nat.le_of_ble_eq_true rfl) (gd DX10_begins_0 14 rfl) ?_
      refine g_iconst (v := 0) C (gd DX10_begins_0 15 rfl) (by decide) ?_
      refine g_istore_n (lv' := [(0, _), (1, _), (2, _), (3, _)]) C (gd DX10_begins_0 16 rfl) [1, 2, 3, 0] rfl (by decide) rfl ?_
      exact GW.cast rfl rfl (by rw [bgP_0]) (key hle a 0 (by omega))
    · exact absurd c5 (by decide)
  · rw [b1_f (by rw [ha]; exact nI_ge (a := 16) (by omega) (by omega))]
    refine g_if_ne C 9 (gd DX10_begins_0 3 rfl) (by decide) (fun c5 => ?_) (fun c5 => ?_)
    · exact absurd rfl c5
    · exact g_vret C (by omega) (by omega) ⟨rfl, by rw [rBegins, if_neg hle]⟩ (gd DX10_begins_0 4 rfl)
theorem e_m_finishes (hm : mSh m h) {ρ R : Nat → Int32} {t a : Nat} (ht : t < 102) (ha : R 0 = nI a) (hab : a < 10000) (e : Int32) :
    EvF w 2 0 0 yX10_finishes cX10_finishes 4 none [.ref m, .int (nI t), .int e] (sF h (m + 1) (pRec ρ t R)) none (sF h (m + 1) (pRec ρ t (rFinish R a e))) := by
  refine g_start (by decide) (Nat.le_of_ble_eq_true rfl) [(0, _), (1, _), (2, _)] rfl (fun z hfl C => ?_)
  have key : a ≤ 16 → ∀ n p, p + n = a → GW z w 4 (gQ z w 0 0 (fun r' h'' => r' = none ∧ h'' = sF h (m + 1) (pRec ρ t (rFinish R a e)))) 0 0 25 [(0, .ref m), (1, .int (nI t)), (2, .int e), (3, .int (nI p))] [] (sF h (m + 1) (pRec ρ t (bgP R e 34 p))) := by
    intro hle n
    have h0 : ∀ p, bgP R e 34 p 0 = nI a := fun p => by rw [bgP, if_neg (by omega), if_neg (by omega), ha]
    induction n with
    | zero =>
      intro p hp
      refine g_iload_n C (gd DX10_finishes_0 17 rfl) 3 rfl rfl ?_
      refine g_aload_n C (gd DX10_finishes_0 18 rfl) 0 rfl rfl ?_
      refine g_iload_n C (gd DX10_finishes_0 19 rfl) 1 rfl rfl ?_
      refine g_iconst (v := 0) C (gd DX10_finishes_0 20 rfl) (by decide) ?_
      refine g_cV1 (ci := 10) C [_, _] mX10_at lm_TestJudgeModel_131 (by exact hm.1) rfl rfl (e_atT (k := 0) hm (by omega) (by omega) rfl rfl) hfl (by decide) (by decide) (by omega) (by omega) rfl rfl (Nat.le_of_ble_eq_true rfl) (gd DX10_finishes_0 21 rfl) ?_
      rw [h0]
      refine g_icmp_ge C 61 (gd DX10_finishes_0 22 rfl) (by decide) (fun c32 => ?_) (fun c32 => ?_)
      · exact g_vret C (by omega) (by omega) ⟨rfl, by rw [rFinish, if_pos hle, show p = a by omega]⟩ (gd DX10_finishes_0 39 rfl)
      · exact absurd (nI_le (by omega) (by omega)) c32
    | succ n ih =>
      intro p hp
      refine g_iload_n C (gd DX10_finishes_0 17 rfl) 3 rfl rfl ?_
      refine g_aload_n C (gd DX10_finishes_0 18 rfl) 0 rfl rfl ?_
      refine g_iload_n C (gd DX10_finishes_0 19 rfl) 1 rfl rfl ?_
      refine g_iconst (v := 0) C (gd DX10_finishes_0 20 rfl) (by decide) ?_
      refine g_cV1 (ci := 10) C [_, _] mX10_at lm_TestJudgeModel_131 (by exact hm.1) rfl rfl (e_atT (k := 0) hm (by omega) (by omega) rfl rfl) hfl (by decide) (by decide) (by omega) (by omega) rfl rfl (Nat.le_of_ble_eq_true rfl) (gd DX10_finishes_0 21 rfl) ?_
      rw [h0]
      refine g_icmp_ge C 61 (gd DX10_finishes_0 22 rfl) (by decide) (fun c32 => ?_) (fun c32 => ?_)
      · exact absurd c32 (nI_ge (by omega) (by omega))
      · refine g_aload_n C (gd DX10_finishes_0 23 rfl) 0 rfl rfl ?_
        refine g_iload_n C (gd DX10_finishes_0 24 rfl) 1 rfl rfl ?_
        refine g_bipush (v := 34) C (gd DX10_finishes_0 25 rfl) (by decide) ?_
        refine g_iload_n C (gd DX10_finishes_0 26 rfl) 3 rfl rfl ?_
        refine g_iadd C (gd DX10_finishes_0 27 rfl) ?_
        refine g_aload_n C (gd DX10_finishes_0 28 rfl) 0 rfl rfl ?_
        refine g_iload_n C (gd DX10_finishes_0 29 rfl) 1 rfl rfl ?_
        refine g_bipush (v := 34) C (gd DX10_finishes_0 30 rfl) (by decide) ?_
        refine g_iload_n C (gd DX10_finishes_0 31 rfl) 3 rfl rfl ?_
        refine g_iadd C (gd DX10_finishes_0 32 rfl) ?_
        refine g_cV1 (ci := 10) C [_, _] mX10_at lm_TestJudgeModel_131 (by exact hm.1) rfl rfl (e_atT (k := (34 + p)) hm (by omega) (by omega) rfl (nx_add rfl rfl)) hfl (by decide) (by decide) (by omega) (by omega) rfl rfl (Nat.le_of_ble_eq_true rfl) (gd DX10_finishes_0 33 rfl) ?_
        refine g_iload_n C (gd DX10_finishes_0 34 rfl) 2 rfl rfl ?_
        refine g_iand C (gd DX10_finishes_0 35 rfl) ?_
        refine g_cV0 (v := .null) (ci := 10) C [_, _, _] mX10_puts lm_TestJudgeModel_123 (by exact hm.1) rfl rfl (e_puT (k := (34 + p)) hm (by omega) (by omega) rfl (nx_add rfl rfl)) hfl (by decide) (by decide) (by omega) (by omega) rfl rfl (Nat.le_of_ble_eq_true rfl) (gd DX10_finishes_0 36 rfl) ?_
        refine g_iinc (lv' := [(0, _), (1, _), (2, _), (3, _)]) C (gd DX10_finishes_0 37 rfl) 3 [1, 2, 3, 0] rfl rfl (by decide) rfl ?_
        refine g_goto (tgt := 25) C (gd DX10_finishes_0 38 rfl) (by decide) ?_
        exact GW.cast (by rw [inc1]) rfl (by rw [bgP_s R e (by omega)]) (ih (p + 1) (by omega))
  refine g_aload_n C (gd DX10_finishes_0 0 rfl) 0 rfl rfl ?_
  refine g_iload_n C (gd DX10_finishes_0 1 rfl) 1 rfl rfl ?_
  refine g_cV1 (ci := 10) C [_] mX10_isKnown lm_TestJudgeModel_135 (by exact hm.1) rfl rfl (e_m_isKnown hm ht) hfl (by decide) (by decide) (by omega) (by omega) rfl rfl (Nat.le_of_ble_eq_true rfl) (gd DX10_finishes_0 2 rfl) ?_
  by_cases hle : a ≤ 16
  · rw [b1_t (by rw [ha]; exact nI_le (b := 16) hle (by omega))]
    refine g_if_ne C 9 (gd DX10_finishes_0 3 rfl) (by decide) (fun c5 => ?_) (fun c5 => ?_)
    · refine g_aload_n C (gd DX10_finishes_0 5 rfl) 0 rfl rfl ?_
      refine g_iload_n C (gd DX10_finishes_0 6 rfl) 1 rfl rfl ?_
      refine g_iconst (v := 1) C (gd DX10_finishes_0 7 rfl) (by decide) ?_
      refine g_aload_n C (gd DX10_finishes_0 8 rfl) 0 rfl rfl ?_
      refine g_iload_n C (gd DX10_finishes_0 9 rfl) 1 rfl rfl ?_
      refine g_iconst (v := 1) C (gd DX10_finishes_0 10 rfl) (by decide) ?_
      refine g_cV1 (ci := 10) C [_, _] mX10_at lm_TestJudgeModel_131 (by exact hm.1) rfl rfl (e_atT (k := 1) hm (by omega) (by omega) rfl rfl) hfl (by decide) (by decide) (by omega) (by omega) rfl rfl (Nat.le_of_ble_eq_true rfl) (gd DX10_finishes_0 11 rfl) ?_
      refine g_iload_n C (gd DX10_finishes_0 12 rfl) 2 rfl rfl ?_
      refine g_iand C (gd DX10_finishes_0 13 rfl) ?_
      refine g_cV0 (v := .null) (ci := 10) C [_, _, _] mX10_puts lm_TestJudgeModel_123 (by exact hm.1) rfl rfl (e_puT (k := 1) hm (by omega) (by omega) rfl rfl) hfl (by decide) (by decide) (by omega) (by omega) rfl rfl (Nat.le_of_ble_eq_true rfl) (gd DX10_finishes_0 14 rfl) ?_
      refine g_iconst (v := 0) C (gd DX10_finishes_0 15 rfl) (by decide) ?_
      refine g_istore_n (lv' := [(0, _), (1, _), (2, _), (3, _)]) C (gd DX10_finishes_0 16 rfl) [1, 2, 3, 0] rfl (by decide) rfl ?_
      exact GW.cast rfl rfl (by rw [bgP_0]) (key hle a 0 (by omega))
    · exact absurd c5 (by decide)
  · rw [b1_f (by rw [ha]; exact nI_ge (a := 16) (by omega) (by omega))]
    refine g_if_ne C 9 (gd DX10_finishes_0 3 rfl) (by decide) (fun c5 => ?_) (fun c5 => ?_)
    · exact absurd rfl c5
    · exact g_vret C (by omega) (by omega) ⟨rfl, by rw [rFinish, if_neg hle]⟩ (gd DX10_finishes_0 4 rfl)
theorem e_m_stars (hm : mSh m h) {ρ R : Nat → Int32} {t a : Nat} (ht : t < 102) (ha : R 0 = nI a) (hab : a < 10000) (all : Int32) :
    EvF w 2 0 0 yX10_stars cX10_stars 5 none [.ref m, .int (nI t), .int all] (sF h (m + 1) (pRec ρ t R)) none (sF h (m + 1) (pRec ρ t (rStar R a all))) := by
  refine g_start (by decide) (Nat.le_of_ble_eq_true rfl) [(0, _), (1, _), (2, _)] rfl (fun z hfl C => ?_)
  have h0 : ∀ p q, stP R all a p q 0 = nI a := fun p q => by rw [stP, if_neg (by omega), if_neg (by omega), ha]
  have outer : a ≤ 16 → ∀ n p, p + n = a → GW z w 5 (gQ z w 0 0 (fun r' h'' => r' = none ∧ h'' = sF h (m + 1) (pRec ρ t (rStar R a all)))) 0 0 18 [(0, .ref m), (1, .int (nI t)), (2, .int all), (3, .int (nI p))] [] (sF h (m + 1) (pRec ρ t (stP R all a p 0))) := by
    intro hle n
    induction n with
    | zero =>
      intro p hp
      refine g_iload_n C (gd DX10_stars_0 12 rfl) 3 rfl rfl ?_
      refine g_aload_n C (gd DX10_stars_0 13 rfl) 0 rfl rfl ?_
      refine g_iload_n C (gd DX10_stars_0 14 rfl) 1 rfl rfl ?_
      refine g_iconst (v := 0) C (gd DX10_stars_0 15 rfl) (by decide) ?_
      refine g_cV1 (ci := 10) C [_, _] mX10_at lm_TestJudgeModel_131 (by exact hm.1) rfl rfl (e_atT (k := 0) hm (by omega) (by omega) rfl rfl) hfl (by decide) (by decide) (by omega) (by omega) rfl rfl (Nat.le_of_ble_eq_true rfl) (gd DX10_stars_0 16 rfl) ?_
      rw [h0]
      refine g_icmp_ge C 97 (gd DX10_stars_0 17 rfl) (by decide) (fun c25 => ?_) (fun c25 => ?_)
      · exact g_vret C (by omega) (by omega) ⟨rfl, by rw [rStar, if_pos hle, show p = a by omega]⟩ (gd DX10_stars_0 56 rfl)
      · exact absurd (nI_le (by omega) (by omega)) c25
    | succ n ih =>
      intro p hp
      have inner : ∀ n q, q + n = a → GW z w 5 (gQ z w 0 0 (fun r' h'' => r' = none ∧ h'' = sF h (m + 1) (pRec ρ t (rStar R a all)))) 0 0 31 [(0, .ref m), (1, .int (nI t)), (2, .int all), (3, .int (nI p)), (4, .int (nI q))] [] (sF h (m + 1) (pRec ρ t (stP R all a p q))) := by
        intro n
        induction n with
        | zero =>
          intro q hq
          refine g_iload C (gd DX10_stars_0 20 rfl) 4 rfl ?_
          refine g_aload_n C (gd DX10_stars_0 21 rfl) 0 rfl rfl ?_
          refine g_iload_n C (gd DX10_stars_0 22 rfl) 1 rfl rfl ?_
          refine g_iconst (v := 0) C (gd DX10_stars_0 23 rfl) (by decide) ?_
          refine g_cV1 (ci := 10) C [_, _] mX10_at lm_TestJudgeModel_131 (by exact hm.1) rfl rfl (e_atT (k := 0) hm (by omega) (by omega) rfl rfl) hfl (by decide) (by decide) (by omega) (by omega) rfl rfl (Nat.le_of_ble_eq_true rfl) (gd DX10_stars_0 24 rfl) ?_
          rw [h0]
          refine g_icmp_ge C 91 (gd DX10_stars_0 25 rfl) (by decide) (fun c39 => ?_) (fun c39 => ?_)
          · refine g_iinc (lv' := [(0, _), (1, _), (2, _), (3, _), (4, _)]) C (gd DX10_stars_0 54 rfl) 3 [1, 2, 3, 0, 4] rfl rfl (by decide) rfl ?_
            refine g_goto (tgt := 18) C (gd DX10_stars_0 55 rfl) (by decide) ?_
            refine GW.sub [0, 1, 2, 3] rfl (Nat.le_refl _) (Nat.le_refl _) (lv' := [(0, _), (1, _), (2, _), (3, _)]) ?_
            exact GW.cast (by rw [inc1]) rfl (by rw [show q = a by omega, stP_row]) (ih (p + 1) (by omega))
          · exact absurd (nI_le (by omega) (by omega)) c39
        | succ n ih2 =>
          intro q hq
          refine g_iload C (gd DX10_stars_0 20 rfl) 4 rfl ?_
          refine g_aload_n C (gd DX10_stars_0 21 rfl) 0 rfl rfl ?_
          refine g_iload_n C (gd DX10_stars_0 22 rfl) 1 rfl rfl ?_
          refine g_iconst (v := 0) C (gd DX10_stars_0 23 rfl) (by decide) ?_
          refine g_cV1 (ci := 10) C [_, _] mX10_at lm_TestJudgeModel_131 (by exact hm.1) rfl rfl (e_atT (k := 0) hm (by omega) (by omega) rfl rfl) hfl (by decide) (by decide) (by omega) (by omega) rfl rfl (Nat.le_of_ble_eq_true rfl) (gd DX10_stars_0 24 rfl) ?_
          rw [h0]
          refine g_icmp_ge C 91 (gd DX10_stars_0 25 rfl) (by decide) (fun c39 => ?_) (fun c39 => ?_)
          · exact absurd c39 (nI_ge (by omega) (by omega))
          · refine g_aload_n C (gd DX10_stars_0 26 rfl) 0 rfl rfl ?_
            refine g_iload_n C (gd DX10_stars_0 27 rfl) 1 rfl rfl ?_
            refine g_iload_n C (gd DX10_stars_0 28 rfl) 3 rfl rfl ?_
            refine g_iload C (gd DX10_stars_0 29 rfl) 4 rfl ?_
            refine g_cS1 C [_, _] mX10_between lm_TestJudgeModel_138 (e_m_between _ _) hfl (by decide) (by decide) (by omega) (by omega) rfl rfl (Nat.le_of_ble_eq_true rfl) (gd DX10_stars_0 30 rfl) ?_
            refine g_aload_n C (gd DX10_stars_0 31 rfl) 0 rfl rfl ?_
            refine g_iload_n C (gd DX10_stars_0 32 rfl) 1 rfl rfl ?_
            refine g_iload_n C (gd DX10_stars_0 33 rfl) 3 rfl rfl ?_
            refine g_iload C (gd DX10_stars_0 34 rfl) 4 rfl ?_
            refine g_cS1 C [_, _] mX10_between lm_TestJudgeModel_138 (e_m_between _ _) hfl (by decide) (by decide) (by omega) (by omega) rfl rfl (Nat.le_of_ble_eq_true rfl) (gd DX10_stars_0 35 rfl) ?_
            refine g_cV1 (ci := 10) C [_, _] mX10_at lm_TestJudgeModel_131 (by exact hm.1) rfl rfl (e_atT (k := (50 + 16 * p + q)) hm (by omega) (by omega) rfl (nx_bt rfl rfl)) hfl (by decide) (by decide) (by omega) (by omega) rfl rfl (Nat.le_of_ble_eq_true rfl) (gd DX10_stars_0 36 rfl) ?_
            refine g_aload_n C (gd DX10_stars_0 37 rfl) 0 rfl rfl ?_
            refine g_iload_n C (gd DX10_stars_0 38 rfl) 1 rfl rfl ?_
            refine g_bipush (v := 34) C (gd DX10_stars_0 39 rfl) (by decide) ?_
            refine g_iload_n C (gd DX10_stars_0 40 rfl) 3 rfl rfl ?_
            refine g_iadd C (gd DX10_stars_0 41 rfl) ?_
            refine g_cV1 (ci := 10) C [_, _] mX10_at lm_TestJudgeModel_131 (by exact hm.1) rfl rfl (e_atT (k := (34 + p)) hm (by omega) (by omega) rfl (nx_add rfl rfl)) hfl (by decide) (by decide) (by omega) (by omega) rfl rfl (Nat.le_of_ble_eq_true rfl) (gd DX10_stars_0 42 rfl) ?_
            refine g_aload_n C (gd DX10_stars_0 43 rfl) 0 rfl rfl ?_
            refine g_iload_n C (gd DX10_stars_0 44 rfl) 1 rfl rfl ?_
            refine g_bipush (v := 18) C (gd DX10_stars_0 45 rfl) (by decide) ?_
            refine g_iload C (gd DX10_stars_0 46 rfl) 4 rfl ?_
            refine g_iadd C (gd DX10_stars_0 47 rfl) ?_
            refine g_cV1 (ci := 10) C [_, _] mX10_at lm_TestJudgeModel_131 (by exact hm.1) rfl rfl (e_atT (k := (18 + q)) hm (by omega) (by omega) rfl (nx_add rfl rfl)) hfl (by decide) (by decide) (by omega) (by omega) rfl rfl (Nat.le_of_ble_eq_true rfl) (gd DX10_stars_0 48 rfl) ?_
            refine g_iand C (gd DX10_stars_0 49 rfl) ?_
            refine g_ior C (gd DX10_stars_0 50 rfl) ?_
            refine g_cV0 (v := .null) (ci := 10) C [_, _, _] mX10_puts lm_TestJudgeModel_123 (by exact hm.1) rfl rfl (e_puT (k := (50 + 16 * p + q)) hm (by omega) (by omega) rfl (nx_bt rfl rfl)) hfl (by decide) (by decide) (by omega) (by omega) rfl rfl (Nat.le_of_ble_eq_true rfl) (gd DX10_stars_0 51 rfl) ?_
            refine g_iinc (lv' := [(0, _), (1, _), (2, _), (3, _), (4, _)]) C (gd DX10_stars_0 52 rfl) 4 [1, 2, 3, 4, 0] rfl rfl (by decide) rfl ?_
            refine g_goto (tgt := 31) C (gd DX10_stars_0 53 rfl) (by decide) ?_
            exact GW.cast (by rw [inc1]) rfl (by rw [stP_s R all (by omega) (by omega) hle]) (ih2 (q + 1) (by omega))
      refine g_iload_n C (gd DX10_stars_0 12 rfl) 3 rfl rfl ?_
      refine g_aload_n C (gd DX10_stars_0 13 rfl) 0 rfl rfl ?_
      refine g_iload_n C (gd DX10_stars_0 14 rfl) 1 rfl rfl ?_
      refine g_iconst (v := 0) C (gd DX10_stars_0 15 rfl) (by decide) ?_
      refine g_cV1 (ci := 10) C [_, _] mX10_at lm_TestJudgeModel_131 (by exact hm.1) rfl rfl (e_atT (k := 0) hm (by omega) (by omega) rfl rfl) hfl (by decide) (by decide) (by omega) (by omega) rfl rfl (Nat.le_of_ble_eq_true rfl) (gd DX10_stars_0 16 rfl) ?_
      rw [h0]
      refine g_icmp_ge C 97 (gd DX10_stars_0 17 rfl) (by decide) (fun c25 => ?_) (fun c25 => ?_)
      · exact absurd c25 (nI_ge (by omega) (by omega))
      · refine g_iconst (v := 0) C (gd DX10_stars_0 18 rfl) (by decide) ?_
        refine g_istore (lv' := [(0, _), (1, _), (2, _), (3, _), (4, _)]) C (gd DX10_stars_0 19 rfl) [1, 2, 3, 4, 0] (by decide) rfl ?_
        exact inner a 0 (by omega)
  refine g_aload_n C (gd DX10_stars_0 0 rfl) 0 rfl rfl ?_
  refine g_iload_n C (gd DX10_stars_0 1 rfl) 1 rfl rfl ?_
  refine g_cV1 (ci := 10) C [_] mX10_isKnown lm_TestJudgeModel_135 (by exact hm.1) rfl rfl (e_m_isKnown hm ht) hfl (by decide) (by decide) (by omega) (by omega) rfl rfl (Nat.le_of_ble_eq_true rfl) (gd DX10_stars_0 2 rfl) ?_
  by_cases hle : a ≤ 16
  · rw [b1_t (by rw [ha]; exact nI_le (b := 16) hle (by omega))]
    refine g_if_ne C 9 (gd DX10_stars_0 3 rfl) (by decide) (fun c5 => ?_) (fun c5 => ?_)
    · refine g_aload_n C (gd DX10_stars_0 5 rfl) 0 rfl rfl ?_
      refine g_iload_n C (gd DX10_stars_0 6 rfl) 1 rfl rfl ?_
      refine g_iconst (v := 1) C (gd DX10_stars_0 7 rfl) (by decide) ?_
      refine g_iload_n C (gd DX10_stars_0 8 rfl) 2 rfl rfl ?_
      refine g_cV0 (v := .null) (ci := 10) C [_, _, _] mX10_puts lm_TestJudgeModel_123 (by exact hm.1) rfl rfl (e_puT (k := 1) hm (by omega) (by omega) rfl rfl) hfl (by decide) (by decide) (by omega) (by omega) rfl rfl (Nat.le_of_ble_eq_true rfl) (gd DX10_stars_0 9 rfl) ?_
      refine g_iconst (v := 0) C (gd DX10_stars_0 10 rfl) (by decide) ?_
      refine g_istore_n (lv' := [(0, _), (1, _), (2, _), (3, _)]) C (gd DX10_stars_0 11 rfl) [1, 2, 3, 0] rfl (by decide) rfl ?_
      exact GW.cast rfl rfl (by rw [stP_0 R all a]) (outer hle a 0 (by omega))
    · exact absurd c5 (by decide)
  · rw [b1_f (by rw [ha]; exact nI_ge (a := 16) (by omega) (by omega))]
    refine g_if_ne C 9 (gd DX10_stars_0 3 rfl) (by decide) (fun c5 => ?_) (fun c5 => ?_)
    · exact absurd rfl c5
    · exact g_vret C (by omega) (by omega) ⟨rfl, by rw [rStar, if_neg hle]⟩ (gd DX10_stars_0 4 rfl)
theorem rBegins_0 {R : Nat → Int32} {a : Nat} {e : Int32} : rBegins R a e 0 = R 0 := by
  unfold rBegins
  split
  · rw [bgP, if_neg (by omega), if_neg (by omega)]
  · rfl
theorem rStar_0 {R : Nat → Int32} {a : Nat} {e : Int32} : rStar R a e 0 = R 0 := by
  unfold rStar
  split
  · rw [stP, if_neg (by omega), if_neg (by omega)]
  · rfl
theorem rFinish_0 {R : Nat → Int32} {a : Nat} {e : Int32} : rFinish R a e 0 = R 0 := by
  unfold rFinish
  split
  · rw [bgP, if_neg (by omega), if_neg (by omega)]
  · rfl
theorem e_m_whiles (hm : mSh m h) {ρ R : Nat → Int32} {t a : Nat} (ht : t < 102) (ha : R 0 = nI a) (hab : a < 10000) (e all : Int32) :
    EvF w 3 0 0 yX10_whiles cX10_whiles 4 none [.ref m, .int (nI t), .int e, .int all] (sF h (m + 1) (pRec ρ t R)) none (sF h (m + 1) (pRec ρ t (rFinish (rStar (rBegins R a e) a all) a (all &&& (e ^^^ -1))))) := by
  refine g_start (by decide) (Nat.le_of_ble_eq_true rfl) [(0, _), (1, _), (2, _), (3, _)] rfl (fun z hfl C => ?_)
  refine g_aload_n C (gd DX10_whiles_0 0 rfl) 0 rfl rfl ?_
  refine g_iload_n C (gd DX10_whiles_0 1 rfl) 1 rfl rfl ?_
  refine g_iload_n C (gd DX10_whiles_0 2 rfl) 2 rfl rfl ?_
  refine g_cV0 (v := .null) (ci := 10) C [_, _] mX10_begins lm_TestJudgeModel_304 (by exact hm.1) rfl rfl (e_m_begins hm ht ha hab _) hfl (by decide) (by decide) (by omega) (by omega) rfl rfl (Nat.le_of_ble_eq_true rfl) (gd DX10_whiles_0 3 rfl) ?_
  refine g_aload_n C (gd DX10_whiles_0 4 rfl) 0 rfl rfl ?_
  refine g_iload_n C (gd DX10_whiles_0 5 rfl) 1 rfl rfl ?_
  refine g_iload_n C (gd DX10_whiles_0 6 rfl) 3 rfl rfl ?_
  refine g_cV0 (v := .null) (ci := 10) C [_, _] mX10_stars lm_TestJudgeModel_270 (by exact hm.1) rfl rfl (e_m_stars hm ht (rBegins_0.trans ha) hab _) hfl (by decide) (by decide) (by omega) (by omega) rfl rfl (Nat.le_of_ble_eq_true rfl) (gd DX10_whiles_0 7 rfl) ?_
  refine g_aload_n C (gd DX10_whiles_0 8 rfl) 0 rfl rfl ?_
  refine g_iload_n C (gd DX10_whiles_0 9 rfl) 1 rfl rfl ?_
  refine g_iload_n C (gd DX10_whiles_0 10 rfl) 3 rfl rfl ?_
  refine g_iload_n C (gd DX10_whiles_0 11 rfl) 2 rfl rfl ?_
  refine g_iconst (v := -1) C (gd DX10_whiles_0 12 rfl) (by decide) ?_
  refine g_ixor C (gd DX10_whiles_0 13 rfl) ?_
  refine g_iand C (gd DX10_whiles_0 14 rfl) ?_
  refine g_cV0 (v := .null) (ci := 10) C [_, _] mX10_finishes lm_TestJudgeModel_310 (by exact hm.1) rfl rfl (e_m_finishes hm ht (rStar_0.trans (rBegins_0.trans ha)) hab _) hfl (by decide) (by decide) (by omega) (by omega) rfl rfl (Nat.le_of_ble_eq_true rfl) (gd DX10_whiles_0 15 rfl) ?_
  exact g_vret C (by omega) (by omega) ⟨rfl, rfl⟩ (gd DX10_whiles_0 16 rfl)
theorem e_m_holds (k : Int32) {n0 : Nat} (hn0 : n0 ≤ 8) : EvF w 1 0 0 yX10_holds cX10_holds 4 (some .int) [.int k, .int (nI n0)] h (some (.int (holdF k n0))) h := by
  refine g_start (by decide) (Nat.le_of_ble_eq_true rfl) [(0, _), (1, _)] rfl (fun z hfl C => ?_)
  have key : ∀ n p, p + n = n0 → GW z w 4 (gQ z w 0 0 (fun r' h'' => r' = some (.int (holdF k n0)) ∧ h'' = h)) 0 0 4 [(0, .int k), (1, .int (nI n0)), (2, .int (holdF k p)), (3, .int (nI p))] [] h := by
    intro n
    induction n with
    | zero =>
      intro p hp
      refine g_iload_n C (gd DX10_holds_0 4 rfl) 3 rfl rfl ?_
      refine g_iload_n C (gd DX10_holds_0 5 rfl) 1 rfl rfl ?_
      refine g_icmp_ge C 33 (gd DX10_holds_0 6 rfl) (by decide) (fun c6 => ?_) (fun c6 => ?_)
      · refine g_iload_n C (gd DX10_holds_0 21 rfl) 2 rfl rfl ?_
        exact g_iret C (by omega) (by omega) ⟨by rw [show p = n0 by omega], rfl⟩ (gd DX10_holds_0 22 rfl)
      · exact absurd (nI_le (by omega) (by omega)) c6
    | succ n ih =>
      intro p hp
      refine g_iload_n C (gd DX10_holds_0 4 rfl) 3 rfl rfl ?_
      refine g_iload_n C (gd DX10_holds_0 5 rfl) 1 rfl rfl ?_
      refine g_icmp_ge C 33 (gd DX10_holds_0 6 rfl) (by decide) (fun c6 => ?_) (fun c6 => ?_)
      · exact absurd c6 (nI_ge (by omega) (by omega))
      · refine g_iload_n C (gd DX10_holds_0 7 rfl) 2 rfl rfl ?_
        refine g_iload_n C (gd DX10_holds_0 8 rfl) 3 rfl rfl ?_
        refine g_iload_n C (gd DX10_holds_0 9 rfl) 0 rfl rfl ?_
        refine g_cS1 C [_, _] mX10_has lm_TestJudgeModel_144 (e_m_has _ _) hfl (by decide) (by decide) (by omega) (by omega) rfl rfl (Nat.le_of_ble_eq_true rfl) (gd DX10_holds_0 10 rfl) ?_
        by_cases hb : nI p >>> (k &&& 31) &&& 1 = 1
        · rw [b1_t hb]
          refine g_if_eq C 24 (gd DX10_holds_0 11 rfl) (by decide) (fun c15 => ?_) (fun c15 => ?_)
          · exact absurd c15 (by decide)
          · refine g_iconst (v := 1) C (gd DX10_holds_0 12 rfl) (by decide) ?_
            refine g_iload_n C (gd DX10_holds_0 13 rfl) 3 rfl rfl ?_
            refine g_ishl C (gd DX10_holds_0 14 rfl) ?_
            refine g_goto (tgt := 25) C (gd DX10_holds_0 15 rfl) (by decide) ?_
            refine g_ior C (gd DX10_holds_0 17 rfl) ?_
            refine g_istore_n (lv' := [(0, _), (1, _), (2, _), (3, _)]) C (gd DX10_holds_0 18 rfl) [1, 2, 0, 3] rfl (by decide) rfl ?_
            refine g_iinc (lv' := [(0, _), (1, _), (2, _), (3, _)]) C (gd DX10_holds_0 19 rfl) 3 [1, 2, 3, 0] rfl rfl (by decide) rfl ?_
            refine g_goto (tgt := 4) C (gd DX10_holds_0 20 rfl) (by decide) ?_
            exact GW.cast (by rw [inc1, holdF, if_pos hb]) rfl rfl (ih (p + 1) (by omega))
        · rw [b1_f hb]
          refine g_if_eq C 24 (gd DX10_holds_0 11 rfl) (by decide) (fun c15 => ?_) (fun c15 => ?_)
          · refine g_iconst (v := 0) C (gd DX10_holds_0 16 rfl) (by decide) ?_
            refine g_ior C (gd DX10_holds_0 17 rfl) ?_
            refine g_istore_n (lv' := [(0, _), (1, _), (2, _), (3, _)]) C (gd DX10_holds_0 18 rfl) [1, 2, 0, 3] rfl (by decide) rfl ?_
            refine g_iinc (lv' := [(0, _), (1, _), (2, _), (3, _)]) C (gd DX10_holds_0 19 rfl) 3 [1, 2, 3, 0] rfl rfl (by decide) rfl ?_
            refine g_goto (tgt := 4) C (gd DX10_holds_0 20 rfl) (by decide) ?_
            exact GW.cast (by rw [inc1, holdF, if_neg hb]) rfl rfl (ih (p + 1) (by omega))
          · exact absurd rfl c15
  refine g_iconst (v := 0) C (gd DX10_holds_0 0 rfl) (by decide) ?_
  refine g_istore_n (lv' := [(0, _), (1, _), (2, _)]) C (gd DX10_holds_0 1 rfl) [1, 2, 0] rfl (by decide) rfl ?_
  refine g_iconst (v := 0) C (gd DX10_holds_0 2 rfl) (by decide) ?_
  refine g_istore_n (lv' := [(0, _), (1, _), (2, _), (3, _)]) C (gd DX10_holds_0 3 rfl) [1, 2, 3, 0] rfl (by decide) rfl ?_
  exact key n0 0 (by omega)
end M5
