/-! joins; what a record goes on to -/
def joP (B X Y : Nat → Int32) (a b p q : Nat) : Nat → Int32 := fun k => if k = 1 then X 1 &&& Y 1 else if 34 ≤ k ∧ k < 34 + p then X k &&& Y 1 else if 50 ≤ k ∧ k < 306 ∧ a ≤ (k - 50) % 16 ∧ (k - 50) % 16 < a + b ∧ ((k - 50) / 16 < p ∨ (k - 50) / 16 = p ∧ (k - 50) % 16 < q) then X (34 + (k - 50) / 16) &&& Y (18 + ((k - 50) % 16 - a)) else B k
def joQ (J X Y : Nat → Int32) (a q : Nat) : Nat → Int32 := fun k => if 18 + a ≤ k ∧ k < 18 + q then X 1 &&& Y (18 + (k - 18 - a)) else J k
def rJoin (X Y : Nat → Int32) (a b : Nat) : Nat → Int32 := if a + b ≤ 16 then joQ (joP (rBes X Y a b) X Y a b a a) X Y a (a + b) else rBes X Y a b
theorem joP_0 (B X Y : Nat → Int32) (a b : Nat) : upd B 1 (X 1 &&& Y 1) = joP B X Y a b 0 a := by
  funext k
  simp only [upd, joP]
  (repeat' split) <;> first | rfl | (exfalso; omega) | (congr 1; omega)
theorem joP_s (B X Y : Nat → Int32) {a b p q : Nat} (hp : p < 16) (hq : a ≤ q) (hq2 : q < a + b) (hab : a + b ≤ 16) : upd (joP B X Y a b p q) (50 + 16 * p + q) (X (34 + p) &&& Y (18 + q - a)) = joP B X Y a b p (q + 1) := by
  funext k
  by_cases e1 : k = 50 + 16 * p + q
  · subst e1
    rw [upd, if_pos rfl, joP, if_neg (by omega), if_neg (by omega), if_pos (by omega), show (50 + 16 * p + q - 50) / 16 = p by omega, show (50 + 16 * p + q - 50) % 16 = q by omega, show 18 + q - a = 18 + (q - a) by omega]
  · rw [upd, if_neg e1]
    simp only [joP]
    (repeat' split) <;> first | rfl | (exfalso; omega)
theorem joP_row (B X Y : Nat → Int32) {a b p : Nat} (hp : p < 16) (hab : a + b ≤ 16) : upd (joP B X Y a b p (a + b)) (34 + p) (X (34 + p) &&& Y 1) = joP B X Y a b (p + 1) a := by
  funext k
  by_cases e1 : k = 34 + p
  · subst e1
    rw [upd, if_pos rfl, joP, if_neg (by omega), if_pos (by omega)]
  · rw [upd, if_neg e1]
    simp only [joP]
    (repeat' split) <;> first | rfl | (exfalso; omega)
theorem joQ_0 (J X Y : Nat → Int32) (a : Nat) : joQ J X Y a a = J := by
  funext k
  rw [joQ, if_neg (by omega)]
theorem joQ_s (J X Y : Nat → Int32) {a q : Nat} (hq : a ≤ q) : upd (joQ J X Y a q) (18 + q) (X 1 &&& Y (18 + q - a)) = joQ J X Y a (q + 1) := by
  funext k
  by_cases e1 : k = 18 + q
  · subst e1
    rw [upd, if_pos rfl, joQ, if_pos (by omega), show 18 + (18 + q - 18 - a) = 18 + q - a by omega]
  · rw [upd, if_neg e1]
    simp only [joQ]
    (repeat' split) <;> first | rfl | (exfalso; omega)
/-- bit k of a set -/
def hasB (s k : Int32) : Prop := s >>> (k &&& 31) &&& 1 = 1
/-- places of a record behind some places, an atom and an act -/
def goC (R : Nat → Int32) (a : Nat) (set atom act : Int32) (beg : Prop) (q : Nat) : Prop := R (2 + q) = act ∧ (beg ∧ hasB (R (18 + q)) atom ∨ ∃ p, p < a ∧ hasB set (nI p) ∧ hasB (R (50 + 16 * p + q)) atom)
noncomputable def goF (R : Nat → Int32) (a : Nat) (set atom act : Int32) (beg : Prop) : Nat → Int32
  | 0 => 0
  | q + 1 => goF R a set atom act beg q ||| (@ite _ (goC R a set atom act beg q) (Classical.propDecidable _) (1 <<< (nI q &&& 31)) 0)
def endF (R : Nat → Int32) (set : Int32) (e0 : Int32) : Nat → Int32
  | 0 => e0
  | p + 1 => endF R set e0 p ||| (if set >>> (nI p &&& 31) &&& 1 = 1 then R (34 + p) else 0)
theorem goF_t {R : Nat → Int32} {a : Nat} {set atom act : Int32} {beg : Prop} {q : Nat} (h : goC R a set atom act beg q) : goF R a set atom act beg (q + 1) = goF R a set atom act beg q ||| 1 <<< (nI q &&& 31) := by rw [goF, if_pos h]
theorem goF_f {R : Nat → Int32} {a : Nat} {set atom act : Int32} {beg : Prop} {q : Nat} (h : ¬ goC R a set atom act beg q) : goF R a set atom act beg (q + 1) = goF R a set atom act beg q ||| 0 := by rw [goF, if_neg h]
section M6
variable {w : gD} {m : Nat} {h : HS}
theorem e_atH (hm : mSh m h) {x k : Nat} (hk : k < 307) (hx2 : x < 102) {r a : Int32} (hr : r = nI x) (ha : a = nI k) : EvF w 0 0 0 yX10_at cX10_at 3 (some .int) [.ref m, .int r, .int a] h (some (.int (gRec (hI h (m + 1)) x k))) h := by
  subst hr; subst ha
  exact e_m_at (w := w) (h := h) hm (r_ix x k) (by omega)
theorem e_m_joins (hm : mSh m h) {x y t a b : Nat} (hx : x < 102) (hy : y < 102) (ht : t < 102) (hxt : x ≠ t) (hyt : y ≠ t) (ha : gRec (hI h (m + 1)) x 0 = nI a) (hb : gRec (hI h (m + 1)) y 0 = nI b) (hab : a + b < 10000) :
    EvF w 3 0 0 yX10_joins cX10_joins 7 none [.ref m, .int (nI x), .int (nI y), .int (nI t)] h none (sF h (m + 1) (pRec (hI h (m + 1)) t (rJoin (gRec (hI h (m + 1)) x) (gRec (hI h (m + 1)) y) a b))) := by
  refine g_start (by decide) (Nat.le_of_ble_eq_true rfl) [(0, _), (1, _), (2, _), (3, _)] rfl (fun z hfl C => ?_)
  refine g_aload_n C (gd DX10_joins_0 0 rfl) 0 rfl rfl ?_
  refine g_iload_n C (gd DX10_joins_0 1 rfl) 1 rfl rfl ?_
  refine g_iload_n C (gd DX10_joins_0 2 rfl) 2 rfl rfl ?_
  refine g_iload_n C (gd DX10_joins_0 3 rfl) 3 rfl rfl ?_
  refine g_cV1 (ci := 10) C [_, _, _] mX10_beside lm_TestJudgeModel_141 (by exact hm.1) rfl rfl (e_m_beside hm hx hy ht hxt hyt ha hb hab) hfl (by decide) (by decide) (by omega) (by omega) rfl rfl (Nat.le_of_ble_eq_true rfl) (gd DX10_joins_0 4 rfl) ?_
  generalize hX : gRec (hI h (m + 1)) x = X at *
  generalize hY : gRec (hI h (m + 1)) y = Y at *
  generalize hρ : hI h (m + 1) = ρ at *
  by_cases hle : a + b ≤ 16
  · rw [b1_t hle]
    have hB0 : rBes X Y a b 0 = nI (a + b) := by rw [rBes, if_pos hle, besF, if_pos rfl]
    generalize hB : rBes X Y a b = B at *
    have hP0 : ∀ p q, joP B X Y a b p q 0 = nI (a + b) := fun p q => by rw [joP, if_neg (by omega), if_neg (by omega), if_neg (by omega), hB0]
    have hQ0 : ∀ q, joQ (joP B X Y a b a a) X Y a q 0 = nI (a + b) := fun q => by rw [joQ, if_neg (by omega), hP0]
    have third : ∀ n q, q + n = a + b → a ≤ q → GW z w 7 (gQ z w 0 0 (fun r' h'' => r' = none ∧ h'' = sF h (m + 1) (pRec ρ t (rJoin X Y a b)))) 0 0 142 [(0, .ref m), (1, .int (nI x)), (2, .int (nI y)), (3, .int (nI t)), (4, .int (nI a)), (5, .int (nI q))] [] (sF h (m + 1) (pRec ρ t (joQ (joP B X Y a b a a) X Y a q))) := by
      intro n
      induction n with
      | zero =>
        intro q hq hq2
        refine g_iload C (gd DX10_joins_1 22 rfl) 5 rfl ?_
        refine g_aload_n C (gd DX10_joins_1 23 rfl) 0 rfl rfl ?_
        refine g_iload_n C (gd DX10_joins_1 24 rfl) 3 rfl rfl ?_
        refine g_iconst (v := 0) C (gd DX10_joins_1 25 rfl) (by decide) ?_
        refine g_cV1 (ci := 10) C [_, _] mX10_at lm_TestJudgeModel_131 (by exact hm.1) rfl rfl (e_atT (k := 0) hm (by omega) (by omega) rfl rfl) hfl (by decide) (by decide) (by omega) (by omega) rfl rfl (Nat.le_of_ble_eq_true rfl) (gd DX10_joins_1 26 rfl) ?_
        rw [hQ0]
        refine g_icmp_ge C 189 (gd DX10_joins_1 27 rfl) (by decide) (fun c150 => ?_) (fun c150 => ?_)
        · exact g_vret C (by omega) (by omega) ⟨rfl, by rw [rJoin, if_pos hle, hB, show q = a + b by omega]⟩ (gd DX10_joins_1 49 rfl)
        · exact absurd (nI_le (by omega) (by omega)) c150
      | succ n ih =>
        intro q hq hq2
        refine g_iload C (gd DX10_joins_1 22 rfl) 5 rfl ?_
        refine g_aload_n C (gd DX10_joins_1 23 rfl) 0 rfl rfl ?_
        refine g_iload_n C (gd DX10_joins_1 24 rfl) 3 rfl rfl ?_
        refine g_iconst (v := 0) C (gd DX10_joins_1 25 rfl) (by decide) ?_
        refine g_cV1 (ci := 10) C [_, _] mX10_at lm_TestJudgeModel_131 (by exact hm.1) rfl rfl (e_atT (k := 0) hm (by omega) (by omega) rfl rfl) hfl (by decide) (by decide) (by omega) (by omega) rfl rfl (Nat.le_of_ble_eq_true rfl) (gd DX10_joins_1 26 rfl) ?_
        rw [hQ0]
        refine g_icmp_ge C 189 (gd DX10_joins_1 27 rfl) (by decide) (fun c150 => ?_) (fun c150 => ?_)
        · exact absurd c150 (nI_ge (by omega) (by omega))
        · refine g_aload_n C (gd DX10_joins_1 28 rfl) 0 rfl rfl ?_
          refine g_iload_n C (gd DX10_joins_1 29 rfl) 3 rfl rfl ?_
          refine g_bipush (v := 18) C (gd DX10_joins_1 30 rfl) (by decide) ?_
          refine g_iload C (gd DX10_joins_1 31 rfl) 5 rfl ?_
          refine g_iadd C (gd DX10_joins_1 32 rfl) ?_
          refine g_aload_n C (gd DX10_joins_1 33 rfl) 0 rfl rfl ?_
          refine g_iload_n C (gd DX10_joins_1 34 rfl) 1 rfl rfl ?_
          refine g_iconst (v := 1) C (gd DX10_joins_1 35 rfl) (by decide) ?_
          refine g_cV1 (ci := 10) C [_, _] mX10_at lm_TestJudgeModel_131 (by exact hm.1) rfl rfl (e_atO (k := 1) (x := x) hm (by omega) (by omega) (by omega) rfl rfl) hfl (by decide) (by decide) (by omega) (by omega) rfl rfl (Nat.le_of_ble_eq_true rfl) (gd DX10_joins_1 36 rfl) ?_
          refine g_aload_n C (gd DX10_joins_1 37 rfl) 0 rfl rfl ?_
          refine g_iload_n C (gd DX10_joins_1 38 rfl) 2 rfl rfl ?_
          refine g_bipush (v := 18) C (gd DX10_joins_1 39 rfl) (by decide) ?_
          refine g_iload C (gd DX10_joins_1 40 rfl) 5 rfl ?_
          refine g_iadd C (gd DX10_joins_1 41 rfl) ?_
          refine g_iload C (gd DX10_joins_1 42 rfl) 4 rfl ?_
          refine g_isub C (gd DX10_joins_1 43 rfl) ?_
          refine g_cV1 (ci := 10) C [_, _] mX10_at lm_TestJudgeModel_131 (by exact hm.1) rfl rfl (e_atO (k := ((18 + q) - a)) (x := y) hm (by omega) (by omega) (by omega) rfl (nx_sub (nx_add rfl rfl) rfl (by omega))) hfl (by decide) (by decide) (by omega) (by omega) rfl rfl (Nat.le_of_ble_eq_true rfl) (gd DX10_joins_1 44 rfl) ?_
          refine g_iand C (gd DX10_joins_1 45 rfl) ?_
          refine g_cV0 (v := .null) (ci := 10) C [_, _, _] mX10_puts lm_TestJudgeModel_123 (by exact hm.1) rfl rfl (e_puT (k := (18 + q)) hm (by omega) (by omega) rfl (nx_add rfl rfl)) hfl (by decide) (by decide) (by omega) (by omega) rfl rfl (Nat.le_of_ble_eq_true rfl) (gd DX10_joins_1 46 rfl) ?_
          refine g_iinc (lv' := [(0, _), (1, _), (2, _), (3, _), (4, _), (5, _)]) C (gd DX10_joins_1 47 rfl) 5 [1, 2, 3, 4, 5, 0] rfl rfl (by decide) rfl ?_
          refine g_goto (tgt := 142) C (gd DX10_joins_1 48 rfl) (by decide) ?_
          exact GW.cast (by rw [inc1]) rfl (by rw [hX, hY, joQ_s _ X Y hq2]) (ih (q + 1) (by omega) (by omega))
    have outer : ∀ n p, p + n = a → GW z w 7 (gQ z w 0 0 (fun r' h'' => r' = none ∧ h'' = sF h (m + 1) (pRec ρ t (rJoin X Y a b)))) 0 0 41 [(0, .ref m), (1, .int (nI x)), (2, .int (nI y)), (3, .int (nI t)), (4, .int (nI a)), (5, .int (nI p))] [] (sF h (m + 1) (pRec ρ t (joP B X Y a b p a))) := by
      intro n
      induction n with
      | zero =>
        intro p hp
        refine g_iload C (gd DX10_joins_0 27 rfl) 5 rfl ?_
        refine g_iload C (gd DX10_joins_0 28 rfl) 4 rfl ?_
        refine g_icmp_ge C 138 (gd DX10_joins_0 29 rfl) (by decide) (fun c45 => ?_) (fun c45 => ?_)
        · refine g_iload C (gd DX10_joins_1 20 rfl) 4 rfl ?_
          refine g_istore (lv' := [(0, _), (1, _), (2, _), (3, _), (4, _), (5, _)]) C (gd DX10_joins_1 21 rfl) [1, 2, 3, 4, 5, 0] (by decide) rfl ?_
          exact GW.cast rfl rfl (by rw [joQ_0, show p = a by omega]) (third b a (by omega) (Nat.le_refl _))
        · exact absurd (nI_le (by omega) (by omega)) c45
      | succ n ih =>
        intro p hp
        have inner : ∀ n q, q + n = a + b → a ≤ q → GW z w 7 (gQ z w 0 0 (fun r' h'' => r' = none ∧ h'' = sF h (m + 1) (pRec ρ t (rJoin X Y a b)))) 0 0 52 [(0, .ref m), (1, .int (nI x)), (2, .int (nI y)), (3, .int (nI t)), (4, .int (nI a)), (5, .int (nI p)), (6, .int (nI q))] [] (sF h (m + 1) (pRec ρ t (joP B X Y a b p q))) := by
          intro n
          induction n with
          | zero =>
            intro q hq hq2
            refine g_iload C (gd DX10_joins_0 32 rfl) 6 rfl ?_
            refine g_aload_n C (gd DX10_joins_0 33 rfl) 0 rfl rfl ?_
            refine g_iload_n C (gd DX10_joins_0 34 rfl) 3 rfl rfl ?_
            refine g_iconst (v := 0) C (gd DX10_joins_0 35 rfl) (by decide) ?_
            refine g_cV1 (ci := 10) C [_, _] mX10_at lm_TestJudgeModel_131 (by exact hm.1) rfl rfl (e_atT (k := 0) hm (by omega) (by omega) rfl rfl) hfl (by decide) (by decide) (by omega) (by omega) rfl rfl (Nat.le_of_ble_eq_true rfl) (gd DX10_joins_0 36 rfl) ?_
            rw [hP0]
            refine g_icmp_ge C 105 (gd DX10_joins_0 37 rfl) (by decide) (fun c60 => ?_) (fun c60 => ?_)
            · refine g_aload_n C (gd DX10_joins_1 1 rfl) 0 rfl rfl ?_
              refine g_iload_n C (gd DX10_joins_1 2 rfl) 3 rfl rfl ?_
              refine g_bipush (v := 34) C (gd DX10_joins_1 3 rfl) (by decide) ?_
              refine g_iload C (gd DX10_joins_1 4 rfl) 5 rfl ?_
              refine g_iadd C (gd DX10_joins_1 5 rfl) ?_
              refine g_aload_n C (gd DX10_joins_1 6 rfl) 0 rfl rfl ?_
              refine g_iload_n C (gd DX10_joins_1 7 rfl) 1 rfl rfl ?_
              refine g_bipush (v := 34) C (gd DX10_joins_1 8 rfl) (by decide) ?_
              refine g_iload C (gd DX10_joins_1 9 rfl) 5 rfl ?_
              refine g_iadd C (gd DX10_joins_1 10 rfl) ?_
              refine g_cV1 (ci := 10) C [_, _] mX10_at lm_TestJudgeModel_131 (by exact hm.1) rfl rfl (e_atO (k := (34 + p)) (x := x) hm (by omega) (by omega) (by omega) rfl (nx_add rfl rfl)) hfl (by decide) (by decide) (by omega) (by omega) rfl rfl (Nat.le_of_ble_eq_true rfl) (gd DX10_joins_1 11 rfl) ?_
              refine g_aload_n C (gd DX10_joins_1 12 rfl) 0 rfl rfl ?_
              refine g_iload_n C (gd DX10_joins_1 13 rfl) 2 rfl rfl ?_
              refine g_iconst (v := 1) C (gd DX10_joins_1 14 rfl) (by decide) ?_
              refine g_cV1 (ci := 10) C [_, _] mX10_at lm_TestJudgeModel_131 (by exact hm.1) rfl rfl (e_atO (k := 1) (x := y) hm (by omega) (by omega) (by omega) rfl rfl) hfl (by decide) (by decide) (by omega) (by omega) rfl rfl (Nat.le_of_ble_eq_true rfl) (gd DX10_joins_1 15 rfl) ?_
              refine g_iand C (gd DX10_joins_1 16 rfl) ?_
              refine g_cV0 (v := .null) (ci := 10) C [_, _, _] mX10_puts lm_TestJudgeModel_123 (by exact hm.1) rfl rfl (e_puT (k := (34 + p)) hm (by omega) (by omega) rfl (nx_add rfl rfl)) hfl (by decide) (by decide) (by omega) (by omega) rfl rfl (Nat.le_of_ble_eq_true rfl) (gd DX10_joins_1 17 rfl) ?_
              refine g_iinc (lv' := [(0, _), (1, _), (2, _), (3, _), (4, _), (5, _), (6, _)]) C (gd DX10_joins_1 18 rfl) 5 [1, 2, 3, 4, 5, 0, 6] rfl rfl (by decide) rfl ?_
              refine g_goto (tgt := 41) C (gd DX10_joins_1 19 rfl) (by decide) ?_
              refine GW.sub [0, 1, 2, 3, 4, 5] rfl (Nat.le_refl _) (Nat.le_refl _) (lv' := [(0, _), (1, _), (2, _), (3, _), (4, _), (5, _)]) ?_
              exact GW.cast (by rw [inc1]) rfl (by rw [hX, hY, show q = a + b by omega, joP_row B X Y (by omega) hle]) (ih (p + 1) (by omega))
            · exact absurd (nI_le (by omega) (by omega)) c60
          | succ n ih2 =>
            intro q hq hq2
            refine g_iload C (gd DX10_joins_0 32 rfl) 6 rfl ?_
            refine g_aload_n C (gd DX10_joins_0 33 rfl) 0 rfl rfl ?_
            refine g_iload_n C (gd DX10_joins_0 34 rfl) 3 rfl rfl ?_
            refine g_iconst (v := 0) C (gd DX10_joins_0 35 rfl) (by decide) ?_
            refine g_cV1 (ci := 10) C [_, _] mX10_at lm_TestJudgeModel_131 (by exact hm.1) rfl rfl (e_atT (k := 0) hm (by omega) (by omega) rfl rfl) hfl (by decide) (by decide) (by omega) (by omega) rfl rfl (Nat.le_of_ble_eq_true rfl) (gd DX10_joins_0 36 rfl) ?_
            rw [hP0]
            refine g_icmp_ge C 105 (gd DX10_joins_0 37 rfl) (by decide) (fun c60 => ?_) (fun c60 => ?_)
            · exact absurd c60 (nI_ge (by omega) (by omega))
            · refine g_aload_n C (gd DX10_joins_0 38 rfl) 0 rfl rfl ?_
              refine g_iload_n C (gd DX10_joins_0 39 rfl) 3 rfl rfl ?_
              refine g_iload C (gd DX10_joins_0 40 rfl) 5 rfl ?_
              refine g_iload C (gd DX10_joins_0 41 rfl) 6 rfl ?_
              refine g_cS1 C [_, _] mX10_between lm_TestJudgeModel_138 (e_m_between _ _) hfl (by decide) (by decide) (by omega) (by omega) rfl rfl (Nat.le_of_ble_eq_true rfl) (gd DX10_joins_0 42 rfl) ?_
              refine g_aload_n C (gd DX10_joins_0 43 rfl) 0 rfl rfl ?_
              refine g_iload_n C (gd DX10_joins_0 44 rfl) 1 rfl rfl ?_
              refine g_bipush (v := 34) C (gd DX10_joins_0 45 rfl) (by decide) ?_
              refine g_iload C (gd DX10_joins_0 46 rfl) 5 rfl ?_
              refine g_iadd C (gd DX10_joins_0 47 rfl) ?_
              refine g_cV1 (ci := 10) C [_, _] mX10_at lm_TestJudgeModel_131 (by exact hm.1) rfl rfl (e_atO (k := (34 + p)) (x := x) hm (by omega) (by omega) (by omega) rfl (nx_add rfl rfl)) hfl (by decide) (by decide) (by omega) (by omega) rfl rfl (Nat.le_of_ble_eq_true rfl) (gd DX10_joins_0 48 rfl) ?_
              refine g_aload_n C (gd DX10_joins_0 49 rfl) 0 rfl rfl ?_
              refine g_iload_n C (gd DX10_joins_0 50 rfl) 2 rfl rfl ?_
              refine g_bipush (v := 18) C (gd DX10_joins_0 51 rfl) (by decide) ?_
              refine g_iload C (gd DX10_joins_0 52 rfl) 6 rfl ?_
              refine g_iadd C (gd DX10_joins_0 53 rfl) ?_
              refine g_iload C (gd DX10_joins_0 54 rfl) 4 rfl ?_
              refine g_isub C (gd DX10_joins_0 55 rfl) ?_
              refine g_cV1 (ci := 10) C [_, _] mX10_at lm_TestJudgeModel_131 (by exact hm.1) rfl rfl (e_atO (k := ((18 + q) - a)) (x := y) hm (by omega) (by omega) (by omega) rfl (nx_sub (nx_add rfl rfl) rfl (by omega))) hfl (by decide) (by decide) (by omega) (by omega) rfl rfl (Nat.le_of_ble_eq_true rfl) (gd DX10_joins_0 56 rfl) ?_
              refine g_iand C (gd DX10_joins_0 57 rfl) ?_
              refine g_cV0 (v := .null) (ci := 10) C [_, _, _] mX10_puts lm_TestJudgeModel_123 (by exact hm.1) rfl rfl (e_puT (k := (50 + 16 * p + q)) hm (by omega) (by omega) rfl (nx_bt rfl rfl)) hfl (by decide) (by decide) (by omega) (by omega) rfl rfl (Nat.le_of_ble_eq_true rfl) (gd DX10_joins_0 58 rfl) ?_
              refine g_iinc (lv' := [(0, _), (1, _), (2, _), (3, _), (4, _), (5, _), (6, _)]) C (gd DX10_joins_0 59 rfl) 6 [1, 2, 3, 4, 5, 6, 0] rfl rfl (by decide) rfl ?_
              refine g_goto (tgt := 52) C (gd DX10_joins_1 0 rfl) (by decide) ?_
              exact GW.cast (by rw [inc1]) rfl (by rw [hX, hY, joP_s B X Y (by omega) hq2 (by omega) hle]) (ih2 (q + 1) (by omega) (by omega))
        refine g_iload C (gd DX10_joins_0 27 rfl) 5 rfl ?_
        refine g_iload C (gd DX10_joins_0 28 rfl) 4 rfl ?_
        refine g_icmp_ge C 138 (gd DX10_joins_0 29 rfl) (by decide) (fun c45 => ?_) (fun c45 => ?_)
        · exact absurd c45 (nI_ge (by omega) (by omega))
        · refine g_iload C (gd DX10_joins_0 30 rfl) 4 rfl ?_
          refine g_istore (lv' := [(0, _), (1, _), (2, _), (3, _), (4, _), (5, _), (6, _)]) C (gd DX10_joins_0 31 rfl) [1, 2, 3, 4, 5, 6, 0] (by decide) rfl ?_
          exact inner b a (by omega) (Nat.le_refl _)
    refine g_if_ne C 11 (gd DX10_joins_0 5 rfl) (by decide) (fun c7 => ?_) (fun c7 => ?_)
    · refine g_aload_n C (gd DX10_joins_0 7 rfl) 0 rfl rfl ?_
      refine g_iload_n C (gd DX10_joins_0 8 rfl) 1 rfl rfl ?_
      refine g_iconst (v := 0) C (gd DX10_joins_0 9 rfl) (by decide) ?_
      refine g_cV1 (ci := 10) C [_, _] mX10_at lm_TestJudgeModel_131 (by exact hm.1) rfl rfl (e_atO (k := 0) (x := x) hm (by omega) (by omega) (by omega) rfl rfl) hfl (by decide) (by decide) (by omega) (by omega) rfl rfl (Nat.le_of_ble_eq_true rfl) (gd DX10_joins_0 10 rfl) ?_
      rw [hX, ha]
      refine g_istore (lv' := [(0, _), (1, _), (2, _), (3, _), (4, _)]) C (gd DX10_joins_0 11 rfl) [1, 2, 3, 4, 0] (by decide) rfl ?_
      refine g_aload_n C (gd DX10_joins_0 12 rfl) 0 rfl rfl ?_
      refine g_iload_n C (gd DX10_joins_0 13 rfl) 3 rfl rfl ?_
      refine g_iconst (v := 1) C (gd DX10_joins_0 14 rfl) (by decide) ?_
      refine g_aload_n C (gd DX10_joins_0 15 rfl) 0 rfl rfl ?_
      refine g_iload_n C (gd DX10_joins_0 16 rfl) 1 rfl rfl ?_
      refine g_iconst (v := 1) C (gd DX10_joins_0 17 rfl) (by decide) ?_
      refine g_cV1 (ci := 10) C [_, _] mX10_at lm_TestJudgeModel_131 (by exact hm.1) rfl rfl (e_atO (k := 1) (x := x) hm (by omega) (by omega) (by omega) rfl rfl) hfl (by decide) (by decide) (by omega) (by omega) rfl rfl (Nat.le_of_ble_eq_true rfl) (gd DX10_joins_0 18 rfl) ?_
      refine g_aload_n C (gd DX10_joins_0 19 rfl) 0 rfl rfl ?_
      refine g_iload_n C (gd DX10_joins_0 20 rfl) 2 rfl rfl ?_
      refine g_iconst (v := 1) C (gd DX10_joins_0 21 rfl) (by decide) ?_
      refine g_cV1 (ci := 10) C [_, _] mX10_at lm_TestJudgeModel_131 (by exact hm.1) rfl rfl (e_atO (k := 1) (x := y) hm (by omega) (by omega) (by omega) rfl rfl) hfl (by decide) (by decide) (by omega) (by omega) rfl rfl (Nat.le_of_ble_eq_true rfl) (gd DX10_joins_0 22 rfl) ?_
      refine g_iand C (gd DX10_joins_0 23 rfl) ?_
      refine g_cV0 (v := .null) (ci := 10) C [_, _, _] mX10_puts lm_TestJudgeModel_123 (by exact hm.1) rfl rfl (e_puT (k := 1) hm (by omega) (by omega) rfl rfl) hfl (by decide) (by decide) (by omega) (by omega) rfl rfl (Nat.le_of_ble_eq_true rfl) (gd DX10_joins_0 24 rfl) ?_
      refine g_iconst (v := 0) C (gd DX10_joins_0 25 rfl) (by decide) ?_
      refine g_istore (lv' := [(0, _), (1, _), (2, _), (3, _), (4, _), (5, _)]) C (gd DX10_joins_0 26 rfl) [1, 2, 3, 4, 5, 0] (by decide) rfl ?_
      exact GW.cast rfl rfl (by rw [hX, hY, joP_0]) (outer a 0 (by omega))
    · exact absurd c7 (by decide)
  · rw [b1_f hle]
    refine g_if_ne C 11 (gd DX10_joins_0 5 rfl) (by decide) (fun c7 => ?_) (fun c7 => ?_)
    · exact absurd rfl c7
    · exact g_vret C (by omega) (by omega) ⟨rfl, by rw [rJoin, if_neg hle]⟩ (gd DX10_joins_0 6 rfl)
theorem e_m_endsOf (hm : mSh m h) {r a : Nat} (hr : r < 102) (ha : gRec (hI h (m + 1)) r 0 = nI a) (ha2 : a ≤ 16) (set : Int32) {bg : Int32} (hbg : bg = 0 ∨ bg = 1) :
    EvF w 1 0 0 yX10_endsOf cX10_endsOf 6 (some .int) [.ref m, .int (nI r), .int set, .int bg] h (some (.int (endF (gRec (hI h (m + 1)) r) set (if bg = 0 then 0 else gRec (hI h (m + 1)) r 1) a))) h := by
  refine g_start (by decide) (Nat.le_of_ble_eq_true rfl) [(0, _), (1, _), (2, _), (3, _)] rfl (fun z hfl C => ?_)
  generalize hX : gRec (hI h (m + 1)) r = X at *
  have key : ∀ n p, p + n = a → GW z w 6 (gQ z w 0 0 (fun r' h'' => r' = some (.int (endF X set (if bg = 0 then 0 else X 1) a)) ∧ h'' = h)) 0 0 19 [(0, .ref m), (1, .int (nI r)), (2, .int set), (3, .int bg), (4, .int (endF X set (if bg = 0 then 0 else X 1) p)), (5, .int (nI p))] [] h := by
    intro n
    induction n with
    | zero =>
      intro p hp
      refine g_iload C (gd DX10_endsOf_0 11 rfl) 5 rfl ?_
      refine g_aload_n C (gd DX10_endsOf_0 12 rfl) 0 rfl rfl ?_
      refine g_iload_n C (gd DX10_endsOf_0 13 rfl) 1 rfl rfl ?_
      refine g_iconst (v := 0) C (gd DX10_endsOf_0 14 rfl) (by decide) ?_
      refine g_cV1 (ci := 10) C [_, _] mX10_at lm_TestJudgeModel_131 (by exact hm.1) rfl rfl (e_atH (k := 0) (x := r) hm (by omega) (by omega) rfl rfl) hfl (by decide) (by decide) (by omega) (by omega) rfl rfl (Nat.le_of_ble_eq_true rfl) (gd DX10_endsOf_0 15 rfl) ?_
      rw [hX, ha]
      refine g_icmp_ge C 64 (gd DX10_endsOf_0 16 rfl) (by decide) (fun c27 => ?_) (fun c27 => ?_)
      · refine g_iload C (gd DX10_endsOf_0 34 rfl) 4 rfl ?_
        exact g_iret C (by omega) (by omega) ⟨by rw [show p = a by omega], rfl⟩ (gd DX10_endsOf_0 35 rfl)
      · exact absurd (nI_le (by omega) (by omega)) c27
    | succ n ih =>
      intro p hp
      refine g_iload C (gd DX10_endsOf_0 11 rfl) 5 rfl ?_
      refine g_aload_n C (gd DX10_endsOf_0 12 rfl) 0 rfl rfl ?_
      refine g_iload_n C (gd DX10_endsOf_0 13 rfl) 1 rfl rfl ?_
      refine g_iconst (v := 0) C (gd DX10_endsOf_0 14 rfl) (by decide) ?_
      refine g_cV1 (ci := 10) C [_, _] mX10_at lm_TestJudgeModel_131 (by exact hm.1) rfl rfl (e_atH (k := 0) (x := r) hm (by omega) (by omega) rfl rfl) hfl (by decide) (by decide) (by omega) (by omega) rfl rfl (Nat.le_of_ble_eq_true rfl) (gd DX10_endsOf_0 15 rfl) ?_
      rw [hX, ha]
      refine g_icmp_ge C 64 (gd DX10_endsOf_0 16 rfl) (by decide) (fun c27 => ?_) (fun c27 => ?_)
      · exact absurd c27 (nI_ge (by omega) (by omega))
      · refine g_iload C (gd DX10_endsOf_0 17 rfl) 4 rfl ?_
        refine g_iload_n C (gd DX10_endsOf_0 18 rfl) 2 rfl rfl ?_
        refine g_iload C (gd DX10_endsOf_0 19 rfl) 5 rfl ?_
        refine g_cS1 C [_, _] mX10_has lm_TestJudgeModel_144 (e_m_has _ _) hfl (by decide) (by decide) (by omega) (by omega) rfl rfl (Nat.le_of_ble_eq_true rfl) (gd DX10_endsOf_0 20 rfl) ?_
        by_cases hb : set >>> (nI p &&& 31) &&& 1 = 1
        · rw [b1_t hb]
          refine g_if_eq C 54 (gd DX10_endsOf_0 21 rfl) (by decide) (fun c38 => ?_) (fun c38 => ?_)
          · exact absurd c38 (by decide)
          · refine g_aload_n C (gd DX10_endsOf_0 22 rfl) 0 rfl rfl ?_
            refine g_iload_n C (gd DX10_endsOf_0 23 rfl) 1 rfl rfl ?_
            refine g_bipush (v := 34) C (gd DX10_endsOf_0 24 rfl) (by decide) ?_
            refine g_iload C (gd DX10_endsOf_0 25 rfl) 5 rfl ?_
            refine g_iadd C (gd DX10_endsOf_0 26 rfl) ?_
            refine g_cV1 (ci := 10) C [_, _] mX10_at lm_TestJudgeModel_131 (by exact hm.1) rfl rfl (e_atH (k := (34 + p)) (x := r) hm (by omega) (by omega) rfl (nx_add rfl rfl)) hfl (by decide) (by decide) (by omega) (by omega) rfl rfl (Nat.le_of_ble_eq_true rfl) (gd DX10_endsOf_0 27 rfl) ?_
            refine g_goto (tgt := 55) C (gd DX10_endsOf_0 28 rfl) (by decide) ?_
            refine g_ior C (gd DX10_endsOf_0 30 rfl) ?_
            refine g_istore (lv' := [(0, _), (1, _), (2, _), (3, _), (4, _), (5, _)]) C (gd DX10_endsOf_0 31 rfl) [1, 2, 3, 4, 0, 5] (by decide) rfl ?_
            refine g_iinc (lv' := [(0, _), (1, _), (2, _), (3, _), (4, _), (5, _)]) C (gd DX10_endsOf_0 32 rfl) 5 [1, 2, 3, 4, 5, 0] rfl rfl (by decide) rfl ?_
            refine g_goto (tgt := 19) C (gd DX10_endsOf_0 33 rfl) (by decide) ?_
            exact GW.cast (by rw [inc1, endF, if_pos hb, hX]) rfl rfl (ih (p + 1) (by omega))
        · rw [b1_f hb]
          refine g_if_eq C 54 (gd DX10_endsOf_0 21 rfl) (by decide) (fun c38 => ?_) (fun c38 => ?_)
          · refine g_iconst (v := 0) C (gd DX10_endsOf_0 29 rfl) (by decide) ?_
            refine g_ior C (gd DX10_endsOf_0 30 rfl) ?_
            refine g_istore (lv' := [(0, _), (1, _), (2, _), (3, _), (4, _), (5, _)]) C (gd DX10_endsOf_0 31 rfl) [1, 2, 3, 4, 0, 5] (by decide) rfl ?_
            refine g_iinc (lv' := [(0, _), (1, _), (2, _), (3, _), (4, _), (5, _)]) C (gd DX10_endsOf_0 32 rfl) 5 [1, 2, 3, 4, 5, 0] rfl rfl (by decide) rfl ?_
            refine g_goto (tgt := 19) C (gd DX10_endsOf_0 33 rfl) (by decide) ?_
            exact GW.cast (by rw [inc1, endF, if_neg hb]) rfl rfl (ih (p + 1) (by omega))
          · exact absurd rfl c38
  refine g_iload_n C (gd DX10_endsOf_0 0 rfl) 3 rfl rfl ?_
  refine g_if_eq C 13 (gd DX10_endsOf_0 1 rfl) (by decide) (fun c1 => ?_) (fun c1 => ?_)
  · refine g_iconst (v := 0) C (gd DX10_endsOf_0 7 rfl) (by decide) ?_
    refine g_istore (lv' := [(0, _), (1, _), (2, _), (3, _), (4, _)]) C (gd DX10_endsOf_0 8 rfl) [1, 2, 3, 4, 0] (by decide) rfl ?_
    refine g_iconst (v := 0) C (gd DX10_endsOf_0 9 rfl) (by decide) ?_
    refine g_istore (lv' := [(0, _), (1, _), (2, _), (3, _), (4, _), (5, _)]) C (gd DX10_endsOf_0 10 rfl) [1, 2, 3, 4, 5, 0] (by decide) rfl ?_
    exact GW.cast (by rw [endF, if_pos c1]; rfl) rfl rfl (key a 0 (by omega))
  · refine g_aload_n C (gd DX10_endsOf_0 2 rfl) 0 rfl rfl ?_
    refine g_iload_n C (gd DX10_endsOf_0 3 rfl) 1 rfl rfl ?_
    refine g_iconst (v := 1) C (gd DX10_endsOf_0 4 rfl) (by decide) ?_
    refine g_cV1 (ci := 10) C [_, _] mX10_at lm_TestJudgeModel_131 (by exact hm.1) rfl rfl (e_atH (k := 1) (x := r) hm (by omega) (by omega) rfl rfl) hfl (by decide) (by decide) (by omega) (by omega) rfl rfl (Nat.le_of_ble_eq_true rfl) (gd DX10_endsOf_0 5 rfl) ?_
    refine g_goto (tgt := 14) C (gd DX10_endsOf_0 6 rfl) (by decide) ?_
    rw [hX]
    refine g_istore (lv' := [(0, _), (1, _), (2, _), (3, _), (4, _)]) C (gd DX10_endsOf_0 8 rfl) [1, 2, 3, 4, 0] (by decide) rfl ?_
    refine g_iconst (v := 0) C (gd DX10_endsOf_0 9 rfl) (by decide) ?_
    refine g_istore (lv' := [(0, _), (1, _), (2, _), (3, _), (4, _), (5, _)]) C (gd DX10_endsOf_0 10 rfl) [1, 2, 3, 4, 5, 0] (by decide) rfl ?_
    exact GW.cast (by rw [endF, if_neg c1]; rfl) rfl rfl (key a 0 (by omega))
end M6
