/-! The reference's records put together -/
theorem nx_add {x y : Int32} {a b : Nat} (hx : x = nI a) (hy : y = nI b) : x + y = nI (a + b) := by rw [hx, hy, nI_add]
theorem nx_mul {x y : Int32} {a b : Nat} (hx : x = nI a) (hy : y = nI b) : x * y = nI (a * b) := by rw [hx, hy, pk_mul]
theorem nx_sub {x y : Int32} {a b : Nat} (hx : x = nI a) (hy : y = nI b) (h : b ≤ a) : x - y = nI (a - b) := by rw [hx, hy, pk_sub h]
theorem nx_inc {x : Int32} {a : Nat} (hx : x = nI a) : x + Int32.ofInt 1 = nI (a + 1) := by rw [hx, inc1]
theorem nx_div {x y : Int32} {a b : Nat} (hx : x = nI a) (hy : y = nI b) (ha : a < 2 ^ 31) (h0 : 0 < b) (hb : b < 2 ^ 31) : x / y = nI (a / b) := by rw [hx, hy, pk_div ha h0 hb]
theorem nx_rem {x y : Int32} {a b : Nat} (hx : x = nI a) (hy : y = nI b) (ha : a < 2 ^ 31) (h0 : 0 < b) (hb : b < 2 ^ 31) : x - x / y * y = nI (a % b) := by rw [hx, hy, pk_rem ha h0 hb]
theorem nx_bt {x y : Int32} {a b : Nat} (hx : x = nI a) (hy : y = nI b) : 50 + 16 * x + y = nI (50 + 16 * a + b) := nx_add (nx_add (a := 50) rfl (nx_mul (a := 16) rfl hx)) hy
/-- comparisons of naturals -/
theorem ge_t {a b : Nat} (h : nI b ≤ nI a) (ha : a < 2 ^ 31) (hb : b < 2 ^ 31) : b ≤ a := (nI_leI hb ha).mp h
theorem ge_f {a b : Nat} (h : ¬ nI b ≤ nI a) (ha : a < 2 ^ 31) (hb : b < 2 ^ 31) : a < b := by
  rcases Nat.lt_or_ge a b with q | q
  · exact q
  · exact absurd (nI_le q ha) h
section M3
variable {w : gD} {m : Nat} {h : HS}
theorem e_m_between (p q : Int32) : EvF w 0 0 0 yX10_between cX10_between 2 (some .int) [.int p, .int q] h (some (.int (50 + 16 * p + q))) h := by
  refine g_start (by decide) (Nat.le_of_ble_eq_true rfl) [(0, _), (1, _)] rfl (fun z hfl C => ?_)
  refine g_bipush (v := 50) C (gd DX10_between_0 0 rfl) (by decide) ?_
  refine g_bipush (v := 16) C (gd DX10_between_0 1 rfl) (by decide) ?_
  refine g_iload_n C (gd DX10_between_0 2 rfl) 0 rfl rfl ?_
  refine g_imul C (gd DX10_between_0 3 rfl) ?_
  refine g_iadd C (gd DX10_between_0 4 rfl) ?_
  refine g_iload_n C (gd DX10_between_0 5 rfl) 1 rfl rfl ?_
  refine g_iadd C (gd DX10_between_0 6 rfl) ?_
  exact g_iret C (by omega) (by omega) ⟨rfl, rfl⟩ (gd DX10_between_0 7 rfl)
theorem e_atO (hm : mSh m h) {ρ R : Nat → Int32} {t x k : Nat} (hx : x ≠ t) (hk : k < 307) (hx2 : x < 102) {r a : Int32} (hr : r = nI x) (ha : a = nI k) : EvF w 0 0 0 yX10_at cX10_at 3 (some .int) [.ref m, .int r, .int a] (sF h (m + 1) (pRec ρ t R)) (some (.int (gRec ρ x k))) (sF h (m + 1) (pRec ρ t R)) := by
  subst hr; subst ha
  have e := e_m_at (w := w) (h := sF h (m + 1) (pRec ρ t R)) hm (r_ix x k) (by omega)
  rw [hI_sF_eq, show pRec ρ t R (307 * x + k) = gRec ρ x k from gRec_pRec_ne hk hx] at e
  exact e
theorem e_atT (hm : mSh m h) {ρ R : Nat → Int32} {t k : Nat} (hk : k < 307) (hx2 : t < 102) {r a : Int32} (hr : r = nI t) (ha : a = nI k) : EvF w 0 0 0 yX10_at cX10_at 3 (some .int) [.ref m, .int r, .int a] (sF h (m + 1) (pRec ρ t R)) (some (.int (R k))) (sF h (m + 1) (pRec ρ t R)) := by
  subst hr; subst ha
  have e := e_m_at (w := w) (h := sF h (m + 1) (pRec ρ t R)) hm (r_ix t k) (by omega)
  rw [hI_sF_eq, show pRec ρ t R (307 * t + k) = R k from gRec_pRec hk] at e
  exact e
theorem e_puT (hm : mSh m h) {ρ R : Nat → Int32} {t k : Nat} (hk : k < 307) (hx2 : t < 102) {r a v : Int32} (hr : r = nI t) (ha : a = nI k) : EvF w 0 0 0 yX10_puts cX10_puts 4 none [.ref m, .int r, .int a, .int v] (sF h (m + 1) (pRec ρ t R)) none (sF h (m + 1) (pRec ρ t (upd R k v))) := by
  subst hr; subst ha
  have e := e_m_puts (w := w) (h := sF h (m + 1) (pRec ρ t R)) (v := v) hm (r_ix t k) (by omega)
  rw [sI_sF, hI_sF_eq, sF_sF, upd_pRec hk] at e
  exact e
/-- the heap as it is, with its record t on view -/
theorem sF_view (h : HS) (a t : Nat) : sF h a (pRec (hI h a) t (gRec (hI h a) t)) = h := by rw [pRec_self, sF_self]
theorem e_m_isKnown (hm : mSh m h) {ρ R : Nat → Int32} {t : Nat} (ht : t < 102) : EvF w 1 0 0 yX10_isKnown cX10_isKnown 2 (some .boolean) [.ref m, .int (nI t)] (sF h (m + 1) (pRec ρ t R)) (some (.int (b1 (R 0 ≤ 16)))) (sF h (m + 1) (pRec ρ t R)) := by
  refine g_start (by decide) (Nat.le_of_ble_eq_true rfl) [(0, _), (1, _)] rfl (fun z hfl C => ?_)
  refine g_aload_n C (gd DX10_isKnown_0 0 rfl) 0 rfl rfl ?_
  refine g_iload_n C (gd DX10_isKnown_0 1 rfl) 1 rfl rfl ?_
  refine g_iconst (v := 0) C (gd DX10_isKnown_0 2 rfl) (by decide) ?_
  refine g_cV1 (ci := 10) C [_, _] mX10_at lm_TestJudgeModel_131 (by exact hm.1) rfl rfl (e_atT (k := 0) hm (by omega) (by omega) rfl rfl) hfl (by decide) (by decide) (by omega) (by omega) rfl rfl (Nat.le_of_ble_eq_true rfl) (gd DX10_isKnown_0 3 rfl) ?_
  refine g_bipush (v := 16) C (gd DX10_isKnown_0 4 rfl) (by decide) ?_
  refine g_icmp_gt C 15 (gd DX10_isKnown_0 5 rfl) (by decide) (fun c8 => ?_) (fun c8 => ?_)
  · refine g_iconst (v := 0) C (gd DX10_isKnown_0 8 rfl) (by decide) ?_
    exact g_zret C (by decide) (by omega) (by omega) ⟨by rw [b1_f (Int32.not_le.mpr c8)], rfl⟩ (gd DX10_isKnown_0 9 rfl)
  · refine g_iconst (v := 1) C (gd DX10_isKnown_0 6 rfl) (by decide) ?_
    refine g_goto (tgt := 16) C (gd DX10_isKnown_0 7 rfl) (by decide) ?_
    exact g_zret C (by decide) (by omega) (by omega) ⟨by rw [b1_t (Int32.not_lt.mp c8)], rfl⟩ (gd DX10_isKnown_0 9 rfl)
/-- a record of an act -/
def rAct (act all : Int32) : Nat → Int32 := upd (upd (upd (upd (rPlain 0) 0 1) 2 act) 18 all) 34 all
theorem e_m_ofAct (hm : mSh m h) {t : Nat} (ht : t < 102) (act all : Int32) : EvF w 2 0 0 yX10_ofAct cX10_ofAct 4 none [.ref m, .int (nI t), .int act, .int all] h none (sF h (m + 1) (pRec (hI h (m + 1)) t (rAct act all))) := by
  refine g_start (by decide) (Nat.le_of_ble_eq_true rfl) [(0, _), (1, _), (2, _), (3, _)] rfl (fun z hfl C => ?_)
  refine g_aload_n C (gd DX10_ofAct_0 0 rfl) 0 rfl rfl ?_
  refine g_iload_n C (gd DX10_ofAct_0 1 rfl) 1 rfl rfl ?_
  refine g_iconst (v := 0) C (gd DX10_ofAct_0 2 rfl) (by decide) ?_
  refine g_cV0 (v := .null) (ci := 10) C [_, _] mX10_plain lm_TestJudgeModel_127 (by exact hm.1) rfl rfl (e_m_plain hm ht _) hfl (by decide) (by decide) (by omega) (by omega) rfl rfl (Nat.le_of_ble_eq_true rfl) (gd DX10_ofAct_0 3 rfl) ?_
  refine g_aload_n C (gd DX10_ofAct_0 4 rfl) 0 rfl rfl ?_
  refine g_iload_n C (gd DX10_ofAct_0 5 rfl) 1 rfl rfl ?_
  refine g_iconst (v := 0) C (gd DX10_ofAct_0 6 rfl) (by decide) ?_
  refine g_iconst (v := 1) C (gd DX10_ofAct_0 7 rfl) (by decide) ?_
  refine g_cV0 (v := .null) (ci := 10) C [_, _, _] mX10_puts lm_TestJudgeModel_123 (by exact hm.1) rfl rfl (e_puT (k := 0) hm (by omega) (by omega) rfl rfl) hfl (by decide) (by decide) (by omega) (by omega) rfl rfl (Nat.le_of_ble_eq_true rfl) (gd DX10_ofAct_0 8 rfl) ?_
  refine g_aload_n C (gd DX10_ofAct_0 9 rfl) 0 rfl rfl ?_
  refine g_iload_n C (gd DX10_ofAct_0 10 rfl) 1 rfl rfl ?_
  refine g_iconst (v := 2) C (gd DX10_ofAct_0 11 rfl) (by decide) ?_
  refine g_iload_n C (gd DX10_ofAct_0 12 rfl) 2 rfl rfl ?_
  refine g_cV0 (v := .null) (ci := 10) C [_, _, _] mX10_puts lm_TestJudgeModel_123 (by exact hm.1) rfl rfl (e_puT (k := 2) hm (by omega) (by omega) rfl rfl) hfl (by decide) (by decide) (by omega) (by omega) rfl rfl (Nat.le_of_ble_eq_true rfl) (gd DX10_ofAct_0 13 rfl) ?_
  refine g_aload_n C (gd DX10_ofAct_0 14 rfl) 0 rfl rfl ?_
  refine g_iload_n C (gd DX10_ofAct_0 15 rfl) 1 rfl rfl ?_
  refine g_bipush (v := 18) C (gd DX10_ofAct_0 16 rfl) (by decide) ?_
  refine g_iload_n C (gd DX10_ofAct_0 17 rfl) 3 rfl rfl ?_
  refine g_cV0 (v := .null) (ci := 10) C [_, _, _] mX10_puts lm_TestJudgeModel_123 (by exact hm.1) rfl rfl (e_puT (k := 18) hm (by omega) (by omega) rfl rfl) hfl (by decide) (by decide) (by omega) (by omega) rfl rfl (Nat.le_of_ble_eq_true rfl) (gd DX10_ofAct_0 18 rfl) ?_
  refine g_aload_n C (gd DX10_ofAct_0 19 rfl) 0 rfl rfl ?_
  refine g_iload_n C (gd DX10_ofAct_0 20 rfl) 1 rfl rfl ?_
  refine g_bipush (v := 34) C (gd DX10_ofAct_0 21 rfl) (by decide) ?_
  refine g_iload_n C (gd DX10_ofAct_0 22 rfl) 3 rfl rfl ?_
  refine g_cV0 (v := .null) (ci := 10) C [_, _, _] mX10_puts lm_TestJudgeModel_123 (by exact hm.1) rfl rfl (e_puT (k := 34) hm (by omega) (by omega) rfl rfl) hfl (by decide) (by decide) (by omega) (by omega) rfl rfl (Nat.le_of_ble_eq_true rfl) (gd DX10_ofAct_0 23 rfl) ?_
  exact g_vret C (by omega) (by omega) ⟨rfl, rfl⟩ (gd DX10_ofAct_0 24 rfl)
end M3
