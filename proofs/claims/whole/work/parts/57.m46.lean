/-! make -/
/-- what a kind takes of its second program -/
def mk2 {α : Type} (c : Nat) (x y : α) : α := if c = 2 ∨ c = 4 then x else y
theorem gt_t {a b : Nat} (h : nI b < nI a) (ha : a < 2 ^ 31) (hb : b < 2 ^ 31) : b < a := by
  have := Int32.lt_iff_toInt_lt.mp h
  rw [nI_toInt ha, nI_toInt hb] at this
  omega
theorem gt_f {a b : Nat} (h : ¬ nI b < nI a) (ha : a < 2 ^ 31) (hb : b < 2 ^ 31) : a ≤ b := by
  rcases Nat.lt_or_ge b a with q | q
  · exact absurd (Int32.lt_iff_toInt_lt.mpr (by rw [nI_toInt ha, nI_toInt hb]; omega)) h
  · exact q
theorem mk_row {ρ ρ0 R : Nat → Int32} {np x k : Nat} {D : Int32} (h1 : ∀ x k, x < 90 → k < 307 → gRec ρ x k = gRec ρ0 x k) (h2 : Ag (gRec ρ 91) R) (hx : x < 11) (hk : k < 307) : gRec (pRec ρ np (upd (gRec ρ 91) 306 D)) x k = if x = np then (if k = 306 then D else R k) else gRec ρ0 x k := by
  by_cases e : x = np
  · rw [if_pos e, e, gRec_pRec hk, upd]
    by_cases e2 : k = 306
    · rw [if_pos e2, if_pos e2]
    · rw [if_neg e2, if_neg e2, h2 k hk]
  · rw [if_neg e, gRec_pRec_ne hk e, h1 x k (by omega) hk]
section M46
variable {w : gD} {m : Nat} {h : HS}
theorem e_m_make {nt na np nf a : Nat} {fw : Nat → Nat} (ok : mOK m h nt na np nf fw) (ha : a ≤ 8) (h7 : hI h m 7 = nI a) (kd p o test : Int32) :
    Ev w 5 0 0 yX10_make cX10_make 7 (some .int) [.ref m, .int kd, .int p, .int o, .int test] h (fun r' h' => (¬ (0 ≤ kd ∧ kd ≤ 4) ∧ r' = some (.int (-1)) ∧ pQ m h h' 1) ∨ ∃ c, c ≤ 4 ∧ kd = nI c ∧ ((¬ (((0 ≤ p ∧ p ≤ nI np - 1) ∧ (0 ≤ o ∧ o ≤ nI np - 1)) ∧ (c ≤ 2 ∨ (0 ≤ test ∧ test ≤ nI nt - 1))) ∧ r' = some (.int (-1)) ∧ pQ m h h' 2) ∨ ∃ r q wr wq D, r < np ∧ q < np ∧ p = nI r ∧ o = nI q ∧ (c ≤ 2 ∨ (0 ≤ test ∧ test ≤ nI nt - 1)) ∧ gRec (hI h (m + 1)) r 0 = nI wr ∧ gRec (hI h (m + 1)) q 0 = nI wq ∧ wr ≤ 6 ∧ wq ≤ 6 ∧ D = 1 + (if gRec (hI h (m + 1)) r 306 < mk2 c 0 (gRec (hI h (m + 1)) q 306) then mk2 c 0 (gRec (hI h (m + 1)) q 306) else gRec (hI h (m + 1)) r 306) ∧ (((np = 8 ∨ 5 < wr + mk2 c 0 wq ∨ D = 7) ∧ r' = some (.int (-1)) ∧ pQ m h h' 3) ∨ (¬ (np = 8 ∨ 5 < wr + mk2 c 0 wq ∨ D = 7) ∧ r' = some (.int (nI np)) ∧ mCh m h h' a (nI (np + 1)) (hI h m 6) (fun x k => if x = np then (if k = 306 then D else mkR c (gRec (hI h (m + 1)) r) (gRec (hI h (m + 1)) q) wr wq (holdF test (2 ^ nt)) (allF (nI nt)) k) else gRec (hI h (m + 1)) x k))))) := by
  obtain ⟨hm, hnt, hna, hnp, hF, hw⟩ := ok
  refine g_start (by decide) (Nat.le_of_ble_eq_true rfl) [(0, _), (1, _), (2, _), (3, _), (4, _)] rfl (fun z hfl C => ?_)
  refine g_iload_n C (gd DX10_make_0 0 rfl) 1 rfl rfl ?_
  refine g_iconst (v := 0) C (gd DX10_make_0 1 rfl) (by decide) ?_
  refine g_iconst (v := 4) C (gd DX10_make_0 2 rfl) (by decide) ?_
  refine g_cS1 C [_, _, _] mX10_isFrom lm_TestJudgeModel_112 (e_m_isFrom _ _ _) hfl (by decide) (by decide) (by omega) (by omega) rfl rfl (Nat.le_of_ble_eq_true rfl) (gd DX10_make_0 3 rfl) ?_
  by_cases hc : 0 ≤ kd ∧ kd ≤ 4
  rotate_left
  · rw [b1_f hc]
    refine g_if_ne C 15 (gd DX10_make_0 4 rfl) (by decide) (fun c6 => ?_) (fun c6 => ?_)
    · exact absurd rfl c6
    · refine g_aload_n C (gd DX10_make_0 5 rfl) 0 rfl rfl ?_
      refine g_iconst (v := 1) C (gd DX10_make_0 6 rfl) (by decide) ?_
      refine g_cV1 (ci := 10) C [_] mX10_refuse lm_TestJudgeModel_331 (by exact hm.1) rfl rfl (e_m_refuse hm _) hfl (by decide) (by decide) (by omega) (by omega) rfl rfl (Nat.le_of_ble_eq_true rfl) (gd DX10_make_0 7 rfl) ?_
      exact g_iret C (by omega) (by omega) (Or.inl ⟨hc, rfl, (mKp.rf m h).q 1⟩) (gd DX10_make_0 8 rfl)
  rw [b1_t hc]
  refine g_if_ne C 15 (gd DX10_make_0 4 rfl) (by decide) (fun c6 => ?_) (fun c6 => ?_)
  rotate_left
  · exact absurd c6 (by decide)
  obtain ⟨c, hc5, rfl⟩ : ∃ c, c < 5 ∧ kd = nI c := below_of (n := 5) (by omega) hc
  have hnp8 := hnp.1
  have hnt3 := hnt.1
  generalize hQ : (gQ z w 0 0 _) = Q
  have l44 : ¬ (((0 ≤ p ∧ p ≤ nI np - 1) ∧ (0 ≤ o ∧ o ≤ nI np - 1)) ∧ (c ≤ 2 ∨ (0 ≤ test ∧ test ≤ nI nt - 1))) → GW z w 7 Q 0 0 44 [(0, .ref m), (1, .int (nI c)), (2, .int p), (3, .int o), (4, .int test)] [] h := by
    intro hne
    refine g_aload_n C (gd DX10_make_0 25 rfl) 0 rfl rfl ?_
    refine g_iconst (v := 2) C (gd DX10_make_0 26 rfl) (by decide) ?_
    refine g_cV1 (ci := 10) C [_] mX10_refuse lm_TestJudgeModel_331 (by exact hm.1) rfl rfl (e_m_refuse hm _) hfl (by decide) (by decide) (by omega) (by omega) rfl rfl (Nat.le_of_ble_eq_true rfl) (gd DX10_make_0 27 rfl) ?_
    rw [← hQ]
    exact g_iret C (by omega) (by omega) (Or.inr ⟨c, by omega, rfl, Or.inl ⟨hne, rfl, (mKp.rf m h).q 2⟩⟩) (gd DX10_make_0 28 rfl)
  have l50 : ((0 ≤ p ∧ p ≤ nI np - 1) ∧ (0 ≤ o ∧ o ≤ nI np - 1)) → (c ≤ 2 ∨ (0 ≤ test ∧ test ≤ nI nt - 1)) → GW z w 7 Q 0 0 50 [(0, .ref m), (1, .int (nI c)), (2, .int p), (3, .int o), (4, .int test)] [] h := by
    intro hp ht
    obtain ⟨r, hr, rfl⟩ := below_of (by omega) hp.1
    obtain ⟨q, hq, rfl⟩ := below_of (by omega) hp.2
    obtain ⟨wr, lr, hwr⟩ := hw r hr
    obtain ⟨wq, lq, hwq⟩ := hw q hq
    have a1 : hI h (m + 1) (307 * r + 0) = nI wr := hwr
    have a2 : hI h (m + 1) (307 * q + 0) = nI wq := hwq
    have c2 : ∀ {n : Nat}, n < 5 → (nI c = nI n ↔ c = n) := fun {n} hn => nI_eq (by omega) (by omega)
    generalize hx : gRec (hI h (m + 1)) r 306 = x
    generalize hy : gRec (hI h (m + 1)) q 306 = y
    have b1 : hI h (m + 1) (307 * r + 306) = x := hx
    have b2 : hI h (m + 1) (307 * q + 306) = y := hy
    have l146 : ∀ D W, D = 1 + (if x < mk2 c 0 y then mk2 c 0 y else x) → (np = 8 ∨ 5 < wr + mk2 c 0 wq ∨ D = 7) → GW z w 7 Q 0 0 146 [(0, .ref m), (1, .int (nI c)), (2, .int (nI r)), (3, .int (nI q)), (4, .int test), (5, .int (nI W)), (6, .int D)] [] h := by
      intro D W eD hbad
      refine g_aload_n C (gd DX10_make_1 25 rfl) 0 rfl rfl ?_
      refine g_iconst (v := 3) C (gd DX10_make_1 26 rfl) (by decide) ?_
      refine g_cV1 (ci := 10) C [_] mX10_refuse lm_TestJudgeModel_331 (by exact hm.1) rfl rfl (e_m_refuse hm _) hfl (by decide) (by decide) (by omega) (by omega) rfl rfl (Nat.le_of_ble_eq_true rfl) (gd DX10_make_1 27 rfl) ?_
      rw [← hQ]
      exact g_iret C (by omega) (by omega) (Or.inr ⟨c, by omega, rfl, Or.inr ⟨r, q, wr, wq, D, hr, hq, rfl, rfl, ht, hwr, hwq, lr, lq, by rw [hx, hy]; exact eD, Or.inl ⟨hbad, rfl, (mKp.rf m h).q 3⟩⟩⟩) (gd DX10_make_1 28 rfl)
    have l152 : ∀ D W, D = 1 + (if x < mk2 c 0 y then mk2 c 0 y else x) → ¬ (np = 8 ∨ 5 < wr + mk2 c 0 wq ∨ D = 7) → GW z w 7 Q 0 0 152 [(0, .ref m), (1, .int (nI c)), (2, .int (nI r)), (3, .int (nI q)), (4, .int test), (5, .int (nI W)), (6, .int D)] [] h := by
      intro D W eD hgood
      refine g_aload_n C (gd DX10_make_1 29 rfl) 0 rfl rfl ?_
      refine g_cV0 (v := .null) (ci := 10) C [] mX10_keeps_ lm_TestJudgeModel_496 (by exact hm.1) rfl rfl (r_keeps_ hm ha h7) hfl (by decide) (by decide) (by omega) (by omega) rfl rfl (Nat.le_of_ble_eq_true rfl) (gd DX10_make_1 30 rfl) ?_
      have hm2 : mSh m (kpH m h a) := hm
      refine g_aload_n C (gd DX10_make_1 31 rfl) 0 rfl rfl ?_
      refine g_iload_n C (gd DX10_make_1 32 rfl) 1 rfl rfl ?_
      refine g_iconst (v := 0) C (gd DX10_make_1 33 rfl) (by decide) ?_
      refine g_iload_n C (gd DX10_make_1 34 rfl) 2 rfl rfl ?_
      refine g_iadd C (gd DX10_make_1 35 rfl) ?_
      refine g_iconst (v := 0) C (gd DX10_make_1 36 rfl) (by decide) ?_
      refine g_iload_n C (gd DX10_make_1 37 rfl) 3 rfl rfl ?_
      refine g_iadd C (gd DX10_make_1 38 rfl) ?_
      refine g_iload C (gd DX10_make_1 39 rfl) 4 rfl ?_
      rw [show (0 : Int32) + nI r = nI r from by simp, show (0 : Int32) + nI q = nI q from by simp]
      refine g_callV (ci := 10) C [_, _, _, _] mX10_makes lm_TestJudgeModel_499 (by exact hm2.1) rfl rfl (e_m_makes hm2 (c := c) (r := r) (q := q) (a := wr) (b := wq) (t := nt) (by omega) (by omega) (by omega) hnt3 (by rw [kpH_ne (by omega) (by omega)]; exact hnt.2) (by rw [kpH_1]; exact hwr) (by rw [kpH_1]; exact hwq) (by omega) (by omega) test) hfl (by decide) (by decide) (by omega) (by omega) rfl rfl (Nat.le_of_ble_eq_true rfl) (gd DX10_make_1 40 rfl) (fun r h2 hp => ?_)
      obtain ⟨rfl, ρ, rfl, hρ1, hρ2⟩ := hp
      rw [kpH_1] at hρ1 hρ2
      show GW z w 7 _ 0 0 _ _ [] _
      have hm3 : ∀ ρ, mSh m (sF (kpH m h a) (m + 1) ρ) := fun ρ => hm
      have e4 : ∀ ρ, hI (sF (kpH m h a) (m + 1) ρ) m 4 = nI np := fun ρ => by rw [hI_sF_ne (by omega), kpH_ne (by omega) (by omega)]; exact hnp.2
      refine g_aload_n C (gd DX10_make_1 41 rfl) 0 rfl rfl ?_
      refine g_bipush (v := 91) C (gd DX10_make_1 42 rfl) (by decide) ?_
      refine g_iconst (v := 0) C (gd DX10_make_1 43 rfl) (by decide) ?_
      refine g_aload_n C (gd DX10_make_1 44 rfl) 0 rfl rfl ?_
      refine g_geti (ci := 10) (k := 4) C rfl (by decide) rfl lf_TestJudgeModel_109 (hm3 _).1 (gd DX10_make_1 45 rfl) ?_
      rw [e4]
      refine g_iadd C (gd DX10_make_1 46 rfl) ?_
      rw [show (0 : Int32) + nI np = nI np from by simp]
      refine g_cV0 (v := .null) (ci := 10) C [_, _] mX10_copies lm_TestJudgeModel_246 (by exact (hm3 _).1) rfl rfl (r_copies (h := kpH m h a) hm (r := 91) (t := np) (by omega) (by omega) (by omega)) hfl (by decide) (by decide) (by omega) (by omega) rfl rfl (Nat.le_of_ble_eq_true rfl) (gd DX10_make_1 47 rfl) ?_
      refine g_aload_n C (gd DX10_make_1 48 rfl) 0 rfl rfl ?_
      refine g_iconst (v := 0) C (gd DX10_make_1 49 rfl) (by decide) ?_
      refine g_aload_n C (gd DX10_make_1 50 rfl) 0 rfl rfl ?_
      refine g_geti (ci := 10) (k := 4) C rfl (by decide) rfl lf_TestJudgeModel_109 (hm3 _).1 (gd DX10_make_1 51 rfl) ?_
      rw [e4]
      refine g_iadd C (gd DX10_make_1 52 rfl) ?_
      refine g_sipush (v := 306) C (gd DX10_make_1 53 rfl) (by decide) ?_
      refine g_iload C (gd DX10_make_1 54 rfl) 6 rfl ?_
      rw [show (0 : Int32) + nI np = nI np from by simp]
      refine g_cV0 (v := .null) (ci := 10) C [_, _, _] mX10_puts lm_TestJudgeModel_123 (by exact (hm3 _).1) rfl rfl (e_m_puts (h := sF (kpH m h a) (m + 1) _) (hm3 _) (r_ix np 306) (by omega)) hfl (by decide) (by decide) (by omega) (by omega) rfl rfl (Nat.le_of_ble_eq_true rfl) (gd DX10_make_1 55 rfl) ?_
      rw [sI_sF_same]
      refine g_aload_n C (gd DX10_make_1 56 rfl) 0 rfl rfl ?_
      refine g_dup C (gd DX10_make_1 57 rfl) rfl ?_
      refine g_geti (ci := 10) (k := 4) C rfl (by decide) rfl lf_TestJudgeModel_109 (hm3 _).1 (gd DX10_make_1 58 rfl) ?_
      rw [e4]
      refine g_iconst (v := 1) C (gd DX10_make_1 59 rfl) (by decide) ?_
      refine g_iadd C (gd DX10_make_2 0 rfl) ?_
      refine g_puti (ci := 10) (k := 4) C rfl (by decide) rfl lf_TestJudgeModel_109 (hm3 _).1 (Or.inl rfl) rfl (gd DX10_make_2 1 rfl) ?_
      rw [show nI np + 1 = nI (np + 1) from inc1 np]
      generalize hρ3 : upd (pRec ρ np (gRec ρ 91)) (307 * np + 306) D = ρ3
      have hm4 : mSh m (sI (sF (kpH m h a) (m + 1) ρ3) m 4 (nI (np + 1))) := hm
      refine g_aload_n C (gd DX10_make_2 2 rfl) 0 rfl rfl ?_
      refine g_aload_n C (gd DX10_make_2 3 rfl) 0 rfl rfl ?_
      refine g_geti (ci := 10) (k := 4) C rfl (by decide) rfl lf_TestJudgeModel_109 hm4.1 (gd DX10_make_2 4 rfl) ?_
      rw [show hI (sI (sF (kpH m h a) (m + 1) ρ3) m 4 (nI (np + 1))) m 4 = nI (np + 1) from by rw [hI_sI, if_pos ⟨rfl, rfl⟩]]
      refine g_iconst (v := 1) C (gd DX10_make_2 5 rfl) (by decide) ?_
      refine g_isub C (gd DX10_make_2 6 rfl) ?_
      rw [show nI (np + 1) - 1 = nI np from nx_sub (a := np + 1) (b := 1) rfl rfl (by omega)]
      refine g_cV1 (ci := 10) C [_] mX10_gives lm_TestJudgeModel_349 (by exact hm4.1) rfl rfl (e_m_gives hm4 _) hfl (by decide) (by decide) (by omega) (by omega) rfl rfl (Nat.le_of_ble_eq_true rfl) (gd DX10_make_2 7 rfl) ?_
      rw [← hQ]
      exact g_iret C (by omega) (by omega) (Or.inr ⟨c, by omega, rfl, Or.inr ⟨r, q, wr, wq, D, hr, hq, rfl, rfl, ht, hwr, hwq, lr, lq, by rw [hx, hy]; exact eD, Or.inr ⟨hgood, rfl, mCh.of ⟨rfl, rfl, rfl, rfl⟩ (fun b j q1 q2 => by rw [hI_sI, if_neg (by omega), hI_sF_ne (by omega)]) (by rw [hI_sI, if_pos ⟨rfl, rfl⟩]) (by rw [hI_sI, if_neg (by omega), hI_sF_ne (by omega), kpH_ne (by omega) (by omega)]) (fun x' k hx' hk => by rw [hI_sI_ne (by omega), hI_sF_eq, ← hρ3, upd_pRec (by omega)]; exact mk_row hρ1 hρ2 hx' hk)⟩⟩⟩) (gd DX10_make_2 8 rfl)
    have l118 : ∀ W, W = wr + mk2 c 0 wq → GW z w 7 Q 0 0 118 [(0, .ref m), (1, .int (nI c)), (2, .int (nI r)), (3, .int (nI q)), (4, .int test), (5, .int (nI W))] [.int (mk2 c 0 y), .int x, .int 1] h := by
      intro W eW
      refine g_max C lm_TestJudgeModel_416 (by omega) (by omega) (by omega) (by decide) (gd DX10_make_1 12 rfl) ?_
      refine g_iadd C (gd DX10_make_1 13 rfl) ?_
      refine g_istore (lv' := [(0, _), (1, _), (2, _), (3, _), (4, _), (5, _), (6, _)]) C (gd DX10_make_1 14 rfl) [1, 2, 3, 4, 5, 6, 0] (by decide) rfl ?_
      refine g_aload_n C (gd DX10_make_1 15 rfl) 0 rfl rfl ?_
      refine g_geti (ci := 10) (k := 4) C rfl (by decide) rfl lf_TestJudgeModel_109 hm.1 (gd DX10_make_1 16 rfl) ?_
      rw [hnp.2]
      refine g_bipush (v := 8) C (gd DX10_make_1 17 rfl) (by decide) ?_
      refine g_icmp_eq C 146 (gd DX10_make_1 18 rfl) (by decide) (fun c130 => ?_) (fun c130 => ?_)
      · exact l146 _ W rfl (Or.inl ((nI_eq (b := 8) (by omega) (by omega)).mp c130))
      · have n8 : ¬ np = 8 := fun e => c130 (by rw [e]; rfl)
        refine g_iload C (gd DX10_make_1 19 rfl) 5 rfl ?_
        refine g_iconst (v := 5) C (gd DX10_make_1 20 rfl) (by decide) ?_
        refine g_icmp_gt C 146 (gd DX10_make_1 21 rfl) (by decide) (fun c136 => ?_) (fun c136 => ?_)
        · exact l146 _ W rfl (Or.inr (Or.inl (by have := gt_t (a := W) (b := 5) c136 (by rw [eW, mk2]; split <;> omega) (by omega); omega)))
        · have n5 : ¬ 5 < wr + mk2 c 0 wq := fun e => by have := gt_f (a := W) (b := 5) c136 (by rw [eW, mk2]; split <;> omega) (by omega); omega
          refine g_iload C (gd DX10_make_1 22 rfl) 6 rfl ?_
          refine g_bipush (v := 7) C (gd DX10_make_1 23 rfl) (by decide) ?_
          refine g_icmp_ne C 152 (gd DX10_make_1 24 rfl) (by decide) (fun c143 => ?_) (fun c143 => ?_)
          · exact l152 _ W rfl (fun e => by rcases e with e | e | e; exact n8 e; exact n5 e; exact c143 e)
          · exact l146 _ W rfl (Or.inr (Or.inr c143))
    have l80 : GW z w 7 Q 0 0 80 [(0, .ref m), (1, .int (nI c)), (2, .int (nI r)), (3, .int (nI q)), (4, .int test)] [.int (nI (mk2 c 0 wq)), .int (nI wr)] h := by
      refine g_iadd C (gd DX10_make_0 49 rfl) ?_
      rw [nx_add (a := wr) (b := mk2 c 0 wq) rfl rfl]
      refine g_istore (lv' := [(0, _), (1, _), (2, _), (3, _), (4, _), (5, _)]) C (gd DX10_make_0 50 rfl) [1, 2, 3, 4, 5, 0] (by decide) rfl ?_
      refine g_iconst (v := 1) C (gd DX10_make_0 51 rfl) (by decide) ?_
      refine g_aload_n C (gd DX10_make_0 52 rfl) 0 rfl rfl ?_
      refine g_iconst (v := 0) C (gd DX10_make_0 53 rfl) (by decide) ?_
      refine g_iload_n C (gd DX10_make_0 54 rfl) 2 rfl rfl ?_
      refine g_iadd C (gd DX10_make_0 55 rfl) ?_
      refine g_sipush (v := 306) C (gd DX10_make_0 56 rfl) (by decide) ?_
      rw [show (0 : Int32) + nI r = nI r from by simp]
      refine g_cV1 (ci := 10) C [_, _] mX10_at lm_TestJudgeModel_131 (by exact hm.1) rfl rfl (e_m_at hm (r_ix r 306) (by omega)) hfl (by decide) (by decide) (by omega) (by omega) rfl rfl (Nat.le_of_ble_eq_true rfl) (gd DX10_make_0 57 rfl) ?_
      rw [b1]
      refine g_iload_n C (gd DX10_make_0 58 rfl) 1 rfl rfl ?_
      refine g_iconst (v := 2) C (gd DX10_make_0 59 rfl) (by decide) ?_
      refine g_icmp_eq C 104 (gd DX10_make_1 0 rfl) (by decide) (fun c96 => ?_) (fun c96 => ?_)
      · have e := (c2 (n := 2) (by omega)).mp c96
        refine g_iconst (v := 0) C (gd DX10_make_1 4 rfl) (by decide) ?_
        refine g_goto (tgt := 118) C (gd DX10_make_1 5 rfl) (by decide) ?_
        exact GW.cast rfl (by rw [mk2, if_pos (Or.inl e)]) rfl (l118 _ rfl)
      · have e := fun q => c96 ((c2 (n := 2) (by omega)).mpr q)
        refine g_iload_n C (gd DX10_make_1 1 rfl) 1 rfl rfl ?_
        refine g_iconst (v := 4) C (gd DX10_make_1 2 rfl) (by decide) ?_
        refine g_icmp_ne C 108 (gd DX10_make_1 3 rfl) (by decide) (fun c101 => ?_) (fun c101 => ?_)
        · have e2 := fun q => c101 ((c2 (n := 4) (by omega)).mpr q)
          refine g_aload_n C (gd DX10_make_1 6 rfl) 0 rfl rfl ?_
          refine g_iconst (v := 0) C (gd DX10_make_1 7 rfl) (by decide) ?_
          refine g_iload_n C (gd DX10_make_1 8 rfl) 3 rfl rfl ?_
          refine g_iadd C (gd DX10_make_1 9 rfl) ?_
          refine g_sipush (v := 306) C (gd DX10_make_1 10 rfl) (by decide) ?_
          rw [show (0 : Int32) + nI q = nI q from by simp]
          refine g_cV1 (ci := 10) C [_, _] mX10_at lm_TestJudgeModel_131 (by exact hm.1) rfl rfl (e_m_at hm (r_ix q 306) (by omega)) hfl (by decide) (by decide) (by omega) (by omega) rfl rfl (Nat.le_of_ble_eq_true rfl) (gd DX10_make_1 11 rfl) ?_
          rw [b2]
          exact GW.cast rfl (by rw [mk2, if_neg (fun q => q.elim e e2)]) rfl (l118 _ rfl)
        · have e2 := (c2 (n := 4) (by omega)).mp c101
          refine g_iconst (v := 0) C (gd DX10_make_1 4 rfl) (by decide) ?_
          refine g_goto (tgt := 118) C (gd DX10_make_1 5 rfl) (by decide) ?_
          exact GW.cast rfl (by rw [mk2, if_pos (Or.inr e2)]) rfl (l118 _ rfl)
    refine g_aload_n C (gd DX10_make_0 29 rfl) 0 rfl rfl ?_
    refine g_iconst (v := 0) C (gd DX10_make_0 30 rfl) (by decide) ?_
    refine g_iload_n C (gd DX10_make_0 31 rfl) 2 rfl rfl ?_
    refine g_iadd C (gd DX10_make_0 32 rfl) ?_
    refine g_iconst (v := 0) C (gd DX10_make_0 33 rfl) (by decide) ?_
    rw [show (0 : Int32) + nI r = nI r from by simp]
    refine g_cV1 (ci := 10) C [_, _] mX10_at lm_TestJudgeModel_131 (by exact hm.1) rfl rfl (e_m_at hm (r_ix r 0) (by omega)) hfl (by decide) (by decide) (by omega) (by omega) rfl rfl (Nat.le_of_ble_eq_true rfl) (gd DX10_make_0 34 rfl) ?_
    rw [a1]
    refine g_iload_n C (gd DX10_make_0 35 rfl) 1 rfl rfl ?_
    refine g_iconst (v := 2) C (gd DX10_make_0 36 rfl) (by decide) ?_
    refine g_icmp_eq C 68 (gd DX10_make_0 37 rfl) (by decide) (fun c60 => ?_) (fun c60 => ?_)
    · have e := (c2 (n := 2) (by omega)).mp c60
      refine g_iconst (v := 0) C (gd DX10_make_0 41 rfl) (by decide) ?_
      refine g_goto (tgt := 80) C (gd DX10_make_0 42 rfl) (by decide) ?_
      exact GW.cast rfl (by rw [mk2, if_pos (Or.inl e)]; rfl) rfl l80
    · have e := fun q => c60 ((c2 (n := 2) (by omega)).mpr q)
      refine g_iload_n C (gd DX10_make_0 38 rfl) 1 rfl rfl ?_
      refine g_iconst (v := 4) C (gd DX10_make_0 39 rfl) (by decide) ?_
      refine g_icmp_ne C 72 (gd DX10_make_0 40 rfl) (by decide) (fun c65 => ?_) (fun c65 => ?_)
      · have e2 := fun q => c65 ((c2 (n := 4) (by omega)).mpr q)
        refine g_aload_n C (gd DX10_make_0 43 rfl) 0 rfl rfl ?_
        refine g_iconst (v := 0) C (gd DX10_make_0 44 rfl) (by decide) ?_
        refine g_iload_n C (gd DX10_make_0 45 rfl) 3 rfl rfl ?_
        refine g_iadd C (gd DX10_make_0 46 rfl) ?_
        refine g_iconst (v := 0) C (gd DX10_make_0 47 rfl) (by decide) ?_
        rw [show (0 : Int32) + nI q = nI q from by simp]
        refine g_cV1 (ci := 10) C [_, _] mX10_at lm_TestJudgeModel_131 (by exact hm.1) rfl rfl (e_m_at hm (r_ix q 0) (by omega)) hfl (by decide) (by decide) (by omega) (by omega) rfl rfl (Nat.le_of_ble_eq_true rfl) (gd DX10_make_0 48 rfl) ?_
        rw [a2]
        exact GW.cast rfl (by rw [mk2, if_neg (fun q => q.elim e e2)]) rfl l80
      · have e2 := (c2 (n := 4) (by omega)).mp c65
        refine g_iconst (v := 0) C (gd DX10_make_0 41 rfl) (by decide) ?_
        refine g_goto (tgt := 80) C (gd DX10_make_0 42 rfl) (by decide) ?_
        exact GW.cast rfl (by rw [mk2, if_pos (Or.inr e2)]; rfl) rfl l80
  refine g_aload_n C (gd DX10_make_0 9 rfl) 0 rfl rfl ?_
  refine g_iload_n C (gd DX10_make_0 10 rfl) 2 rfl rfl ?_
  refine g_iload_n C (gd DX10_make_0 11 rfl) 3 rfl rfl ?_
  refine g_cV1 (ci := 10) C [_, _] mX10_areTwo lm_TestJudgeModel_434 (by exact hm.1) rfl rfl (e_m_areTwo hm _ _) hfl (by decide) (by decide) (by omega) (by omega) rfl rfl (Nat.le_of_ble_eq_true rfl) (gd DX10_make_0 12 rfl) ?_
  rw [hnp.2]
  by_cases hp : (0 ≤ p ∧ p ≤ nI np - 1) ∧ (0 ≤ o ∧ o ≤ nI np - 1)
  · rw [b1_t hp]
    refine g_if_eq C 44 (gd DX10_make_0 13 rfl) (by decide) (fun c21 => ?_) (fun c21 => ?_)
    · exact absurd c21 (by decide)
    refine g_iload_n C (gd DX10_make_0 14 rfl) 1 rfl rfl ?_
    refine g_iconst (v := 2) C (gd DX10_make_0 15 rfl) (by decide) ?_
    refine g_icmp_le C 50 (gd DX10_make_0 16 rfl) (by decide) (fun c26 => ?_) (fun c26 => ?_)
    · exact l50 hp (Or.inl (ge_t (a := 2) (b := c) c26 (by omega) (by omega)))
    · have h2c := ge_f (a := 2) (b := c) c26 (by omega) (by omega)
      refine g_iload C (gd DX10_make_0 17 rfl) 4 rfl ?_
      refine g_iconst (v := 0) C (gd DX10_make_0 18 rfl) (by decide) ?_
      refine g_aload_n C (gd DX10_make_0 19 rfl) 0 rfl rfl ?_
      refine g_geti (ci := 10) (k := 2) C rfl (by decide) rfl lf_TestJudgeModel_337 hm.1 (gd DX10_make_0 20 rfl) ?_
      rw [hnt.2]
      refine g_iconst (v := 1) C (gd DX10_make_0 21 rfl) (by decide) ?_
      refine g_isub C (gd DX10_make_0 22 rfl) ?_
      refine g_cS1 C [_, _, _] mX10_isFrom lm_TestJudgeModel_112 (e_m_isFrom _ _ _) hfl (by decide) (by decide) (by omega) (by omega) rfl rfl (Nat.le_of_ble_eq_true rfl) (gd DX10_make_0 23 rfl) ?_
      by_cases ht : 0 ≤ test ∧ test ≤ nI nt - 1
      · rw [b1_t ht]
        refine g_if_ne C 50 (gd DX10_make_0 24 rfl) (by decide) (fun c41 => ?_) (fun c41 => ?_)
        · exact l50 hp (Or.inr ht)
        · exact absurd c41 (by decide)
      · rw [b1_f ht]
        refine g_if_ne C 50 (gd DX10_make_0 24 rfl) (by decide) (fun c41 => ?_) (fun c41 => ?_)
        · exact absurd rfl c41
        · exact l44 (fun e => e.2.elim (fun e => by omega) ht)
  · rw [b1_f hp]
    refine g_if_eq C 44 (gd DX10_make_0 13 rfl) (by decide) (fun c21 => ?_) (fun c21 => ?_)
    · exact l44 (fun e => hp e.1)
    · exact absurd rfl c21
end M46
