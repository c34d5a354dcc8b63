/-! areEqual, areEqualBy, printsNumber -/
/-- the digits of a number below 1000, as bytes -/
def digs (n : Nat) : List Nat := (if 99 < n then [48 + n / 100] else []) ++ (if 9 < n then [48 + n / 10 % 10] else []) ++ [48 + n % 10]
/-- the picture after some bytes were printed -/
def prL (m : Nat) : HS → Nat → List Nat → HS
  | h, _, [] => h
  | h, k, c :: cs => prL m (pD m h k (nI c)) (k + 1) cs
section M26
variable {w : gD} {m : Nat} {h : HS}
theorem e_m_areEqual (hm : mSh m h) {r o nf : Nat} {fw : Nat → Nat} (hF : mFa m h nf fw) (hr : r < 8) (ho : o < 8) {wr wo : Nat} (lr : wr ≤ 6) (lo : wo ≤ 6) (hwr : gRec (hI h (m + 1)) r 0 = nI wr) (hwo : gRec (hI h (m + 1)) o 0 = nI wo) :
    Ev w 7 0 0 yX10_areEqual cX10_areEqual 3 (some .boolean) [.ref m, .int (nI r), .int (nI o)] h (fun r' h' => layP m h nf (hI h m 6) r o h' ∧ ∃ N, N ≤ 16400 ∧ hI h' m 42 = nI N ∧ ((r' = some (.int 1) ∧ ∀ t, t < N → hI h' (m + 8) t = hI h' (m + 9) t) ∨ (r' = some (.int 0) ∧ ∃ t, t < N ∧ ¬ hI h' (m + 8) t = hI h' (m + 9) t))) := by
  refine g_start (by decide) (Nat.le_of_ble_eq_true rfl) [(0, _), (1, _), (2, _)] rfl (fun z hfl C => ?_)
  refine g_aload_n C (gd DX10_areEqual_0 0 rfl) 0 rfl rfl ?_
  refine g_iload_n C (gd DX10_areEqual_0 1 rfl) 1 rfl rfl ?_
  refine g_iload_n C (gd DX10_areEqual_0 2 rfl) 2 rfl rfl ?_
  refine g_callV (ci := 10) C [_, _] mX10_laysTwo lm_TestJudgeModel_428 (by exact hm.1) rfl rfl (e_m_laysTwo hm hF hr ho lr lo hwr hwo) hfl (by decide) (by decide) (by omega) (by omega) rfl rfl (Nat.le_of_ble_eq_true rfl) (gd DX10_areEqual_0 3 rfl) (fun r h2 hp => ?_)
  obtain ⟨rfl, hp⟩ := hp
  have hp0 := hp
  obtain ⟨N, hL, hU, hf, hrc, hb, hbL⟩ := hp
  have g := hL.gok
  have hm2 : mSh m h2 := hm.fr hf
  show GW z w 3 _ 0 0 _ _ [] _
  refine g_aload_n C (gd DX10_areEqual_0 4 rfl) 0 rfl rfl ?_
  refine g_callV (ci := 10) C [] mX10_parted lm_TestJudgeModel_431 (by exact hm2.1) rfl rfl (e_m_parted hm2 g.1 g.2.1) hfl (by decide) (by decide) (by omega) (by omega) rfl rfl (Nat.le_of_ble_eq_true rfl) (gd DX10_areEqual_0 5 rfl) (fun r h2 hp => ?_)
  obtain ⟨rfl, hp⟩ := hp
  rcases hp with ⟨s, hs, rfl, hs2, -⟩ | ⟨rfl, hs2⟩
  · show GW z w 3 _ 0 0 _ _ [.int (nI s)] _
    have hg1 := g.1
    refine g_iconst (v := -1) C (gd DX10_areEqual_0 6 rfl) (by decide) ?_
    refine g_icmp_ne C 18 (gd DX10_areEqual_0 7 rfl) (by decide) (fun c11 => ?_) (fun c11 => ?_)
    · refine g_iconst (v := 0) C (gd DX10_areEqual_0 10 rfl) (by decide) ?_
      exact g_zret C (by decide) (by omega) (by omega) ⟨hp0, N, g.1, g.2.1, Or.inr ⟨rfl, s, hs, hs2⟩⟩ (gd DX10_areEqual_0 11 rfl)
    · exact absurd c11 (nI_m1 (by omega))
  · show GW z w 3 _ 0 0 _ _ [.int (-1)] _
    refine g_iconst (v := -1) C (gd DX10_areEqual_0 6 rfl) (by decide) ?_
    refine g_icmp_ne C 18 (gd DX10_areEqual_0 7 rfl) (by decide) (fun c11 => ?_) (fun c11 => ?_)
    · exact absurd rfl c11
    · refine g_iconst (v := 1) C (gd DX10_areEqual_0 8 rfl) (by decide) ?_
      refine g_goto (tgt := 19) C (gd DX10_areEqual_0 9 rfl) (by decide) ?_
      exact g_zret C (by decide) (by omega) (by omega) ⟨hp0, N, g.1, g.2.1, Or.inl ⟨rfl, hs2⟩⟩ (gd DX10_areEqual_0 11 rfl)
theorem e_m_areEqualBy (hm : mSh m h) {r o nf : Nat} {fw : Nat → Nat} (hF : mFa m h nf fw) (hr : r < 8) (ho : o < 8) (s0 : Int32) {wr wo : Nat} (lr : wr ≤ 6) (lo : wo ≤ 6) (hwr : gRec (hI h (m + 1)) r 0 = nI wr) (hwo : gRec (hI h (m + 1)) o 0 = nI wo) :
    Ev w 6 0 0 yX10_areEqualBy cX10_areEqualBy 4 (some .boolean) [.ref m, .int (nI r), .int (nI o), .int s0] h (fun r' h' => layP m h nf s0 r o h' ∧ ∃ N, N ≤ 16400 ∧ hI h' m 42 = nI N ∧ ((r' = some (.int 1) ∧ ∀ t, t < N → hI h' (m + 8) t = hI h' (m + 9) t) ∨ (r' = some (.int 0) ∧ ∃ t, t < N ∧ ¬ hI h' (m + 8) t = hI h' (m + 9) t))) := by
  refine g_start (by decide) (Nat.le_of_ble_eq_true rfl) [(0, _), (1, _), (2, _), (3, _)] rfl (fun z hfl C => ?_)
  refine g_aload_n C (gd DX10_areEqualBy_0 0 rfl) 0 rfl rfl ?_
  refine g_iconst (v := 0) C (gd DX10_areEqualBy_0 1 rfl) (by decide) ?_
  refine g_iload_n C (gd DX10_areEqualBy_0 2 rfl) 1 rfl rfl ?_
  refine g_iadd C (gd DX10_areEqualBy_0 3 rfl) ?_
  refine g_iconst (v := 0) C (gd DX10_areEqualBy_0 4 rfl) (by decide) ?_
  refine g_iload_n C (gd DX10_areEqualBy_0 5 rfl) 2 rfl rfl ?_
  refine g_iadd C (gd DX10_areEqualBy_0 6 rfl) ?_
  refine g_iload_n C (gd DX10_areEqualBy_0 7 rfl) 3 rfl rfl ?_
  rw [show (0 : Int32) + nI r = nI r from by simp, show (0 : Int32) + nI o = nI o from by simp]
  refine g_callV (ci := 10) C [_, _, _] mX10_lays lm_TestJudgeModel_390 (by exact hm.1) rfl rfl (r_lays (r := r) (o := o) hm hF (by omega) (by omega) (by omega) (by omega) (by omega) (by omega) s0 lr lo hwr hwo) hfl (by decide) (by decide) (by omega) (by omega) rfl rfl (Nat.le_of_ble_eq_true rfl) (gd DX10_areEqualBy_0 8 rfl) (fun r h2 hp => ?_)
  obtain ⟨rfl, hp⟩ := hp
  have hp0 := hp
  obtain ⟨N, hL, hU, hf, hrc, hb, hbL⟩ := hp
  have g := hL.gok
  have hm2 : mSh m h2 := hm.fr hf
  show GW z w 4 _ 0 0 _ _ [] _
  refine g_aload_n C (gd DX10_areEqualBy_0 9 rfl) 0 rfl rfl ?_
  refine g_callV (ci := 10) C [] mX10_parted lm_TestJudgeModel_431 (by exact hm2.1) rfl rfl (e_m_parted hm2 g.1 g.2.1) hfl (by decide) (by decide) (by omega) (by omega) rfl rfl (Nat.le_of_ble_eq_true rfl) (gd DX10_areEqualBy_0 10 rfl) (fun r h2 hp => ?_)
  obtain ⟨rfl, hp⟩ := hp
  rcases hp with ⟨s, hs, rfl, hs2, -⟩ | ⟨rfl, hs2⟩
  · show GW z w 4 _ 0 0 _ _ [.int (nI s)] _
    have hg1 := g.1
    refine g_iconst (v := -1) C (gd DX10_areEqualBy_0 11 rfl) (by decide) ?_
    refine g_icmp_ne C 23 (gd DX10_areEqualBy_0 12 rfl) (by decide) (fun c16 => ?_) (fun c16 => ?_)
    · refine g_iconst (v := 0) C (gd DX10_areEqualBy_0 15 rfl) (by decide) ?_
      exact g_zret C (by decide) (by omega) (by omega) ⟨hp0, N, g.1, g.2.1, Or.inr ⟨rfl, s, hs, hs2⟩⟩ (gd DX10_areEqualBy_0 16 rfl)
    · exact absurd c16 (nI_m1 (by omega))
  · show GW z w 4 _ 0 0 _ _ [.int (-1)] _
    refine g_iconst (v := -1) C (gd DX10_areEqualBy_0 11 rfl) (by decide) ?_
    refine g_icmp_ne C 23 (gd DX10_areEqualBy_0 12 rfl) (by decide) (fun c16 => ?_) (fun c16 => ?_)
    · exact absurd rfl c16
    · refine g_iconst (v := 1) C (gd DX10_areEqualBy_0 13 rfl) (by decide) ?_
      refine g_goto (tgt := 24) C (gd DX10_areEqualBy_0 14 rfl) (by decide) ?_
      exact g_zret C (by decide) (by omega) (by omega) ⟨hp0, N, g.1, g.2.1, Or.inl ⟨rfl, hs2⟩⟩ (gd DX10_areEqualBy_0 16 rfl)
theorem e_m_printsNumber (hm : mSh m h) {n k : Nat} (hn : n < 1000) (hk : k + 3 ≤ 12000) (ho : hI h m 57 = nI k) : EvF w 1 0 0 yX10_printsNumber cX10_printsNumber 2 none [.ref m, .int (nI n)] h none (prL m h k (digs n)) := by
  refine g_start (by decide) (Nat.le_of_ble_eq_true rfl) [(0, _), (1, _)] rfl (fun z hfl C => ?_)
  generalize hF : prL m h k (digs n) = F
  have l37 : ∀ h1 k1, mSh m h1 → hI h1 m 57 = nI k1 → k1 < 12000 → prL m h1 k1 [48 + n % 10] = F → GW z w 2 (gQ z w 0 0 (fun r' h'' => r' = none ∧ h'' = F)) 0 0 37 [(0, .ref m), (1, .int (nI n))] [] h1 := by
    intro h1 k1 hm ho1 hk1 hF1
    refine g_aload_n C (gd DX10_printsNumber_0 22 rfl) 0 rfl rfl ?_
    refine g_bipush (v := 48) C (gd DX10_printsNumber_0 23 rfl) (by decide) ?_
    refine g_iload_n C (gd DX10_printsNumber_0 24 rfl) 1 rfl rfl ?_
    refine g_bipush (v := 10) C (gd DX10_printsNumber_0 25 rfl) (by decide) ?_
    refine g_irem C (gd DX10_printsNumber_0 26 rfl) (by decide) ?_
    refine g_iadd C (gd DX10_printsNumber_0 27 rfl) ?_
    rw [show (48 : Int32) + (nI n - nI n / 10 * 10) = nI (48 + n % 10) from nx_add rfl (nx_rem rfl rfl (by omega) (by decide) (by decide))]
    refine g_cV0 (v := .null) (ci := 10) C [_] mX10_prints lm_TestJudgeModel_506 (by exact hm.1) rfl rfl (e_m_prints hm hk1 ho1 _) hfl (by decide) (by decide) (by omega) (by omega) rfl rfl (Nat.le_of_ble_eq_true rfl) (gd DX10_printsNumber_0 28 rfl) ?_
    exact g_vret C (by omega) (by omega) ⟨rfl, hF1⟩ (gd DX10_printsNumber_0 29 rfl)
  have l17 : ∀ h1 k1, mSh m h1 → hI h1 m 57 = nI k1 → k1 + 2 ≤ 12000 → prL m h1 k1 ((if 9 < n then [48 + n / 10 % 10] else []) ++ [48 + n % 10]) = F → GW z w 2 (gQ z w 0 0 (fun r' h'' => r' = none ∧ h'' = F)) 0 0 17 [(0, .ref m), (1, .int (nI n))] [] h1 := by
    intro h1 k1 hm ho1 hk1 hF1
    refine g_iload_n C (gd DX10_printsNumber_0 10 rfl) 1 rfl rfl ?_
    refine g_bipush (v := 9) C (gd DX10_printsNumber_0 11 rfl) (by decide) ?_
    refine g_icmp_le C 37 (gd DX10_printsNumber_0 12 rfl) (by decide) (fun c20 => ?_) (fun c20 => ?_)
    · have hc : ¬ 9 < n := by have := ge_t (a := 9) (b := n) c20 (by omega) (by omega); omega
      rw [if_neg hc] at hF1
      exact l37 h1 k1 hm ho1 (by omega) hF1
    · have hc : 9 < n := ge_f (a := 9) (b := n) c20 (by omega) (by omega)
      rw [if_pos hc] at hF1
      refine g_aload_n C (gd DX10_printsNumber_0 13 rfl) 0 rfl rfl ?_
      refine g_bipush (v := 48) C (gd DX10_printsNumber_0 14 rfl) (by decide) ?_
      refine g_iload_n C (gd DX10_printsNumber_0 15 rfl) 1 rfl rfl ?_
      refine g_bipush (v := 10) C (gd DX10_printsNumber_0 16 rfl) (by decide) ?_
      refine g_idiv C (gd DX10_printsNumber_0 17 rfl) (by decide) ?_
      refine g_bipush (v := 10) C (gd DX10_printsNumber_0 18 rfl) (by decide) ?_
      refine g_irem C (gd DX10_printsNumber_0 19 rfl) (by decide) ?_
      refine g_iadd C (gd DX10_printsNumber_0 20 rfl) ?_
      rw [show (48 : Int32) + (nI n / 10 - nI n / 10 / 10 * 10) = nI (48 + n / 10 % 10) from nx_add rfl (nx_rem (nx_div rfl rfl (by omega) (by decide) (by decide)) rfl (by omega) (by decide) (by decide))]
      refine g_cV0 (v := .null) (ci := 10) C [_] mX10_prints lm_TestJudgeModel_506 (by exact hm.1) rfl rfl (e_m_prints hm (by omega) ho1 _) hfl (by decide) (by decide) (by omega) (by omega) rfl rfl (Nat.le_of_ble_eq_true rfl) (gd DX10_printsNumber_0 21 rfl) ?_
      exact l37 (pD m h1 k1 (nI (48 + n / 10 % 10))) (k1 + 1) hm pD_57 (by omega) hF1
  unfold digs at hF
  refine g_iload_n C (gd DX10_printsNumber_0 0 rfl) 1 rfl rfl ?_
  refine g_bipush (v := 99) C (gd DX10_printsNumber_0 1 rfl) (by decide) ?_
  refine g_icmp_le C 17 (gd DX10_printsNumber_0 2 rfl) (by decide) (fun c3 => ?_) (fun c3 => ?_)
  · have hc : ¬ 99 < n := by have := ge_t (a := 99) (b := n) c3 (by omega) (by omega); omega
    rw [if_neg hc] at hF
    exact l17 h k hm ho (by omega) hF
  · have hc : 99 < n := ge_f (a := 99) (b := n) c3 (by omega) (by omega)
    rw [if_pos hc] at hF
    refine g_aload_n C (gd DX10_printsNumber_0 3 rfl) 0 rfl rfl ?_
    refine g_bipush (v := 48) C (gd DX10_printsNumber_0 4 rfl) (by decide) ?_
    refine g_iload_n C (gd DX10_printsNumber_0 5 rfl) 1 rfl rfl ?_
    refine g_bipush (v := 100) C (gd DX10_printsNumber_0 6 rfl) (by decide) ?_
    refine g_idiv C (gd DX10_printsNumber_0 7 rfl) (by decide) ?_
    refine g_iadd C (gd DX10_printsNumber_0 8 rfl) ?_
    rw [show (48 : Int32) + nI n / 100 = nI (48 + n / 100) from nx_add rfl (nx_div rfl rfl (by omega) (by decide) (by decide))]
    refine g_cV0 (v := .null) (ci := 10) C [_] mX10_prints lm_TestJudgeModel_506 (by exact hm.1) rfl rfl (e_m_prints hm (by omega) ho _) hfl (by decide) (by decide) (by omega) (by omega) rfl rfl (Nat.le_of_ble_eq_true rfl) (gd DX10_printsNumber_0 9 rfl) ?_
    exact l17 (pD m h k (nI (48 + n / 100))) (k + 1) hm pD_57 (by omega) hF
end M26
