/-! uses, keeps, many, fault, Math.max -/
theorem hasB_or {x y : Int32} {a : Nat} (ha : a < 32) : hasB (x ||| y) (nI a) ↔ hasB x (nI a) ∨ hasB y (nI a) := by
  rw [hasB_iff ha, hasB_iff ha, hasB_iff ha, Int32.toBitVec_or, BitVec.getLsbD_or, Bool.or_eq_true]
theorem hasB_and {x y : Int32} {a : Nat} (ha : a < 32) : hasB (x &&& y) (nI a) ↔ hasB x (nI a) ∧ hasB y (nI a) := by
  rw [hasB_iff ha, hasB_iff ha, hasB_iff ha, Int32.toBitVec_and, BitVec.getLsbD_and, Bool.and_eq_true]
theorem hasB_one {n a : Nat} (hn : n < 32) (ha : a < 32) : hasB (1 <<< (nI n &&& 31)) (nI a) ↔ a = n := by
  have e : ∀ n, n < 32 → ∀ a, a < 32 → ((((1 : Int32) <<< (nI n &&& 31)) >>> (nI a &&& 31) &&& 1 = 1) ↔ a = n) := by decide +kernel
  exact e n hn a ha
theorem hasB_0 {a : Nat} (ha : a < 32) : ¬ hasB 0 (nI a) := by
  rw [hasB_iff ha]
  simp
theorem hasB_ext {x y : Int32} (h : ∀ a, a < 32 → (hasB x (nI a) ↔ hasB y (nI a))) : x = y := by
  refine Int32.toBitVec_inj.mp (BitVec.eq_of_getLsbD_eq (fun i hi => ?_))
  have := h i hi
  rw [hasB_iff hi, hasB_iff hi] at this
  exact Bool.eq_iff_iff.mpr this
theorem hasB_bitF {P : Nat → Prop} : ∀ {n a : Nat}, n ≤ 32 → a < 32 → (hasB (bitF P n) (nI a) ↔ a < n ∧ P a) := by
  intro n
  induction n with
  | zero => intro a _ ha; exact ⟨fun q => absurd q (hasB_0 ha), fun q => absurd q.1 (by omega)⟩
  | succ n ih =>
    intro a hn ha
    by_cases e : P n
    · rw [bitF_t e, hasB_or ha, ih (by omega) ha, hasB_one (by omega) ha]
      refine ⟨fun q => ?_, fun q => ?_⟩
      · rcases q with q | q
        · exact ⟨by omega, q.2⟩
        · exact ⟨by omega, by rw [q]; exact e⟩
      · by_cases ea : a = n
        · exact Or.inr ea
        · exact Or.inl ⟨by omega, q.2⟩
    · rw [bitF_f e, hasB_or ha, ih (by omega) ha]
      refine ⟨fun q => ?_, fun q => ?_⟩
      · rcases q with q | q
        · exact ⟨by omega, q.2⟩
        · exact absurd q (hasB_0 ha)
      · refine Or.inl ⟨?_, q.2⟩
        by_cases ea : a = n
        · rw [ea] at q; exact absurd q.2 e
        · omega
/-- how many of the places below n a set has -/
noncomputable def cntB (s : Int32) : Nat → Nat
  | 0 => 0
  | n + 1 => cntB s n + @ite _ (hasB s (nI n)) (Classical.propDecidable _) 1 0
theorem cntB_le {s s' : Int32} {n0 : Nat} (h : ∀ a, a < n0 → hasB s (nI a) → hasB s' (nI a)) : ∀ n, n ≤ n0 → cntB s n ≤ cntB s' n := by
  intro n
  induction n with
  | zero => intro _; exact Nat.le_refl _
  | succ n ih =>
    intro hn
    have := ih (by omega)
    unfold cntB
    by_cases e : hasB s (nI n)
    · rw [if_pos e, if_pos (h n (by omega) e)]; omega
    · rw [if_neg e]; omega
theorem cntB_eq {s s' : Int32} {n0 : Nat} (h : ∀ a, a < n0 → hasB s (nI a) → hasB s' (nI a)) : ∀ n, n ≤ n0 → cntB s' n ≤ cntB s n → ∀ a, a < n → hasB s' (nI a) → hasB s (nI a) := by
  intro n
  induction n with
  | zero => intro _ _ a ha; omega
  | succ n ih =>
    intro hn hc a ha ha'
    have h1 := cntB_le h n (by omega)
    unfold cntB at hc
    by_cases e : hasB s (nI n)
    · rw [if_pos e, if_pos (h n (by omega) e)] at hc
      by_cases ea : a = n
      · rw [ea]; exact e
      · exact ih (by omega) (by omega) a (by omega) ha'
    · rw [if_neg e] at hc
      by_cases e2 : hasB s' (nI n)
      · rw [if_pos e2] at hc; omega
      · rw [if_neg e2] at hc
        by_cases ea : a = n
        · rw [ea] at ha'; exact absurd ha' e2
        · exact ih (by omega) (by omega) a (by omega) ha'
/-- what uses gathers: ends of the first states, acts and first atoms of the first letters -/
def usE (en : Nat → Int32) : Nat → Int32
  | 0 => 0
  | s + 1 => usE en s ||| en s
def usU (ux : Nat → Int32) : Nat → Int32
  | 0 => 0
  | e + 1 => if ux e = -1 then usU ux e else usU ux e ||| 1 <<< (nI (e % 24 % 3) &&& 31)
def usB (ux : Nat → Int32) (b : Int32) : Nat → Int32
  | 0 => b
  | e + 1 => if ux e = -1 then usB ux b e else usB ux b e ||| (if e / 24 = 0 then 1 <<< (nI (e % 24 / 3) &&& 31) else 0)
/-- what keeps comes to by i steps -/
noncomputable def kpS (m : Nat) (h : HS) (N n : Nat) (a : Int32) : Nat → Int32
  | 0 => a
  | i + 1 => bitF (wkP m h N (kpS m h N n a i) (kpS m h N n a i)) n
theorem wkP_B2 {m N : Nat} {h : HS} {MT LN : Nat → Int32} : wkP m (hB2 m h MT LN) N = wkP m h N := by
  funext s to a
  unfold wkP
  rw [hB2_ne (by omega) (by omega), hB2_ne (by omega) (by omega)]
theorem allF_b {t a : Nat} {s : Int32} (ht : t ≤ 3) (hs : 0 ≤ s ∧ s ≤ allF (nI t)) (ha : a < 32) (hb : hasB s (nI a)) : a < 2 ^ t := by
  obtain ⟨j, hj, rfl⟩ := nI_of (Int32.not_lt.mpr hs.1)
  have h2 : j < 2 ^ 2 ^ t := by
    have h3 := hs.2
    rcases (show t = 0 ∨ t = 1 ∨ t = 2 ∨ t = 3 by omega) with rfl | rfl | rfl | rfl
    · have := (nI_leI (b := 1) hj (by decide)).mp h3; simp; omega
    · have := (nI_leI (b := 3) hj (by decide)).mp h3; simp; omega
    · have := (nI_leI (b := 15) hj (by decide)).mp h3; simp; omega
    · have := (nI_leI (b := 255) hj (by decide)).mp h3; simp; omega
  rw [hasB_iff ha] at hb
  apply Classical.byContradiction
  intro hn
  have h3 : (BitVec.ofNat 32 j).getLsbD a = true := hb
  rw [BitVec.getLsbD_ofNat] at h3
  have h4 : j.testBit a = false := Nat.testBit_lt_two_pow (Nat.lt_of_lt_of_le h2 (Nat.pow_le_pow_right (by decide) (by omega)))
  rw [h4] at h3
  simp at h3
section M39
variable {w : gD} {m : Nat} {h : HS}
theorem e_m_uses {nt na np nf : Nat} {fw : Nat → Nat} (ok : mOK m h nt na np nf fw) (p k : Int32) :
    Ev w 7 0 0 yX10_uses cX10_uses 8 (some .int) [.ref m, .int p, .int k] h (fun r' h' => (¬ (0 ≤ k ∧ k ≤ 2) ∧ r' = some (.int (-1)) ∧ pQ m h h' 1) ∨ ((0 ≤ k ∧ k ≤ 2) ∧ ¬ (0 ≤ p ∧ p ≤ nI np - 1) ∧ r' = some (.int (-1)) ∧ pQ m h h' 2) ∨ ((0 ≤ k ∧ k ≤ 2) ∧ ∃ r, r < np ∧ p = nI r ∧ ∃ h1 N, LDU (P1 m h nf r) m h1 N ∧ r' = some (.int (if k = 0 then usB (uNx m h1) (hI h1 (m + 8) 0) (24 * N) else if k = 1 then usE (hI h1 (m + 8)) N else usU (uNx m h1) (24 * N))) ∧ pQ m h h' 0)) := by
  obtain ⟨hm, hnt, hna, hnp, hF, hw⟩ := ok
  refine g_start (by decide) (Nat.le_of_ble_eq_true rfl) [(0, _), (1, _), (2, _)] rfl (fun z hfl C => ?_)
  refine g_iload_n C (gd DX10_uses_0 0 rfl) 2 rfl rfl ?_
  refine g_iconst (v := 0) C (gd DX10_uses_0 1 rfl) (by decide) ?_
  refine g_iconst (v := 2) C (gd DX10_uses_0 2 rfl) (by decide) ?_
  refine g_cS1 C [_, _, _] mX10_isFrom lm_TestJudgeModel_112 (e_m_isFrom _ _ _) hfl (by decide) (by decide) (by omega) (by omega) rfl rfl (Nat.le_of_ble_eq_true rfl) (gd DX10_uses_0 3 rfl) ?_
  by_cases hk : 0 ≤ k ∧ k ≤ 2
  rotate_left
  · rw [b1_f hk]
    refine g_if_ne C 15 (gd DX10_uses_0 4 rfl) (by decide) (fun c6 => ?_) (fun c6 => ?_)
    · exact absurd rfl c6
    · refine g_aload_n C (gd DX10_uses_0 5 rfl) 0 rfl rfl ?_
      refine g_iconst (v := 1) C (gd DX10_uses_0 6 rfl) (by decide) ?_
      refine g_cV1 (ci := 10) C [_] mX10_refuse lm_TestJudgeModel_331 (by exact hm.1) rfl rfl (e_m_refuse hm _) hfl (by decide) (by decide) (by omega) (by omega) rfl rfl (Nat.le_of_ble_eq_true rfl) (gd DX10_uses_0 7 rfl) ?_
      exact g_iret C (by omega) (by omega) (Or.inl ⟨hk, rfl, (mKp.rf m h).q 1⟩) (gd DX10_uses_0 8 rfl)
  rw [b1_t hk]
  refine g_if_ne C 15 (gd DX10_uses_0 4 rfl) (by decide) (fun c6 => ?_) (fun c6 => ?_)
  rotate_left
  · exact absurd c6 (by decide)
  refine g_aload_n C (gd DX10_uses_0 9 rfl) 0 rfl rfl ?_
  refine g_iload_n C (gd DX10_uses_0 10 rfl) 1 rfl rfl ?_
  refine g_cV1 (ci := 10) C [_] mX10_isProgram lm_TestJudgeModel_116 (by exact hm.1) rfl rfl (e_m_isProgram hm _) hfl (by decide) (by decide) (by omega) (by omega) rfl rfl (Nat.le_of_ble_eq_true rfl) (gd DX10_uses_0 11 rfl) ?_
  rw [hnp.2]
  by_cases hp : 0 ≤ p ∧ p ≤ nI np - 1
  rotate_left
  · rw [b1_f hp]
    refine g_if_ne C 29 (gd DX10_uses_0 12 rfl) (by decide) (fun c20 => ?_) (fun c20 => ?_)
    · exact absurd rfl c20
    · refine g_aload_n C (gd DX10_uses_0 13 rfl) 0 rfl rfl ?_
      refine g_iconst (v := 2) C (gd DX10_uses_0 14 rfl) (by decide) ?_
      refine g_cV1 (ci := 10) C [_] mX10_refuse lm_TestJudgeModel_331 (by exact hm.1) rfl rfl (e_m_refuse hm _) hfl (by decide) (by decide) (by omega) (by omega) rfl rfl (Nat.le_of_ble_eq_true rfl) (gd DX10_uses_0 15 rfl) ?_
      exact g_iret C (by omega) (by omega) (Or.inr (Or.inl ⟨hk, hp, rfl, (mKp.rf m h).q 2⟩)) (gd DX10_uses_0 16 rfl)
  rw [b1_t hp]
  refine g_if_ne C 29 (gd DX10_uses_0 12 rfl) (by decide) (fun c20 => ?_) (fun c20 => ?_)
  rotate_left
  · exact absurd c20 (by decide)
  obtain ⟨r, hr, rfl⟩ := below_of (by omega) hp
  obtain ⟨wr, lr, hwr⟩ := hw r hr
  refine g_aload_n C (gd DX10_uses_0 17 rfl) 0 rfl rfl ?_
  refine g_iload_n C (gd DX10_uses_0 18 rfl) 1 rfl rfl ?_
  refine g_callV (ci := 10) C [_] mX10_laysOne lm_TestJudgeModel_396 (by exact hm.1) rfl rfl (e_m_laysOne hm hF (by omega : r < 8) lr hwr) hfl (by decide) (by decide) (by omega) (by omega) rfl rfl (Nat.le_of_ble_eq_true rfl) (gd DX10_uses_0 19 rfl) (fun r h2 hp => ?_)
  obtain ⟨rfl, hl⟩ := hp
  obtain ⟨N, hL, hk1⟩ := lay_1 hF (by omega : r < 8) lr hwr hl
  have g := hL.1.gok
  have hg1 := g.1
  have hm2 : mSh m h2 := hm.fr hk1.1
  show GW z w 8 _ 0 0 _ _ [] _
  generalize hux : uNx m h2 = ux
  generalize hb0 : hI h2 (m + 8) 0 = b0
  generalize hQ : (gQ z w 0 0 _) = Q
  have fin : ∀ v s : Int32, v = (if k = 0 then usB ux b0 (24 * N) else if k = 1 then usE (hI h2 (m + 8)) N else usU ux (24 * N)) → GW z w 8 Q 0 0 158 [(0, .ref m), (1, .int (nI r)), (2, .int k), (3, .int (usB ux b0 (24 * N))), (4, .int (usE (hI h2 (m + 8)) N)), (5, .int (usU ux (24 * N))), (6, .int s)] [.int v, .ref m] h2 := by
    intro v s hv
    refine g_cV1 (ci := 10) C [_] mX10_gives lm_TestJudgeModel_349 (by exact hm2.1) rfl rfl (e_m_gives hm2 _) hfl (by decide) (by decide) (by omega) (by omega) rfl rfl (Nat.le_of_ble_eq_true rfl) (gd DX10_uses_1 29 rfl) ?_
    rw [← hQ]
    exact g_iret C (by omega) (by omega) (Or.inr (Or.inr ⟨hk, r, hr, rfl, _, N, hL, by rw [hv, hux, hb0], hk1.q 0⟩)) (gd DX10_uses_1 30 rfl)
  have loop : ∀ y s, s + y = N → GW z w 8 Q 0 0 50 [(0, .ref m), (1, .int (nI r)), (2, .int k), (3, .int (usB ux b0 (24 * s))), (4, .int (usE (hI h2 (m + 8)) s)), (5, .int (usU ux (24 * s))), (6, .int (nI s))] [] h2 := by
    intro y
    induction y with
    | zero =>
      intro s hs
      refine g_iload C (gd DX10_uses_0 31 rfl) 6 rfl ?_
      refine g_aload_n C (gd DX10_uses_0 32 rfl) 0 rfl rfl ?_
      refine g_geti (ci := 10) (k := 42) C rfl (by decide) rfl lf_TestJudgeModel_357 hm2.1 (gd DX10_uses_0 33 rfl) ?_
      rw [g.2.1]
      refine g_icmp_ge C 137 (gd DX10_uses_0 34 rfl) (by decide) (fun c56 => ?_) (fun c56 => ?_)
      · rw [show s = N by omega]
        refine g_aload_n C (gd DX10_uses_1 18 rfl) 0 rfl rfl ?_
        refine g_iload_n C (gd DX10_uses_1 19 rfl) 2 rfl rfl ?_
        refine g_if_ne C 146 (gd DX10_uses_1 20 rfl) (by decide) (fun c139 => ?_) (fun c139 => ?_)
        · refine g_iload_n C (gd DX10_uses_1 23 rfl) 2 rfl rfl ?_
          refine g_iconst (v := 1) C (gd DX10_uses_1 24 rfl) (by decide) ?_
          refine g_icmp_ne C 156 (gd DX10_uses_1 25 rfl) (by decide) (fun c148 => ?_) (fun c148 => ?_)
          · refine g_iload C (gd DX10_uses_1 28 rfl) 5 rfl ?_
            exact fin _ _ (by rw [if_neg c139, if_neg c148])
          · refine g_iload C (gd DX10_uses_1 26 rfl) 4 rfl ?_
            refine g_goto (tgt := 158) C (gd DX10_uses_1 27 rfl) (by decide) ?_
            exact fin _ _ (by rw [if_neg c139, if_pos c148])
        · refine g_iload_n C (gd DX10_uses_1 21 rfl) 3 rfl rfl ?_
          refine g_goto (tgt := 158) C (gd DX10_uses_1 22 rfl) (by decide) ?_
          exact fin _ _ (by rw [if_pos c139])
      · exact absurd (nI_le (a := N) (b := s) (by omega) (by omega)) c56
    | succ y ih =>
      intro s hs
      have inner : ∀ y k0, k0 + y = 24 → GW z w 8 Q 0 0 74 [(0, .ref m), (1, .int (nI r)), (2, .int k), (3, .int (usB ux b0 (24 * s + k0))), (4, .int (usE (hI h2 (m + 8)) (s + 1))), (5, .int (usU ux (24 * s + k0))), (6, .int (nI s)), (7, .int (nI k0))] [] h2 := by
        intro y
        induction y with
        | zero =>
          intro k0 hk0
          refine g_iload C (gd DX10_uses_0 44 rfl) 7 rfl ?_
          refine g_bipush (v := 24) C (gd DX10_uses_0 45 rfl) (by decide) ?_
          refine g_icmp_ge C 131 (gd DX10_uses_0 46 rfl) (by decide) (fun c78 => ?_) (fun c78 => ?_)
          · refine g_iinc (lv' := [(0, _), (1, _), (2, _), (3, _), (4, _), (5, _), (6, _), (7, _)]) C (gd DX10_uses_1 16 rfl) 6 [1, 2, 3, 4, 5, 6, 0, 7] rfl rfl (by decide) rfl ?_
            refine g_goto (tgt := 50) C (gd DX10_uses_1 17 rfl) (by decide) ?_
            refine GW.sub [0, 1, 2, 3, 4, 5, 6] rfl (Nat.le_refl _) (Nat.le_refl _) (lv' := [(0, _), (1, _), (2, _), (3, _), (4, _), (5, _), (6, _)]) ?_
            exact GW.cast (by rw [inc1, show 24 * s + k0 = 24 * (s + 1) by omega]) rfl rfl (ih (s + 1) (by omega))
          · exact absurd (nI_le (a := 24) (b := k0) (by omega) (by omega)) c78
        | succ y ihy =>
          intro k0 hk0
          have ed : (24 * s + k0) / 24 = s := by omega
          have em : (24 * s + k0) % 24 = k0 := by omega
          have nx : ∀ vB vU, vB = usB ux b0 (24 * s + (k0 + 1)) → vU = usU ux (24 * s + (k0 + 1)) → GW z w 8 Q 0 0 125 [(0, .ref m), (1, .int (nI r)), (2, .int k), (3, .int vB), (4, .int (usE (hI h2 (m + 8)) (s + 1))), (5, .int vU), (6, .int (nI s)), (7, .int (nI k0))] [] h2 := by
            intro vB vU eB eU
            refine g_iinc (lv' := [(0, _), (1, _), (2, _), (3, _), (4, _), (5, _), (6, _), (7, _)]) C (gd DX10_uses_1 14 rfl) 7 [1, 2, 3, 4, 5, 6, 7, 0] rfl rfl (by decide) rfl ?_
            refine g_goto (tgt := 74) C (gd DX10_uses_1 15 rfl) (by decide) ?_
            exact GW.cast (by rw [inc1, eB, eU]) rfl rfl (ihy (k0 + 1) (by omega))
          refine g_iload C (gd DX10_uses_0 44 rfl) 7 rfl ?_
          refine g_bipush (v := 24) C (gd DX10_uses_0 45 rfl) (by decide) ?_
          refine g_icmp_ge C 131 (gd DX10_uses_0 46 rfl) (by decide) (fun c78 => ?_) (fun c78 => ?_)
          · exact absurd c78 (nI_ge (a := k0) (b := 24) (by omega) (by omega))
          · refine g_aload_n C (gd DX10_uses_0 47 rfl) 0 rfl rfl ?_
            refine g_iload C (gd DX10_uses_0 48 rfl) 6 rfl ?_
            refine g_iload C (gd DX10_uses_0 49 rfl) 7 rfl ?_
            refine g_cV1 (ci := 10) C [_, _] mX10_usefulNext lm_TestJudgeModel_399 (by exact hm2.1) rfl rfl (e_m_usefulNext hm2 hg1 (by omega : s < N) (by omega : k0 < 24) g.2.2) hfl (by decide) (by decide) (by omega) (by omega) rfl rfl (Nat.le_of_ble_eq_true rfl) (gd DX10_uses_0 50 rfl) ?_
            rw [hux]
            refine g_iconst (v := -1) C (gd DX10_uses_0 51 rfl) (by decide) ?_
            refine g_icmp_ne C 96 (gd DX10_uses_0 52 rfl) (by decide) (fun c90 => ?_) (fun c90 => ?_)
            · refine g_iload C (gd DX10_uses_0 54 rfl) 5 rfl ?_
              refine g_iconst (v := 1) C (gd DX10_uses_0 55 rfl) (by decide) ?_
              refine g_iload C (gd DX10_uses_0 56 rfl) 7 rfl ?_
              refine g_iconst (v := 3) C (gd DX10_uses_0 57 rfl) (by decide) ?_
              refine g_irem C (gd DX10_uses_0 58 rfl) (by decide) ?_
              rw [show nI k0 - nI k0 / 3 * 3 = nI (k0 % 3) from nx_rem (a := k0) (b := 3) rfl rfl (by omega) (by decide) (by decide)]
              refine g_ishl C (gd DX10_uses_0 59 rfl) ?_
              refine g_ior C (gd DX10_uses_1 0 rfl) ?_
              refine g_istore (lv' := [(0, _), (1, _), (2, _), (3, _), (4, _), (5, _), (6, _), (7, _)]) C (gd DX10_uses_1 1 rfl) [1, 2, 3, 4, 5, 0, 6, 7] (by decide) rfl ?_
              refine g_iload_n C (gd DX10_uses_1 2 rfl) 3 rfl rfl ?_
              refine g_iload C (gd DX10_uses_1 3 rfl) 6 rfl ?_
              refine g_if_ne C 122 (gd DX10_uses_1 4 rfl) (by decide) (fun c110 => ?_) (fun c110 => ?_)
              · refine g_iconst (v := 0) C (gd DX10_uses_1 11 rfl) (by decide) ?_
                refine g_ior C (gd DX10_uses_1 12 rfl) ?_
                refine g_istore_n (lv' := [(0, _), (1, _), (2, _), (3, _), (4, _), (5, _), (6, _), (7, _)]) C (gd DX10_uses_1 13 rfl) [1, 2, 3, 0, 4, 5, 6, 7] rfl (by decide) rfl ?_
                refine nx _ _ ?_ ?_
                · rw [show 24 * s + (k0 + 1) = (24 * s + k0) + 1 by omega, usB, if_neg c90, ed, if_neg (fun q => c110 (by rw [q]; rfl))]
                · rw [show 24 * s + (k0 + 1) = (24 * s + k0) + 1 by omega, usU, if_neg c90, em]
              · refine g_iconst (v := 1) C (gd DX10_uses_1 5 rfl) (by decide) ?_
                refine g_iload C (gd DX10_uses_1 6 rfl) 7 rfl ?_
                refine g_iconst (v := 3) C (gd DX10_uses_1 7 rfl) (by decide) ?_
                refine g_idiv C (gd DX10_uses_1 8 rfl) (by decide) ?_
                rw [show nI k0 / 3 = nI (k0 / 3) from nx_div (a := k0) (b := 3) rfl rfl (by omega) (by decide) (by decide)]
                refine g_ishl C (gd DX10_uses_1 9 rfl) ?_
                refine g_goto (tgt := 123) C (gd DX10_uses_1 10 rfl) (by decide) ?_
                refine g_ior C (gd DX10_uses_1 12 rfl) ?_
                refine g_istore_n (lv' := [(0, _), (1, _), (2, _), (3, _), (4, _), (5, _), (6, _), (7, _)]) C (gd DX10_uses_1 13 rfl) [1, 2, 3, 0, 4, 5, 6, 7] rfl (by decide) rfl ?_
                have hs0 : s = 0 := Classical.byContradiction (fun q => absurd c110 (nI_ne0 (by omega) (by omega)))
                refine nx _ _ ?_ ?_
                · rw [show 24 * s + (k0 + 1) = (24 * s + k0) + 1 by omega, usB, if_neg c90, ed, em, if_pos hs0]
                · rw [show 24 * s + (k0 + 1) = (24 * s + k0) + 1 by omega, usU, if_neg c90, em]
            · refine g_goto (tgt := 125) C (gd DX10_uses_0 53 rfl) (by decide) ?_
              refine nx _ _ ?_ ?_
              · rw [show 24 * s + (k0 + 1) = (24 * s + k0) + 1 by omega, usB, if_pos c90]
              · rw [show 24 * s + (k0 + 1) = (24 * s + k0) + 1 by omega, usU, if_pos c90]
      refine g_iload C (gd DX10_uses_0 31 rfl) 6 rfl ?_
      refine g_aload_n C (gd DX10_uses_0 32 rfl) 0 rfl rfl ?_
      refine g_geti (ci := 10) (k := 42) C rfl (by decide) rfl lf_TestJudgeModel_357 hm2.1 (gd DX10_uses_0 33 rfl) ?_
      rw [g.2.1]
      refine g_icmp_ge C 137 (gd DX10_uses_0 34 rfl) (by decide) (fun c56 => ?_) (fun c56 => ?_)
      · exact absurd c56 (nI_ge (a := s) (b := N) (by omega) (by omega))
      · refine g_iload C (gd DX10_uses_0 35 rfl) 4 rfl ?_
        refine g_aload_n C (gd DX10_uses_0 36 rfl) 0 rfl rfl ?_
        refine g_getr (ci := 10) (k := 36) C rfl (by decide) rfl lf_TestJudgeModel_44 hm2.1 (hm2.2 36 8 12 16500 rfl).1 (gd DX10_uses_0 37 rfl) ?_
        refine g_iload C (gd DX10_uses_0 38 rfl) 6 rfl ?_
        refine g_iaj (j := s) C (hm2.2 36 8 12 16500 rfl).2.1 (hm2.2 36 8 12 16500 rfl).2.2 (by decide) rfl (by omega) (gd DX10_uses_0 39 rfl) ?_
        refine g_ior C (gd DX10_uses_0 40 rfl) ?_
        refine g_istore (lv' := [(0, _), (1, _), (2, _), (3, _), (4, _), (5, _), (6, _)]) C (gd DX10_uses_0 41 rfl) [1, 2, 3, 4, 0, 5, 6] (by decide) rfl ?_
        refine g_iconst (v := 0) C (gd DX10_uses_0 42 rfl) (by decide) ?_
        refine g_istore (lv' := [(0, _), (1, _), (2, _), (3, _), (4, _), (5, _), (6, _), (7, _)]) C (gd DX10_uses_0 43 rfl) [1, 2, 3, 4, 5, 6, 7, 0] (by decide) rfl ?_
        exact inner 24 0 (by omega)
  refine g_aload_n C (gd DX10_uses_0 20 rfl) 0 rfl rfl ?_
  refine g_getr (ci := 10) (k := 36) C rfl (by decide) rfl lf_TestJudgeModel_44 hm2.1 (hm2.2 36 8 12 16500 rfl).1 (gd DX10_uses_0 21 rfl) ?_
  refine g_iconst (v := 0) C (gd DX10_uses_0 22 rfl) (by decide) ?_
  refine g_iaj (j := 0) C (hm2.2 36 8 12 16500 rfl).2.1 (hm2.2 36 8 12 16500 rfl).2.2 (by decide) rfl (by omega) (gd DX10_uses_0 23 rfl) ?_
  rw [hb0]
  refine g_istore_n (lv' := [(0, _), (1, _), (2, _), (3, _)]) C (gd DX10_uses_0 24 rfl) [1, 2, 3, 0] rfl (by decide) rfl ?_
  refine g_iconst (v := 0) C (gd DX10_uses_0 25 rfl) (by decide) ?_
  refine g_istore (lv' := [(0, _), (1, _), (2, _), (3, _), (4, _)]) C (gd DX10_uses_0 26 rfl) [1, 2, 3, 4, 0] (by decide) rfl ?_
  refine g_iconst (v := 0) C (gd DX10_uses_0 27 rfl) (by decide) ?_
  refine g_istore (lv' := [(0, _), (1, _), (2, _), (3, _), (4, _), (5, _)]) C (gd DX10_uses_0 28 rfl) [1, 2, 3, 4, 5, 0] (by decide) rfl ?_
  refine g_iconst (v := 0) C (gd DX10_uses_0 29 rfl) (by decide) ?_
  refine g_istore (lv' := [(0, _), (1, _), (2, _), (3, _), (4, _), (5, _), (6, _)]) C (gd DX10_uses_0 30 rfl) [1, 2, 3, 4, 5, 6, 0] (by decide) rfl ?_
  exact loop N 0 (by omega)
theorem e_m_keeps {nt na np nf : Nat} {fw : Nat → Nat} (ok : mOK m h nt na np nf fw) (p a : Int32) :
    Ev w 7 0 0 yX10_keeps cX10_keeps 5 (some .int) [.ref m, .int p, .int a] h (fun r' h' => (¬ (0 ≤ a ∧ a ≤ allF (nI nt)) ∧ r' = some (.int (-1)) ∧ pQ m h h' 1) ∨ ((0 ≤ a ∧ a ≤ allF (nI nt)) ∧ ¬ (0 ≤ p ∧ p ≤ nI np - 1) ∧ r' = some (.int (-1)) ∧ pQ m h h' 2) ∨ ((0 ≤ a ∧ a ≤ allF (nI nt)) ∧ ∃ r, r < np ∧ p = nI r ∧ ∃ h1 N i, LDU (P1 m h nf r) m h1 N ∧ kpS m h1 N (2 ^ nt) a (i + 1) = kpS m h1 N (2 ^ nt) a i ∧ r' = some (.int (kpS m h1 N (2 ^ nt) a i)) ∧ pQ m h h' 0)) := by
  obtain ⟨hm, hnt, hna, hnp, hF, hw⟩ := ok
  refine g_start (by decide) (Nat.le_of_ble_eq_true rfl) [(0, _), (1, _), (2, _)] rfl (fun z hfl C => ?_)
  refine g_aload_n C (gd DX10_keeps_0 0 rfl) 0 rfl rfl ?_
  refine g_iload_n C (gd DX10_keeps_0 1 rfl) 2 rfl rfl ?_
  refine g_cV1 (ci := 10) C [_] mX10_areAtoms lm_TestJudgeModel_478 (by exact hm.1) rfl rfl (e_m_areAtoms hm _) hfl (by decide) (by decide) (by omega) (by omega) rfl rfl (Nat.le_of_ble_eq_true rfl) (gd DX10_keeps_0 2 rfl) ?_
  rw [hnt.2]
  by_cases ha : 0 ≤ a ∧ a ≤ allF (nI nt)
  rotate_left
  · rw [b1_f ha]
    refine g_if_ne C 14 (gd DX10_keeps_0 3 rfl) (by decide) (fun c5 => ?_) (fun c5 => ?_)
    · exact absurd rfl c5
    · refine g_aload_n C (gd DX10_keeps_0 4 rfl) 0 rfl rfl ?_
      refine g_iconst (v := 1) C (gd DX10_keeps_0 5 rfl) (by decide) ?_
      refine g_cV1 (ci := 10) C [_] mX10_refuse lm_TestJudgeModel_331 (by exact hm.1) rfl rfl (e_m_refuse hm _) hfl (by decide) (by decide) (by omega) (by omega) rfl rfl (Nat.le_of_ble_eq_true rfl) (gd DX10_keeps_0 6 rfl) ?_
      exact g_iret C (by omega) (by omega) (Or.inl ⟨ha, rfl, (mKp.rf m h).q 1⟩) (gd DX10_keeps_0 7 rfl)
  rw [b1_t ha]
  refine g_if_ne C 14 (gd DX10_keeps_0 3 rfl) (by decide) (fun c5 => ?_) (fun c5 => ?_)
  rotate_left
  · exact absurd c5 (by decide)
  refine g_aload_n C (gd DX10_keeps_0 8 rfl) 0 rfl rfl ?_
  refine g_iload_n C (gd DX10_keeps_0 9 rfl) 1 rfl rfl ?_
  refine g_cV1 (ci := 10) C [_] mX10_isProgram lm_TestJudgeModel_116 (by exact hm.1) rfl rfl (e_m_isProgram hm _) hfl (by decide) (by decide) (by omega) (by omega) rfl rfl (Nat.le_of_ble_eq_true rfl) (gd DX10_keeps_0 10 rfl) ?_
  rw [hnp.2]
  by_cases hp : 0 ≤ p ∧ p ≤ nI np - 1
  rotate_left
  · rw [b1_f hp]
    refine g_if_ne C 28 (gd DX10_keeps_0 11 rfl) (by decide) (fun c19 => ?_) (fun c19 => ?_)
    · exact absurd rfl c19
    · refine g_aload_n C (gd DX10_keeps_0 12 rfl) 0 rfl rfl ?_
      refine g_iconst (v := 2) C (gd DX10_keeps_0 13 rfl) (by decide) ?_
      refine g_cV1 (ci := 10) C [_] mX10_refuse lm_TestJudgeModel_331 (by exact hm.1) rfl rfl (e_m_refuse hm _) hfl (by decide) (by decide) (by omega) (by omega) rfl rfl (Nat.le_of_ble_eq_true rfl) (gd DX10_keeps_0 14 rfl) ?_
      exact g_iret C (by omega) (by omega) (Or.inr (Or.inl ⟨ha, hp, rfl, (mKp.rf m h).q 2⟩)) (gd DX10_keeps_0 15 rfl)
  rw [b1_t hp]
  refine g_if_ne C 28 (gd DX10_keeps_0 11 rfl) (by decide) (fun c19 => ?_) (fun c19 => ?_)
  rotate_left
  · exact absurd c19 (by decide)
  obtain ⟨r, hr, rfl⟩ := below_of (by omega) hp
  obtain ⟨wr, lr, hwr⟩ := hw r hr
  refine g_aload_n C (gd DX10_keeps_0 16 rfl) 0 rfl rfl ?_
  refine g_iload_n C (gd DX10_keeps_0 17 rfl) 1 rfl rfl ?_
  refine g_callV (ci := 10) C [_] mX10_laysOne lm_TestJudgeModel_396 (by exact hm.1) rfl rfl (e_m_laysOne hm hF (by omega : r < 8) lr hwr) hfl (by decide) (by decide) (by omega) (by omega) rfl rfl (Nat.le_of_ble_eq_true rfl) (gd DX10_keeps_0 18 rfl) (fun r h2 hp => ?_)
  obtain ⟨rfl, hl⟩ := hp
  obtain ⟨N, hL, hk1⟩ := lay_1 hF (by omega : r < 8) lr hwr hl
  have g := hL.1.gok
  have hg1 := g.1
  have hm2 : mSh m h2 := hm.fr hk1.1
  have hte : hI h2 m 2 = nI nt := by rw [hk1.2.1 2 (by omega) (by omega) (by omega)]; exact hnt.2
  have hp8 : 2 ^ nt ≤ 8 := by rcases (show nt = 0 ∨ nt = 1 ∨ nt = 2 ∨ nt = 3 by omega) with e | e | e | e <;> rw [e] <;> decide
  show GW z w 5 _ 0 0 _ _ [] _
  generalize hS : kpS m h2 N (2 ^ nt) a = S
  have S0 : S 0 = a := by rw [← hS]; rfl
  have Ss : ∀ i, S (i + 1) = bitF (wkP m h2 N (S i) (S i)) (2 ^ nt) := fun i => by rw [← hS]; rfl
  have Sin : ∀ i x, x < 32 → hasB (S i) (nI x) → x < 2 ^ nt := by
    intro i x hx hb
    cases i with
    | zero => rw [S0] at hb; exact allF_b hnt.1 ha hx hb
    | succ i => rw [Ss, hasB_bitF (by omega) hx] at hb; exact hb.1
  have Ssub : ∀ i x, x < 8 → hasB (S (i + 1)) (nI x) → hasB (S i) (nI x) := by
    intro i x hx hb
    rw [Ss, hasB_bitF (by omega) (by omega)] at hb
    exact hb.2.1
  generalize hQ : (gQ z w 0 0 _) = Q
  have fin : ∀ i MT LN (v : Int32), S (i + 1) = S i → GW z w 5 Q 0 0 57 [(0, .ref m), (1, .int (nI r)), (2, .int a), (3, .int (S (i + 1))), (4, .int v)] [] (hB2 m h2 MT LN) := by
    intro i MT LN v e
    refine g_aload_n C (gd DX10_keeps_0 34 rfl) 0 rfl rfl ?_
    refine g_iload_n C (gd DX10_keeps_0 35 rfl) 3 rfl rfl ?_
    refine g_cV1 (ci := 10) C [_] mX10_gives lm_TestJudgeModel_349 (by exact hm2.1) rfl rfl (e_m_gives (h := hB2 m h2 MT LN) (by exact hm2) _) hfl (by decide) (by decide) (by omega) (by omega) rfl rfl (Nat.le_of_ble_eq_true rfl) (gd DX10_keeps_0 36 rfl) ?_
    rw [← hQ]
    exact g_iret C (by omega) (by omega) (Or.inr (Or.inr ⟨ha, r, hr, rfl, _, N, i, hL, by rw [hS]; exact e, by rw [hS, e], (hk1.tr (mKp_B2 m _ MT LN)).q 0⟩)) (gd DX10_keeps_0 37 rfl)
  have loop : ∀ c i MT LN (was : Int32), cntB (S i) 8 ≤ c → ¬ S i = was → GW z w 5 Q 0 0 38 [(0, .ref m), (1, .int (nI r)), (2, .int a), (3, .int (S i)), (4, .int was)] [] (hB2 m h2 MT LN) := by
    intro c
    induction c with
    | zero =>
      intro i MT LN was hc hne
      refine g_iload_n C (gd DX10_keeps_0 23 rfl) 3 rfl rfl ?_
      refine g_iload C (gd DX10_keeps_0 24 rfl) 4 rfl ?_
      refine g_icmp_eq C 57 (gd DX10_keeps_0 25 rfl) (by decide) (fun c41 => ?_) (fun c41 => ?_)
      · exact absurd c41 hne
      · refine g_iload_n C (gd DX10_keeps_0 26 rfl) 3 rfl rfl ?_
        refine g_istore (lv' := [(0, _), (1, _), (2, _), (3, _), (4, _)]) C (gd DX10_keeps_0 27 rfl) [1, 2, 3, 4, 0] (by decide) rfl ?_
        refine g_aload_n C (gd DX10_keeps_0 28 rfl) 0 rfl rfl ?_
        refine g_iload_n C (gd DX10_keeps_0 29 rfl) 3 rfl rfl ?_
        refine g_iload_n C (gd DX10_keeps_0 30 rfl) 3 rfl rfl ?_
        refine g_callV (ci := 10) C [_, _] mX10_weakestOf lm_TestJudgeModel_484 (by exact hm2.1) rfl rfl (e_m_weakestOf (h := hB2 m h2 MT LN) (by exact hm2) (g.congr (by rw [hB2_ne (by omega) (by omega)]) (hB2_ne (by omega) (by omega))) hL.1.2.1 hnt.1 (by rw [hB2_ne (by omega) (by omega)]; exact hte) (S i) (S i)) hfl (by decide) (by decide) (by omega) (by omega) rfl rfl (Nat.le_of_ble_eq_true rfl) (gd DX10_keeps_0 31 rfl) (fun r h2 hp => ?_)
        obtain ⟨MT', LN', rfl, rfl⟩ := hp
        rw [hB2_hB2, wkP_B2, ← Ss]
        show GW z w 5 _ 0 0 _ _ [.int (S (i + 1))] _
        have e : S (i + 1) = S i := hasB_ext (fun x hx => ⟨fun q => Ssub i x (by have := Sin (i + 1) x hx q; omega) q, fun q => cntB_eq (s := S (i + 1)) (s' := S i) (n0 := 8) (fun y hy => Ssub i y hy) 8 (Nat.le_refl _) (by omega) x (by have := Sin i x hx q; omega) q⟩)
        refine g_istore_n (lv' := [(0, _), (1, _), (2, _), (3, _), (4, _)]) C (gd DX10_keeps_0 32 rfl) [1, 2, 3, 0, 4] rfl (by decide) rfl ?_
        refine g_goto (tgt := 38) C (gd DX10_keeps_0 33 rfl) (by decide) ?_
        refine g_iload_n C (gd DX10_keeps_0 23 rfl) 3 rfl rfl ?_
        refine g_iload C (gd DX10_keeps_0 24 rfl) 4 rfl ?_
        refine g_icmp_eq C 57 (gd DX10_keeps_0 25 rfl) (by decide) (fun c41 => ?_) (fun c41 => ?_)
        · exact fin i MT' LN' _ e
        · exact absurd e c41
    | succ c ih =>
      intro i MT LN was hc hne
      refine g_iload_n C (gd DX10_keeps_0 23 rfl) 3 rfl rfl ?_
      refine g_iload C (gd DX10_keeps_0 24 rfl) 4 rfl ?_
      refine g_icmp_eq C 57 (gd DX10_keeps_0 25 rfl) (by decide) (fun c41 => ?_) (fun c41 => ?_)
      · exact absurd c41 hne
      · refine g_iload_n C (gd DX10_keeps_0 26 rfl) 3 rfl rfl ?_
        refine g_istore (lv' := [(0, _), (1, _), (2, _), (3, _), (4, _)]) C (gd DX10_keeps_0 27 rfl) [1, 2, 3, 4, 0] (by decide) rfl ?_
        refine g_aload_n C (gd DX10_keeps_0 28 rfl) 0 rfl rfl ?_
        refine g_iload_n C (gd DX10_keeps_0 29 rfl) 3 rfl rfl ?_
        refine g_iload_n C (gd DX10_keeps_0 30 rfl) 3 rfl rfl ?_
        refine g_callV (ci := 10) C [_, _] mX10_weakestOf lm_TestJudgeModel_484 (by exact hm2.1) rfl rfl (e_m_weakestOf (h := hB2 m h2 MT LN) (by exact hm2) (g.congr (by rw [hB2_ne (by omega) (by omega)]) (hB2_ne (by omega) (by omega))) hL.1.2.1 hnt.1 (by rw [hB2_ne (by omega) (by omega)]; exact hte) (S i) (S i)) hfl (by decide) (by decide) (by omega) (by omega) rfl rfl (Nat.le_of_ble_eq_true rfl) (gd DX10_keeps_0 31 rfl) (fun r h2 hp => ?_)
        obtain ⟨MT', LN', rfl, rfl⟩ := hp
        rw [hB2_hB2, wkP_B2, ← Ss]
        show GW z w 5 _ 0 0 _ _ [.int (S (i + 1))] _
        refine g_istore_n (lv' := [(0, _), (1, _), (2, _), (3, _), (4, _)]) C (gd DX10_keeps_0 32 rfl) [1, 2, 3, 0, 4] rfl (by decide) rfl ?_
        refine g_goto (tgt := 38) C (gd DX10_keeps_0 33 rfl) (by decide) ?_
        by_cases e : S (i + 1) = S i
        · refine g_iload_n C (gd DX10_keeps_0 23 rfl) 3 rfl rfl ?_
          refine g_iload C (gd DX10_keeps_0 24 rfl) 4 rfl ?_
          refine g_icmp_eq C 57 (gd DX10_keeps_0 25 rfl) (by decide) (fun c41 => ?_) (fun c41 => ?_)
          · exact fin i MT' LN' _ e
          · exact absurd e c41
        · refine ih (i + 1) MT' LN' (S i) ?_ e
          by_cases hlt : cntB (S (i + 1)) 8 < cntB (S i) 8
          · omega
          · exact absurd (hasB_ext (fun x hx => ⟨fun q => Ssub i x (by have := Sin (i + 1) x hx q; omega) q, fun q => cntB_eq (s := S (i + 1)) (s' := S i) (n0 := 8) (fun y hy => Ssub i y hy) 8 (Nat.le_refl _) (by omega) x (by have := Sin i x hx q; omega) q⟩)) e
  refine g_iload_n C (gd DX10_keeps_0 19 rfl) 2 rfl rfl ?_
  refine g_istore_n (lv' := [(0, _), (1, _), (2, _), (3, _)]) C (gd DX10_keeps_0 20 rfl) [1, 2, 3, 0] rfl (by decide) rfl ?_
  refine g_iconst (v := -1) C (gd DX10_keeps_0 21 rfl) (by decide) ?_
  refine g_istore (lv' := [(0, _), (1, _), (2, _), (3, _), (4, _)]) C (gd DX10_keeps_0 22 rfl) [1, 2, 3, 4, 0] (by decide) rfl ?_
  refine GW.cast (by rw [← S0]) rfl (hB2_self m h2).symm (loop (cntB (S 0) 8) 0 _ _ (-1) (Nat.le_refl _) ?_)
  rw [S0]
  intro q
  rw [q] at ha
  exact absurd ha.1 (by decide)
theorem e_m_many {nt na np nf : Nat} {fw : Nat → Nat} (ok : mOK m h nt na np nf fw) (k : Int32) :
    Ev w 5 0 0 yX10_many cX10_many 2 (some .int) [.ref m, .int k] h (fun r' h' => (¬ (0 ≤ k ∧ k ≤ 7) ∧ r' = some (.int (-1)) ∧ pQ m h h' 1) ∨ ((0 ≤ k ∧ k ≤ 7) ∧ r' = some (.int (if k = 0 then hI h m 2 else if k = 1 then hI h m 3 else if k = 2 then hI h m 4 else if k = 3 then hI h m 5 else if k = 4 then atF (hI h m 2) else if k = 5 then hI h m 6 else if k = 6 then hI h m 7 else fbA (hI h m 6) (mFc m h) nf 1)) ∧ pQ m h h' 0)) := by
  obtain ⟨hm, hnt, hna, hnp, hF, hw⟩ := ok
  refine g_start (by decide) (Nat.le_of_ble_eq_true rfl) [(0, _), (1, _)] rfl (fun z hfl C => ?_)
  refine g_iload_n C (gd DX10_many_0 0 rfl) 1 rfl rfl ?_
  by_cases hk : 0 ≤ k ∧ k ≤ 7
  · have hk0 := hk
    obtain ⟨j, hj, rfl⟩ : ∃ j, j < 8 ∧ k = nI j := below_of (n := 8) (by omega) hk
    rcases (show j = 0 ∨ j = 1 ∨ j = 2 ∨ j = 3 ∨ j = 4 ∨ j = 5 ∨ j = 6 ∨ j = 7 by omega) with rfl | rfl | rfl | rfl | rfl | rfl | rfl | rfl
    · refine g_tableIn C 48 (gd DX10_many_0 1 rfl) (by decide) (by decide) rfl (by decide) ?_
      refine g_aload_n C (gd DX10_many_0 2 rfl) 0 rfl rfl ?_
      refine g_aload_n C (gd DX10_many_0 3 rfl) 0 rfl rfl ?_
      refine g_geti (ci := 10) (k := 2) C rfl (by decide) rfl lf_TestJudgeModel_337 hm.1 (gd DX10_many_0 4 rfl) ?_
      refine g_cV1 (ci := 10) C [_] mX10_gives lm_TestJudgeModel_349 (by exact hm.1) rfl rfl (e_m_gives hm _) hfl (by decide) (by decide) (by omega) (by omega) rfl rfl (Nat.le_of_ble_eq_true rfl) (gd DX10_many_0 5 rfl) ?_
      exact g_iret C (by omega) (by omega) (Or.inr ⟨hk0, rfl, (mKp.rf m h).q 0⟩) (gd DX10_many_0 6 rfl)
    · refine g_tableIn C 57 (gd DX10_many_0 1 rfl) (by decide) (by decide) rfl (by decide) ?_
      refine g_aload_n C (gd DX10_many_0 7 rfl) 0 rfl rfl ?_
      refine g_aload_n C (gd DX10_many_0 8 rfl) 0 rfl rfl ?_
      refine g_geti (ci := 10) (k := 3) C rfl (by decide) rfl lf_TestJudgeModel_340 hm.1 (gd DX10_many_0 9 rfl) ?_
      refine g_cV1 (ci := 10) C [_] mX10_gives lm_TestJudgeModel_349 (by exact hm.1) rfl rfl (e_m_gives hm _) hfl (by decide) (by decide) (by omega) (by omega) rfl rfl (Nat.le_of_ble_eq_true rfl) (gd DX10_many_0 10 rfl) ?_
      exact g_iret C (by omega) (by omega) (Or.inr ⟨hk0, rfl, (mKp.rf m h).q 0⟩) (gd DX10_many_0 11 rfl)
    · refine g_tableIn C 66 (gd DX10_many_0 1 rfl) (by decide) (by decide) rfl (by decide) ?_
      refine g_aload_n C (gd DX10_many_0 12 rfl) 0 rfl rfl ?_
      refine g_aload_n C (gd DX10_many_0 13 rfl) 0 rfl rfl ?_
      refine g_geti (ci := 10) (k := 4) C rfl (by decide) rfl lf_TestJudgeModel_109 hm.1 (gd DX10_many_0 14 rfl) ?_
      refine g_cV1 (ci := 10) C [_] mX10_gives lm_TestJudgeModel_349 (by exact hm.1) rfl rfl (e_m_gives hm _) hfl (by decide) (by decide) (by omega) (by omega) rfl rfl (Nat.le_of_ble_eq_true rfl) (gd DX10_many_0 15 rfl) ?_
      exact g_iret C (by omega) (by omega) (Or.inr ⟨hk0, rfl, (mKp.rf m h).q 0⟩) (gd DX10_many_0 16 rfl)
    · refine g_tableIn C 75 (gd DX10_many_0 1 rfl) (by decide) (by decide) rfl (by decide) ?_
      refine g_aload_n C (gd DX10_many_0 17 rfl) 0 rfl rfl ?_
      refine g_aload_n C (gd DX10_many_0 18 rfl) 0 rfl rfl ?_
      refine g_geti (ci := 10) (k := 5) C rfl (by decide) rfl lf_TestJudgeModel_120 hm.1 (gd DX10_many_0 19 rfl) ?_
      refine g_cV1 (ci := 10) C [_] mX10_gives lm_TestJudgeModel_349 (by exact hm.1) rfl rfl (e_m_gives hm _) hfl (by decide) (by decide) (by omega) (by omega) rfl rfl (Nat.le_of_ble_eq_true rfl) (gd DX10_many_0 20 rfl) ?_
      exact g_iret C (by omega) (by omega) (Or.inr ⟨hk0, rfl, (mKp.rf m h).q 0⟩) (gd DX10_many_0 21 rfl)
    · refine g_tableIn C 84 (gd DX10_many_0 1 rfl) (by decide) (by decide) rfl (by decide) ?_
      refine g_aload_n C (gd DX10_many_0 22 rfl) 0 rfl rfl ?_
      refine g_aload_n C (gd DX10_many_0 23 rfl) 0 rfl rfl ?_
      refine g_cV1 (ci := 10) C [] mX10_atoms lm_TestJudgeModel_352 (by exact hm.1) rfl rfl (e_m_atoms hm) hfl (by decide) (by decide) (by omega) (by omega) rfl rfl (Nat.le_of_ble_eq_true rfl) (gd DX10_many_0 24 rfl) ?_
      refine g_cV1 (ci := 10) C [_] mX10_gives lm_TestJudgeModel_349 (by exact hm.1) rfl rfl (e_m_gives hm _) hfl (by decide) (by decide) (by omega) (by omega) rfl rfl (Nat.le_of_ble_eq_true rfl) (gd DX10_many_0 25 rfl) ?_
      exact g_iret C (by omega) (by omega) (Or.inr ⟨hk0, rfl, (mKp.rf m h).q 0⟩) (gd DX10_many_0 26 rfl)
    · refine g_tableIn C 93 (gd DX10_many_0 1 rfl) (by decide) (by decide) rfl (by decide) ?_
      refine g_aload_n C (gd DX10_many_0 27 rfl) 0 rfl rfl ?_
      refine g_aload_n C (gd DX10_many_0 28 rfl) 0 rfl rfl ?_
      refine g_geti (ci := 10) (k := 6) C rfl (by decide) rfl lf_TestJudgeModel_343 hm.1 (gd DX10_many_0 29 rfl) ?_
      refine g_cV1 (ci := 10) C [_] mX10_gives lm_TestJudgeModel_349 (by exact hm.1) rfl rfl (e_m_gives hm _) hfl (by decide) (by decide) (by omega) (by omega) rfl rfl (Nat.le_of_ble_eq_true rfl) (gd DX10_many_0 30 rfl) ?_
      exact g_iret C (by omega) (by omega) (Or.inr ⟨hk0, rfl, (mKp.rf m h).q 0⟩) (gd DX10_many_0 31 rfl)
    · refine g_tableIn C 102 (gd DX10_many_0 1 rfl) (by decide) (by decide) rfl (by decide) ?_
      refine g_aload_n C (gd DX10_many_0 32 rfl) 0 rfl rfl ?_
      refine g_aload_n C (gd DX10_many_0 33 rfl) 0 rfl rfl ?_
      refine g_geti (ci := 10) (k := 7) C rfl (by decide) rfl lf_TestJudgeModel_346 hm.1 (gd DX10_many_0 34 rfl) ?_
      refine g_cV1 (ci := 10) C [_] mX10_gives lm_TestJudgeModel_349 (by exact hm.1) rfl rfl (e_m_gives hm _) hfl (by decide) (by decide) (by omega) (by omega) rfl rfl (Nat.le_of_ble_eq_true rfl) (gd DX10_many_0 35 rfl) ?_
      exact g_iret C (by omega) (by omega) (Or.inr ⟨hk0, rfl, (mKp.rf m h).q 0⟩) (gd DX10_many_0 36 rfl)
    · have hfa : ∀ f, f < nf → ∃ a, a ≤ 16 ∧ gRec (hI h (m + 1)) (8 + f) 0 = nI a := fun f hf => by
        refine ⟨fw f, ?_, hF.2.2.1 f hf⟩
        have := hF.2.2.2
        have := hF.1
        rcases (show f = 0 ∨ f = 1 by omega) with rfl | rfl <;> omega
      refine g_tableIn C 111 (gd DX10_many_0 1 rfl) (by decide) (by decide) rfl (by decide) ?_
      refine g_aload_n C (gd DX10_many_0 37 rfl) 0 rfl rfl ?_
      refine g_aload_n C (gd DX10_many_0 38 rfl) 0 rfl rfl ?_
      refine g_geti (ci := 10) (k := 6) C rfl (by decide) rfl lf_TestJudgeModel_343 hm.1 (gd DX10_many_0 39 rfl) ?_
      refine g_cV0 (v := .null) (ci := 10) C [_] mX10_laysForbidden lm_TestJudgeModel_360 (by exact hm.1) rfl rfl (e_m_laysForbidden hm hF.1 hF.2.1 hfa _) hfl (by decide) (by decide) (by omega) (by omega) rfl rfl (Nat.le_of_ble_eq_true rfl) (gd DX10_many_0 40 rfl) ?_
      generalize hh : sF h (m + 1) (fbR (hI h m 6) (hI h (m + 1)) nf) = h2
      have k1 : mKp m h h2 := by
        rw [← hh]
        refine mKp.of ⟨rfl, rfl, rfl, rfl⟩ (fun b j g1 g2 g3 g4 => by rw [hI_sF_ne g4]) (fun r k hr hk => ?_)
        rw [hI_sF_eq, fbR_other hk (by omega) (by omega)]
      have hm2 : mSh m h2 := hm.fr k1.1
      refine g_aload_n C (gd DX10_many_0 41 rfl) 0 rfl rfl ?_
      refine g_aload_n C (gd DX10_many_0 42 rfl) 0 rfl rfl ?_
      refine g_bipush (v := 90) C (gd DX10_many_0 43 rfl) (by decide) ?_
      refine g_iconst (v := 1) C (gd DX10_many_0 44 rfl) (by decide) ?_
      refine g_cV1 (ci := 10) C [_, _] mX10_at lm_TestJudgeModel_131 (by exact hm2.1) rfl rfl (e_atH (x := 90) (k := 1) hm2 (by omega) (by omega) rfl rfl) hfl (by decide) (by decide) (by omega) (by omega) rfl rfl (Nat.le_of_ble_eq_true rfl) (gd DX10_many_0 45 rfl) ?_
      refine g_cV1 (ci := 10) C [_] mX10_gives lm_TestJudgeModel_349 (by exact hm2.1) rfl rfl (e_m_gives hm2 _) hfl (by decide) (by decide) (by omega) (by omega) rfl rfl (Nat.le_of_ble_eq_true rfl) (gd DX10_many_0 46 rfl) ?_
      have e90 : gRec (hI h2 (m + 1)) 90 1 = fbA (hI h m 6) (mFc m h) nf 1 := by
        rw [← hh, hI_sF_eq]
        exact fbR_A _ _ nf hF.1 1 (by omega)
      exact g_iret C (by omega) (by omega) (Or.inr ⟨hk0, by rw [e90]; rfl, k1.q 0⟩) (gd DX10_many_0 47 rfl)
  · have ho : k.toInt < 0 ∨ 7 < k.toInt := by
      by_cases e : k.toInt < 0
      · exact Or.inl e
      · refine Or.inr (Classical.byContradiction (fun q => hk ⟨?_, ?_⟩))
        · exact Int32.le_iff_toInt_le.mpr (by rw [show (0 : Int32).toInt = 0 from by decide]; omega)
        · exact Int32.le_iff_toInt_le.mpr (by rw [show (7 : Int32).toInt = 7 from by decide]; omega)
    refine g_tableOut C 131 (gd DX10_many_0 1 rfl) ho (by decide) ?_
    refine g_aload_n C (gd DX10_many_0 48 rfl) 0 rfl rfl ?_
    refine g_iconst (v := 1) C (gd DX10_many_0 49 rfl) (by decide) ?_
    refine g_cV1 (ci := 10) C [_] mX10_refuse lm_TestJudgeModel_331 (by exact hm.1) rfl rfl (e_m_refuse hm _) hfl (by decide) (by decide) (by omega) (by omega) rfl rfl (Nat.le_of_ble_eq_true rfl) (gd DX10_many_0 50 rfl) ?_
    exact g_iret C (by omega) (by omega) (Or.inl ⟨hk, rfl, (mKp.rf m h).q 1⟩) (gd DX10_many_0 51 rfl)
end M39
