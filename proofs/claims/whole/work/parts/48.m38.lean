/-! leastSame, same, kinds, needs, fewest, swaps -/
noncomputable def kdN (E : Nat → Nat → Prop) : Nat → Nat
  | 0 => 0
  | p + 1 => kdN E p + @ite _ (∀ t, t < p → ¬ E p t) (Classical.propDecidable _) 1 0
noncomputable def fwB (E : Nat → Prop) : Nat → Int32
  | 0 => -1
  | k + 1 => @ite _ ((fwB E k = -1 ∨ bitN (nI k) < bitN (fwB E k)) ∧ E k) (Classical.propDecidable _) (nI k) (fwB E k)
theorem fwB_n (E : Nat → Prop) : ∀ k, fwB E k = -1 ∨ ∃ b, b < k ∧ fwB E k = nI b := by
  intro k
  induction k with
  | zero => exact Or.inl rfl
  | succ k ih =>
    unfold fwB
    split
    · exact Or.inr ⟨k, by omega, rfl⟩
    · rcases ih with q | ⟨b, hb, q⟩
      · exact Or.inl q
      · exact Or.inr ⟨b, by omega, q⟩
theorem kdN_t {E : Nat → Nat → Prop} {p : Nat} (h : ∀ t, t < p → ¬ E p t) : kdN E (p + 1) = kdN E p + 1 := by rw [kdN, if_pos h]
theorem kdN_f {E : Nat → Nat → Prop} {p : Nat} (h : ¬ ∀ t, t < p → ¬ E p t) : kdN E (p + 1) = kdN E p + 0 := by rw [kdN, if_neg h]
theorem fwB_t {E : Nat → Prop} {k : Nat} (h : (fwB E k = -1 ∨ bitN (nI k) < bitN (fwB E k)) ∧ E k) : fwB E (k + 1) = nI k := by rw [fwB, if_pos h]
theorem fwB_f {E : Nat → Prop} {k : Nat} (h : ¬ ((fwB E k = -1 ∨ bitN (nI k) < bitN (fwB E k)) ∧ E k)) : fwB E (k + 1) = fwB E k := by rw [fwB, if_neg h]
theorem kdN_le (E : Nat → Nat → Prop) : ∀ p, kdN E p ≤ p := by
  intro p
  induction p with
  | zero => exact Nat.le_refl _
  | succ p ih => unfold kdN; split <;> omega
section M38
variable {w : gD} {m : Nat} {h : HS}
theorem r_areEqualBy {nt na np nf : Nat} {fw : Nat → Nat} (ok : mOK m h nt na np nf fw) {r q : Nat} (hr : r < np) (hq : q < np) (s : Int32) :
    Ev w 6 0 0 yX10_areEqualBy cX10_areEqualBy 4 (some .boolean) [.ref m, .int (nI r), .int (nI q), .int s] h (fun r' h' => mKp m h h' ∧ (r' = some (.int 1) ∧ kEq (P2s m h nf s r q) ∨ r' = some (.int 0) ∧ ¬ kEq (P2s m h nf s r q))) := by
  obtain ⟨hm, hnt, hna, hnp, hF, hw⟩ := ok
  obtain ⟨wr, lr, hwr⟩ := hw r hr
  obtain ⟨wo, lo, hwo⟩ := hw q hq
  refine (e_m_areEqualBy hm hF (by omega : r < 8) (by omega : q < 8) s lr lo hwr hwo).to (fun r' h' hp => ?_)
  obtain ⟨hl, N, hN, hst, hv⟩ := hp
  obtain ⟨N2, hL, hk⟩ := lay_2s hF (by omega : r < 8) (by omega : q < 8) lr lo hwr hwo hl
  have g := hL.1.gok
  have hg1 := g.1
  have e : N = N2 := (nI_eq (by omega) (by omega)).mp (hst.symm.trans g.2.1)
  subst e
  refine ⟨hk, ?_⟩
  rcases hv with ⟨e1, e2⟩ | ⟨e1, t, ht, e2⟩
  · exact Or.inl ⟨e1, hL.1.eq_iff.mpr e2⟩
  · exact Or.inr ⟨e1, fun x => e2 (hL.1.eq_iff.mp x t ht)⟩
theorem r_areEqual {nt na np nf : Nat} {fw : Nat → Nat} (ok : mOK m h nt na np nf fw) {r q : Nat} (hr : r < np) (hq : q < np) :
    Ev w 7 0 0 yX10_areEqual cX10_areEqual 3 (some .boolean) [.ref m, .int (nI r), .int (nI q)] h (fun r' h' => mKp m h h' ∧ (r' = some (.int 1) ∧ kEq (P2 m h nf r q) ∨ r' = some (.int 0) ∧ ¬ kEq (P2 m h nf r q))) := by
  obtain ⟨hm, hnt, hna, hnp, hF, hw⟩ := ok
  obtain ⟨wr, lr, hwr⟩ := hw r hr
  obtain ⟨wo, lo, hwo⟩ := hw q hq
  refine (e_m_areEqual hm hF (by omega : r < 8) (by omega : q < 8) lr lo hwr hwo).to (fun r' h' hp => ?_)
  obtain ⟨hl, N, hN, hst, hv⟩ := hp
  obtain ⟨N2, hL, hk⟩ := lay_2 hF (by omega : r < 8) (by omega : q < 8) lr lo hwr hwo hl
  have g := hL.1.gok
  have hg1 := g.1
  have e : N = N2 := (nI_eq (by omega) (by omega)).mp (hst.symm.trans g.2.1)
  subst e
  refine ⟨hk, ?_⟩
  rcases hv with ⟨e1, e2⟩ | ⟨e1, t, ht, e2⟩
  · exact Or.inl ⟨e1, hL.1.eq_iff.mpr e2⟩
  · exact Or.inr ⟨e1, fun x => e2 (hL.1.eq_iff.mp x t ht)⟩
theorem e_m_leastSame {nt na np nf : Nat} {fw : Nat → Nat} (ok : mOK m h nt na np nf fw) {r : Nat} (hr : r < np) :
    Ev w 8 0 0 yX10_leastSame cX10_leastSame 3 (some .int) [.ref m, .int (nI r)] h (fun r' h' => mKp m h h' ∧ ∃ o, o ≤ r ∧ (o = r ∨ kEq (P2 m h nf r o)) ∧ (∀ t, t < o → ¬ kEq (P2 m h nf r t)) ∧ r' = some (.int (nI o))) := by
  refine g_start (by decide) (Nat.le_of_ble_eq_true rfl) [(0, _), (1, _)] rfl (fun z hfl C => ?_)
  have hnp := ok.2.2.2.1
  have hnf := ok.2.2.2.2.1.1
  have loop : ∀ y o h1, o + y = r → mKp m h h1 → (∀ t, t < o → ¬ kEq (P2 m h nf r t)) → GW z w 3 (gQ z w 0 0 (fun r' h'' => mKp m h h'' ∧ ∃ o, o ≤ r ∧ (o = r ∨ kEq (P2 m h nf r o)) ∧ (∀ t, t < o → ¬ kEq (P2 m h nf r t)) ∧ r' = some (.int (nI o)))) 0 0 2 [(0, .ref m), (1, .int (nI r)), (2, .int (nI o))] [] h1 := by
    intro y
    induction y with
    | zero =>
      intro o h1 ho k1 ha
      refine g_iload_n C (gd DX10_leastSame_0 2 rfl) 2 rfl rfl ?_
      refine g_iload_n C (gd DX10_leastSame_0 3 rfl) 1 rfl rfl ?_
      refine g_icmp_ge C 22 (gd DX10_leastSame_0 4 rfl) (by decide) (fun c4 => ?_) (fun c4 => ?_)
      · refine g_iload_n C (gd DX10_leastSame_0 12 rfl) 2 rfl rfl ?_
        exact g_iret C (by omega) (by omega) ⟨k1, o, by omega, Or.inl (by omega), ha, rfl⟩ (gd DX10_leastSame_0 13 rfl)
      · exact absurd (nI_le (a := r) (b := o) (by omega) (by omega)) c4
    | succ y ih =>
      intro o h1 ho k1 ha
      have ok1 := ok.kp k1
      have hm1 := ok1.1
      refine g_iload_n C (gd DX10_leastSame_0 2 rfl) 2 rfl rfl ?_
      refine g_iload_n C (gd DX10_leastSame_0 3 rfl) 1 rfl rfl ?_
      refine g_icmp_ge C 22 (gd DX10_leastSame_0 4 rfl) (by decide) (fun c4 => ?_) (fun c4 => ?_)
      · exact absurd c4 (nI_ge (a := o) (b := r) (by omega) (by omega))
      · refine g_aload_n C (gd DX10_leastSame_0 5 rfl) 0 rfl rfl ?_
        refine g_iload_n C (gd DX10_leastSame_0 6 rfl) 1 rfl rfl ?_
        refine g_iload_n C (gd DX10_leastSame_0 7 rfl) 2 rfl rfl ?_
        refine g_callV (ci := 10) C [_, _] mX10_areEqual lm_TestJudgeModel_437 (by exact hm1.1) rfl rfl (r_areEqual ok1 hr (by omega : o < np)) hfl (by decide) (by decide) (by omega) (by omega) rfl rfl (Nat.le_of_ble_eq_true rfl) (gd DX10_leastSame_0 8 rfl) (fun r h2 hp => ?_)
        rw [P2_kp k1 hnf (by omega) (by omega)] at hp
        obtain ⟨k2, hp⟩ := hp
        rcases hp with ⟨rfl, e⟩ | ⟨rfl, e⟩
        · show GW z w 3 _ 0 0 _ _ [.int 1] _
          refine g_if_ne C 22 (gd DX10_leastSame_0 9 rfl) (by decide) (fun c13 => ?_) (fun c13 => ?_)
          · refine g_iload_n C (gd DX10_leastSame_0 12 rfl) 2 rfl rfl ?_
            exact g_iret C (by omega) (by omega) ⟨k1.tr k2, o, by omega, Or.inr e, ha, rfl⟩ (gd DX10_leastSame_0 13 rfl)
          · exact absurd c13 (by decide)
        · show GW z w 3 _ 0 0 _ _ [.int 0] _
          refine g_if_ne C 22 (gd DX10_leastSame_0 9 rfl) (by decide) (fun c13 => ?_) (fun c13 => ?_)
          · exact absurd rfl c13
          · refine g_iinc (lv' := [(0, _), (1, _), (2, _)]) C (gd DX10_leastSame_0 10 rfl) 2 [1, 2, 0] rfl rfl (by decide) rfl ?_
            refine g_goto (tgt := 2) C (gd DX10_leastSame_0 11 rfl) (by decide) ?_
            refine GW.cast (by rw [inc1]) rfl rfl (ih (o + 1) h2 (by omega) (k1.tr k2) (fun t ht => ?_))
            by_cases et : t = o
            · rw [et]; exact e
            · exact ha t (by omega)
  refine g_iconst (v := 0) C (gd DX10_leastSame_0 0 rfl) (by decide) ?_
  refine g_istore_n (lv' := [(0, _), (1, _), (2, _)]) C (gd DX10_leastSame_0 1 rfl) [1, 2, 0] rfl (by decide) rfl ?_
  exact loop r 0 h (by omega) (mKp.rf m h) (fun t ht => by omega)
theorem e_m_same {nt na np nf : Nat} {fw : Nat → Nat} (ok : mOK m h nt na np nf fw) (p : Int32) :
    Ev w 9 0 0 yX10_same cX10_same 2 (some .int) [.ref m, .int p] h (fun r' h' => (¬ (0 ≤ p ∧ p ≤ nI np - 1) ∧ r' = some (.int (-1)) ∧ pQ m h h' 2) ∨ ∃ r o, r < np ∧ p = nI r ∧ o ≤ r ∧ (o = r ∨ kEq (P2 m h nf r o)) ∧ (∀ t, t < o → ¬ kEq (P2 m h nf r t)) ∧ r' = some (.int (nI o)) ∧ pQ m h h' 0) := by
  have ok0 := ok
  obtain ⟨hm, hnt, hna, hnp, hF, hw⟩ := ok
  refine g_start (by decide) (Nat.le_of_ble_eq_true rfl) [(0, _), (1, _)] rfl (fun z hfl C => ?_)
  refine g_aload_n C (gd DX10_same_0 0 rfl) 0 rfl rfl ?_
  refine g_iload_n C (gd DX10_same_0 1 rfl) 1 rfl rfl ?_
  refine g_cV1 (ci := 10) C [_] mX10_isProgram lm_TestJudgeModel_116 (by exact hm.1) rfl rfl (e_m_isProgram hm _) hfl (by decide) (by decide) (by omega) (by omega) rfl rfl (Nat.le_of_ble_eq_true rfl) (gd DX10_same_0 2 rfl) ?_
  rw [hnp.2]
  by_cases hp : 0 ≤ p ∧ p ≤ nI np - 1
  · rw [b1_t hp]
    obtain ⟨r, hr, rfl⟩ := below_of (by omega) hp
    refine g_if_eq C 20 (gd DX10_same_0 3 rfl) (by decide) (fun c5 => ?_) (fun c5 => ?_)
    · exact absurd c5 (by decide)
    · refine g_aload_n C (gd DX10_same_0 4 rfl) 0 rfl rfl ?_
      refine g_aload_n C (gd DX10_same_0 5 rfl) 0 rfl rfl ?_
      refine g_iload_n C (gd DX10_same_0 6 rfl) 1 rfl rfl ?_
      refine g_callV (ci := 10) C [_] mX10_leastSame lm_TestJudgeModel_440 (by exact hm.1) rfl rfl (e_m_leastSame ok0 hr) hfl (by decide) (by decide) (by omega) (by omega) rfl rfl (Nat.le_of_ble_eq_true rfl) (gd DX10_same_0 7 rfl) (fun r h2 hp => ?_)
      obtain ⟨k1, o, o1, o2, o3, rfl⟩ := hp
      have hm2 : mSh m h2 := hm.fr k1.1
      show GW z w 2 _ 0 0 _ _ [.int (nI o), .ref m] _
      refine g_cV1 (ci := 10) C [_] mX10_gives lm_TestJudgeModel_349 (by exact hm2.1) rfl rfl (e_m_gives hm2 _) hfl (by decide) (by decide) (by omega) (by omega) rfl rfl (Nat.le_of_ble_eq_true rfl) (gd DX10_same_0 8 rfl) ?_
      refine g_goto (tgt := 25) C (gd DX10_same_0 9 rfl) (by decide) ?_
      exact g_iret C (by omega) (by omega) (Or.inr ⟨r, o, hr, rfl, o1, o2, o3, rfl, k1.q 0⟩) (gd DX10_same_0 13 rfl)
  · rw [b1_f hp]
    refine g_if_eq C 20 (gd DX10_same_0 3 rfl) (by decide) (fun c5 => ?_) (fun c5 => ?_)
    · refine g_aload_n C (gd DX10_same_0 10 rfl) 0 rfl rfl ?_
      refine g_iconst (v := 2) C (gd DX10_same_0 11 rfl) (by decide) ?_
      refine g_cV1 (ci := 10) C [_] mX10_refuse lm_TestJudgeModel_331 (by exact hm.1) rfl rfl (e_m_refuse hm _) hfl (by decide) (by decide) (by omega) (by omega) rfl rfl (Nat.le_of_ble_eq_true rfl) (gd DX10_same_0 12 rfl) ?_
      exact g_iret C (by omega) (by omega) (Or.inl ⟨hp, rfl, (mKp.rf m h).q 2⟩) (gd DX10_same_0 13 rfl)
    · exact absurd rfl c5
theorem e_m_kinds {nt na np nf : Nat} {fw : Nat → Nat} (ok : mOK m h nt na np nf fw) :
    Ev w 9 0 0 yX10_kinds cX10_kinds 3 (some .int) [.ref m] h (fun r' h' => r' = some (.int (nI (kdN (fun p t => kEq (P2 m h nf p t)) np))) ∧ pQ m h h' 0) := by
  refine g_start (by decide) (Nat.le_of_ble_eq_true rfl) [(0, _)] rfl (fun z hfl C => ?_)
  generalize hE : (fun p t => kEq (P2 m h nf p t)) = E
  have hnp := ok.2.2.2.1
  have hnf := ok.2.2.2.2.1.1
  have loop : ∀ y p h1, p + y = np → mKp m h h1 → GW z w 3 (gQ z w 0 0 (fun r' h'' => r' = some (.int (nI (kdN E np))) ∧ pQ m h h'' 0)) 0 0 4 [(0, .ref m), (1, .int (nI (kdN E p))), (2, .int (nI p))] [] h1 := by
    intro y
    induction y with
    | zero =>
      intro p h1 hp k1
      have ok1 := ok.kp k1
      have hm1 := ok1.1
      refine g_iload_n C (gd DX10_kinds_0 4 rfl) 2 rfl rfl ?_
      refine g_aload_n C (gd DX10_kinds_0 5 rfl) 0 rfl rfl ?_
      refine g_geti (ci := 10) (k := 4) C rfl (by decide) rfl lf_TestJudgeModel_109 hm1.1 (gd DX10_kinds_0 6 rfl) ?_
      rw [ok1.2.2.2.1.2]
      refine g_icmp_ge C 35 (gd DX10_kinds_0 7 rfl) (by decide) (fun c9 => ?_) (fun c9 => ?_)
      · refine g_aload_n C (gd DX10_kinds_0 21 rfl) 0 rfl rfl ?_
        refine g_iload_n C (gd DX10_kinds_0 22 rfl) 1 rfl rfl ?_
        refine g_cV1 (ci := 10) C [_] mX10_gives lm_TestJudgeModel_349 (by exact hm1.1) rfl rfl (e_m_gives hm1 _) hfl (by decide) (by decide) (by omega) (by omega) rfl rfl (Nat.le_of_ble_eq_true rfl) (gd DX10_kinds_0 23 rfl) ?_
        exact g_iret C (by omega) (by omega) ⟨by rw [show p = np by omega], k1.q 0⟩ (gd DX10_kinds_0 24 rfl)
      · exact absurd (nI_le (a := np) (b := p) (by omega) (by omega)) c9
    | succ y ih =>
      intro p h1 hp k1
      have ok1 := ok.kp k1
      have hm1 := ok1.1
      have fin : ∀ h2 c, mKp m h h2 → kdN E p + c = kdN E (p + 1) → GW z w 3 (gQ z w 0 0 (fun r' h'' => r' = some (.int (nI (kdN E np))) ∧ pQ m h h'' 0)) 0 0 27 [(0, .ref m), (1, .int (nI (kdN E p))), (2, .int (nI p))] [.int (nI c), .int (nI (kdN E p))] h2 := by
        intro h2 c k2 hc
        refine g_iadd C (gd DX10_kinds_0 17 rfl) ?_
        refine g_istore_n (lv' := [(0, _), (1, _), (2, _)]) C (gd DX10_kinds_0 18 rfl) [1, 0, 2] rfl (by decide) rfl ?_
        refine g_iinc (lv' := [(0, _), (1, _), (2, _)]) C (gd DX10_kinds_0 19 rfl) 2 [1, 2, 0] rfl rfl (by decide) rfl ?_
        refine g_goto (tgt := 4) C (gd DX10_kinds_0 20 rfl) (by decide) ?_
        refine GW.cast (by rw [inc1, ← hc, nI_add]) rfl rfl (ih (p + 1) h2 (by omega) k2)
      refine g_iload_n C (gd DX10_kinds_0 4 rfl) 2 rfl rfl ?_
      refine g_aload_n C (gd DX10_kinds_0 5 rfl) 0 rfl rfl ?_
      refine g_geti (ci := 10) (k := 4) C rfl (by decide) rfl lf_TestJudgeModel_109 hm1.1 (gd DX10_kinds_0 6 rfl) ?_
      rw [ok1.2.2.2.1.2]
      refine g_icmp_ge C 35 (gd DX10_kinds_0 7 rfl) (by decide) (fun c9 => ?_) (fun c9 => ?_)
      · exact absurd c9 (nI_ge (a := p) (b := np) (by omega) (by omega))
      · refine g_iload_n C (gd DX10_kinds_0 8 rfl) 1 rfl rfl ?_
        refine g_aload_n C (gd DX10_kinds_0 9 rfl) 0 rfl rfl ?_
        refine g_iload_n C (gd DX10_kinds_0 10 rfl) 2 rfl rfl ?_
        refine g_callV (ci := 10) C [_] mX10_leastSame lm_TestJudgeModel_440 (by exact hm1.1) rfl rfl (e_m_leastSame ok1 (by omega : p < np)) hfl (by decide) (by decide) (by omega) (by omega) rfl rfl (Nat.le_of_ble_eq_true rfl) (gd DX10_kinds_0 11 rfl) (fun r h2 hp => ?_)
        obtain ⟨k2, o, o1, o2, o3, rfl⟩ := hp
        show GW z w 3 _ 0 0 _ _ [.int (nI o), .int _] _
        refine g_iload_n C (gd DX10_kinds_0 12 rfl) 2 rfl rfl ?_
        refine g_icmp_ne C 26 (gd DX10_kinds_0 13 rfl) (by decide) (fun c19 => ?_) (fun c19 => ?_)
        · refine g_iconst (v := 0) C (gd DX10_kinds_0 16 rfl) (by decide) ?_
          refine fin h2 0 (k1.tr k2) ?_
          have hne : ¬ o = p := fun q => c19 (by rw [q])
          refine (kdN_f (fun a => ?_)).symm
          rcases o2 with q | q
          · exact hne q
          · rw [P2_kp k1 hnf (by omega) (by omega)] at q
            have := a o (by omega)
            rw [← hE] at this
            exact this q
        · refine g_iconst (v := 1) C (gd DX10_kinds_0 14 rfl) (by decide) ?_
          refine g_goto (tgt := 27) C (gd DX10_kinds_0 15 rfl) (by decide) ?_
          refine fin h2 1 (k1.tr k2) ?_
          have he : o = p := (nI_eq (by omega) (by omega)).mp c19
          refine (kdN_t (fun t ht => ?_)).symm
          rw [← hE]
          have := o3 t (by omega)
          rw [P2_kp k1 hnf (by omega) (by omega)] at this
          exact this
  refine g_iconst (v := 0) C (gd DX10_kinds_0 0 rfl) (by decide) ?_
  refine g_istore_n (lv' := [(0, _), (1, _)]) C (gd DX10_kinds_0 1 rfl) [1, 0] rfl (by decide) rfl ?_
  refine g_iconst (v := 0) C (gd DX10_kinds_0 2 rfl) (by decide) ?_
  refine g_istore_n (lv' := [(0, _), (1, _), (2, _)]) C (gd DX10_kinds_0 3 rfl) [1, 2, 0] rfl (by decide) rfl ?_
  exact loop np 0 h (by omega) (mKp.rf m h)
theorem e_m_needs_ {nt na np nf : Nat} {fw : Nat → Nat} (ok : mOK m h nt na np nf fw) (p o : Int32) :
    Ev w 7 0 0 yX10_needs_ cX10_needs_ 5 (some .int) [.ref m, .int p, .int o] h (fun r' h' => (¬ ((0 ≤ p ∧ p ≤ nI np - 1) ∧ (0 ≤ o ∧ o ≤ nI np - 1)) ∧ r' = some (.int (-1)) ∧ pQ m h h' 2) ∨ (∃ r q, r < np ∧ q < np ∧ p = nI r ∧ o = nI q ∧ ((¬ kEq (P2 m h nf r q) ∧ r' = some (.int (-1)) ∧ pQ m h h' 5) ∨ (kEq (P2 m h nf r q) ∧ r' = some (.int (bitF (fun f => hasB (hI h m 6) (nI f) ∧ ¬ kEq (P2s m h nf (hI h m 6 &&& (1 <<< (nI f &&& 31) ^^^ -1)) r q)) nf)) ∧ pQ m h h' 0)))) := by
  have ok0 := ok
  obtain ⟨hm, hnt, hna, hnp, hF, hw⟩ := ok
  refine g_start (by decide) (Nat.le_of_ble_eq_true rfl) [(0, _), (1, _), (2, _)] rfl (fun z hfl C => ?_)
  refine g_aload_n C (gd DX10_needs__0 0 rfl) 0 rfl rfl ?_
  refine g_iload_n C (gd DX10_needs__0 1 rfl) 1 rfl rfl ?_
  refine g_iload_n C (gd DX10_needs__0 2 rfl) 2 rfl rfl ?_
  refine g_cV1 (ci := 10) C [_, _] mX10_areTwo lm_TestJudgeModel_434 (by exact hm.1) rfl rfl (e_m_areTwo hm _ _) hfl (by decide) (by decide) (by omega) (by omega) rfl rfl (Nat.le_of_ble_eq_true rfl) (gd DX10_needs__0 3 rfl) ?_
  rw [hnp.2]
  by_cases hp : (0 ≤ p ∧ p ≤ nI np - 1) ∧ (0 ≤ o ∧ o ≤ nI np - 1)
  rotate_left
  · rw [b1_f hp]
    refine g_if_ne C 15 (gd DX10_needs__0 4 rfl) (by decide) (fun c6 => ?_) (fun c6 => ?_)
    · exact absurd rfl c6
    · refine g_aload_n C (gd DX10_needs__0 5 rfl) 0 rfl rfl ?_
      refine g_iconst (v := 2) C (gd DX10_needs__0 6 rfl) (by decide) ?_
      refine g_cV1 (ci := 10) C [_] mX10_refuse lm_TestJudgeModel_331 (by exact hm.1) rfl rfl (e_m_refuse hm _) hfl (by decide) (by decide) (by omega) (by omega) rfl rfl (Nat.le_of_ble_eq_true rfl) (gd DX10_needs__0 7 rfl) ?_
      exact g_iret C (by omega) (by omega) (Or.inl ⟨hp, rfl, (mKp.rf m h).q 2⟩) (gd DX10_needs__0 8 rfl)
  rw [b1_t hp]
  refine g_if_ne C 15 (gd DX10_needs__0 4 rfl) (by decide) (fun c6 => ?_) (fun c6 => ?_)
  rotate_left
  · exact absurd c6 (by decide)
  obtain ⟨r, hr, rfl⟩ := below_of (by omega) hp.1
  obtain ⟨q, hq, rfl⟩ := below_of (by omega) hp.2
  have hnf := hF.1
  refine g_aload_n C (gd DX10_needs__0 9 rfl) 0 rfl rfl ?_
  refine g_iload_n C (gd DX10_needs__0 10 rfl) 1 rfl rfl ?_
  refine g_iload_n C (gd DX10_needs__0 11 rfl) 2 rfl rfl ?_
  refine g_aload_n C (gd DX10_needs__0 12 rfl) 0 rfl rfl ?_
  refine g_geti (ci := 10) (k := 6) C rfl (by decide) rfl lf_TestJudgeModel_343 hm.1 (gd DX10_needs__0 13 rfl) ?_
  refine g_callV (ci := 10) C [_, _, _] mX10_areEqualBy lm_TestJudgeModel_487 (by exact hm.1) rfl rfl (r_areEqualBy ok0 hr hq (hI h m 6)) hfl (by decide) (by decide) (by omega) (by omega) rfl rfl (Nat.le_of_ble_eq_true rfl) (gd DX10_needs__0 14 rfl) (fun r h2 hp => ?_)
  obtain ⟨k1, hp⟩ := hp
  have hm2 : mSh m h2 := hm.fr k1.1
  rcases hp with ⟨rfl, e⟩ | ⟨rfl, e⟩
  rotate_left
  · show GW z w 5 _ 0 0 _ _ [.int 0] _
    refine g_if_ne C 34 (gd DX10_needs__0 15 rfl) (by decide) (fun c25 => ?_) (fun c25 => ?_)
    · exact absurd rfl c25
    · refine g_aload_n C (gd DX10_needs__0 16 rfl) 0 rfl rfl ?_
      refine g_iconst (v := 5) C (gd DX10_needs__0 17 rfl) (by decide) ?_
      refine g_cV1 (ci := 10) C [_] mX10_refuse lm_TestJudgeModel_331 (by exact hm2.1) rfl rfl (e_m_refuse hm2 _) hfl (by decide) (by decide) (by omega) (by omega) rfl rfl (Nat.le_of_ble_eq_true rfl) (gd DX10_needs__0 18 rfl) ?_
      exact g_iret C (by omega) (by omega) (Or.inr ⟨r, q, hr, hq, rfl, rfl, Or.inl ⟨e, rfl, k1.q 5⟩⟩) (gd DX10_needs__0 19 rfl)
  show GW z w 5 _ 0 0 _ _ [.int 1] _
  refine g_if_ne C 34 (gd DX10_needs__0 15 rfl) (by decide) (fun c25 => ?_) (fun c25 => ?_)
  rotate_left
  · exact absurd c25 (by decide)
  generalize hB : (fun f => hasB (hI h m 6) (nI f) ∧ ¬ kEq (P2s m h nf (hI h m 6 &&& (1 <<< (nI f &&& 31) ^^^ -1)) r q)) = B
  generalize hQ : (gQ z w 0 0 _) = Q
  have loop : ∀ y f h1, f + y = nf → mKp m h h1 → GW z w 5 Q 0 0 39 [(0, .ref m), (1, .int (nI r)), (2, .int (nI q)), (3, .int (bitF B f)), (4, .int (nI f))] [] h1 := by
    intro y
    induction y with
    | zero =>
      intro f h1 hf k1
      have ok1 := ok0.kp k1
      have hm1 := ok1.1
      refine g_iload C (gd DX10_needs__0 24 rfl) 4 rfl ?_
      refine g_aload_n C (gd DX10_needs__0 25 rfl) 0 rfl rfl ?_
      refine g_geti (ci := 10) (k := 5) C rfl (by decide) rfl lf_TestJudgeModel_120 hm1.1 (gd DX10_needs__0 26 rfl) ?_
      rw [ok1.2.2.2.2.1.2.1]
      refine g_icmp_ge C 97 (gd DX10_needs__0 27 rfl) (by decide) (fun c45 => ?_) (fun c45 => ?_)
      · refine g_aload_n C (gd DX10_needs__0 56 rfl) 0 rfl rfl ?_
        refine g_iload_n C (gd DX10_needs__0 57 rfl) 3 rfl rfl ?_
        refine g_cV1 (ci := 10) C [_] mX10_gives lm_TestJudgeModel_349 (by exact hm1.1) rfl rfl (e_m_gives hm1 _) hfl (by decide) (by decide) (by omega) (by omega) rfl rfl (Nat.le_of_ble_eq_true rfl) (gd DX10_needs__0 58 rfl) ?_
        rw [← hQ]
        exact g_iret C (by omega) (by omega) (Or.inr ⟨r, q, hr, hq, rfl, rfl, Or.inr ⟨e, by rw [show f = nf by omega, hB], k1.q 0⟩⟩) (gd DX10_needs__0 59 rfl)
      · exact absurd (nI_le (a := nf) (b := f) (by omega) (by omega)) c45
    | succ y ih =>
      intro f h1 hf k1
      have ok1 := ok0.kp k1
      have hm1 := ok1.1
      have fin : ∀ h2 v, mKp m h h2 → bitF B f ||| v = bitF B (f + 1) → GW z w 5 Q 0 0 89 [(0, .ref m), (1, .int (nI r)), (2, .int (nI q)), (3, .int (bitF B f)), (4, .int (nI f))] [.int v, .int (bitF B f)] h2 := by
        intro h2 v k2 hv
        refine g_ior C (gd DX10_needs__0 52 rfl) ?_
        refine g_istore_n (lv' := [(0, _), (1, _), (2, _), (3, _), (4, _)]) C (gd DX10_needs__0 53 rfl) [1, 2, 3, 0, 4] rfl (by decide) rfl ?_
        refine g_iinc (lv' := [(0, _), (1, _), (2, _), (3, _), (4, _)]) C (gd DX10_needs__0 54 rfl) 4 [1, 2, 3, 4, 0] rfl rfl (by decide) rfl ?_
        refine g_goto (tgt := 39) C (gd DX10_needs__0 55 rfl) (by decide) ?_
        exact GW.cast (by rw [inc1, hv]) rfl rfl (ih (f + 1) h2 (by omega) k2)
      have e6 : hI h1 m 6 = hI h m 6 := k1.2.1 6 (by omega) (by omega) (by omega)
      refine g_iload C (gd DX10_needs__0 24 rfl) 4 rfl ?_
      refine g_aload_n C (gd DX10_needs__0 25 rfl) 0 rfl rfl ?_
      refine g_geti (ci := 10) (k := 5) C rfl (by decide) rfl lf_TestJudgeModel_120 hm1.1 (gd DX10_needs__0 26 rfl) ?_
      rw [ok1.2.2.2.2.1.2.1]
      refine g_icmp_ge C 97 (gd DX10_needs__0 27 rfl) (by decide) (fun c45 => ?_) (fun c45 => ?_)
      · exact absurd c45 (nI_ge (a := f) (b := nf) (by omega) (by omega))
      · refine g_iload_n C (gd DX10_needs__0 28 rfl) 3 rfl rfl ?_
        refine g_aload_n C (gd DX10_needs__0 29 rfl) 0 rfl rfl ?_
        refine g_geti (ci := 10) (k := 6) C rfl (by decide) rfl lf_TestJudgeModel_343 hm1.1 (gd DX10_needs__0 30 rfl) ?_
        refine g_iload C (gd DX10_needs__0 31 rfl) 4 rfl ?_
        refine g_cS1 C [_, _] mX10_has lm_TestJudgeModel_144 (e_m_has _ _) hfl (by decide) (by decide) (by omega) (by omega) rfl rfl (Nat.le_of_ble_eq_true rfl) (gd DX10_needs__0 32 rfl) ?_
        rw [e6]
        by_cases hb : hasB (hI h m 6) (nI f)
        · rw [b1_t (show hI h m 6 >>> (nI f &&& 31) &&& 1 = 1 from hb)]
          refine g_if_eq C 88 (gd DX10_needs__0 33 rfl) (by decide) (fun c58 => ?_) (fun c58 => ?_)
          · exact absurd c58 (by decide)
          · refine g_aload_n C (gd DX10_needs__0 34 rfl) 0 rfl rfl ?_
            refine g_iload_n C (gd DX10_needs__0 35 rfl) 1 rfl rfl ?_
            refine g_iload_n C (gd DX10_needs__0 36 rfl) 2 rfl rfl ?_
            refine g_aload_n C (gd DX10_needs__0 37 rfl) 0 rfl rfl ?_
            refine g_geti (ci := 10) (k := 6) C rfl (by decide) rfl lf_TestJudgeModel_343 hm1.1 (gd DX10_needs__0 38 rfl) ?_
            rw [e6]
            refine g_iconst (v := 1) C (gd DX10_needs__0 39 rfl) (by decide) ?_
            refine g_iload C (gd DX10_needs__0 40 rfl) 4 rfl ?_
            refine g_ishl C (gd DX10_needs__0 41 rfl) ?_
            refine g_iconst (v := -1) C (gd DX10_needs__0 42 rfl) (by decide) ?_
            refine g_ixor C (gd DX10_needs__0 43 rfl) ?_
            refine g_iand C (gd DX10_needs__0 44 rfl) ?_
            refine g_callV (ci := 10) C [_, _, _] mX10_areEqualBy lm_TestJudgeModel_487 (by exact hm1.1) rfl rfl (r_areEqualBy ok1 hr hq _) hfl (by decide) (by decide) (by omega) (by omega) rfl rfl (Nat.le_of_ble_eq_true rfl) (gd DX10_needs__0 45 rfl) (fun r h2 hp => ?_)
            rw [P2s_kp k1 hnf _ (by omega) (by omega)] at hp
            obtain ⟨k2, hp⟩ := hp
            rcases hp with ⟨rfl, e2⟩ | ⟨rfl, e2⟩
            · show GW z w 5 _ 0 0 _ _ [.int 1, .int _] _
              refine g_if_ne C 88 (gd DX10_needs__0 46 rfl) (by decide) (fun c78 => ?_) (fun c78 => ?_)
              · refine g_iconst (v := 0) C (gd DX10_needs__0 51 rfl) (by decide) ?_
                exact fin _ 0 (k1.tr k2) (bitF_f (fun x => by rw [← hB] at x; exact x.2 e2)).symm
              · exact absurd c78 (by decide)
            · show GW z w 5 _ 0 0 _ _ [.int 0, .int _] _
              refine g_if_ne C 88 (gd DX10_needs__0 46 rfl) (by decide) (fun c78 => ?_) (fun c78 => ?_)
              · exact absurd rfl c78
              · refine g_iconst (v := 1) C (gd DX10_needs__0 47 rfl) (by decide) ?_
                refine g_iload C (gd DX10_needs__0 48 rfl) 4 rfl ?_
                refine g_ishl C (gd DX10_needs__0 49 rfl) ?_
                refine g_goto (tgt := 89) C (gd DX10_needs__0 50 rfl) (by decide) ?_
                exact fin _ _ (k1.tr k2) (bitF_t (by rw [← hB]; exact ⟨hb, e2⟩)).symm
        · rw [b1_f (show ¬ hI h m 6 >>> (nI f &&& 31) &&& 1 = 1 from hb)]
          refine g_if_eq C 88 (gd DX10_needs__0 33 rfl) (by decide) (fun c58 => ?_) (fun c58 => ?_)
          · refine g_iconst (v := 0) C (gd DX10_needs__0 51 rfl) (by decide) ?_
            exact fin _ 0 k1 (bitF_f (fun x => by rw [← hB] at x; exact hb x.1)).symm
          · exact absurd rfl c58
  refine g_iconst (v := 0) C (gd DX10_needs__0 20 rfl) (by decide) ?_
  refine g_istore_n (lv' := [(0, _), (1, _), (2, _), (3, _)]) C (gd DX10_needs__0 21 rfl) [1, 2, 3, 0] rfl (by decide) rfl ?_
  refine g_iconst (v := 0) C (gd DX10_needs__0 22 rfl) (by decide) ?_
  refine g_istore (lv' := [(0, _), (1, _), (2, _), (3, _), (4, _)]) C (gd DX10_needs__0 23 rfl) [1, 2, 3, 4, 0] (by decide) rfl ?_
  exact loop nf 0 h2 (by omega) k1
theorem e_m_fewest {nt na np nf : Nat} {fw : Nat → Nat} (ok : mOK m h nt na np nf fw) (p o : Int32) :
    Ev w 7 0 0 yX10_fewest cX10_fewest 5 (some .int) [.ref m, .int p, .int o] h (fun r' h' => (¬ ((0 ≤ p ∧ p ≤ nI np - 1) ∧ (0 ≤ o ∧ o ≤ nI np - 1)) ∧ r' = some (.int (-1)) ∧ pQ m h h' 2) ∨ (∃ r q, r < np ∧ q < np ∧ p = nI r ∧ o = nI q ∧ ∃ v, v = fwB (fun k => kEq (P2s m h nf (nI k) r q)) (2 ^ nf) ∧ r' = some (.int v) ∧ pQ m h h' (if v = -1 then 5 else 0))) := by
  have ok0 := ok
  obtain ⟨hm, hnt, hna, hnp, hF, hw⟩ := ok
  refine g_start (by decide) (Nat.le_of_ble_eq_true rfl) [(0, _), (1, _), (2, _)] rfl (fun z hfl C => ?_)
  refine g_aload_n C (gd DX10_fewest_0 0 rfl) 0 rfl rfl ?_
  refine g_iload_n C (gd DX10_fewest_0 1 rfl) 1 rfl rfl ?_
  refine g_iload_n C (gd DX10_fewest_0 2 rfl) 2 rfl rfl ?_
  refine g_cV1 (ci := 10) C [_, _] mX10_areTwo lm_TestJudgeModel_434 (by exact hm.1) rfl rfl (e_m_areTwo hm _ _) hfl (by decide) (by decide) (by omega) (by omega) rfl rfl (Nat.le_of_ble_eq_true rfl) (gd DX10_fewest_0 3 rfl) ?_
  rw [hnp.2]
  by_cases hp : (0 ≤ p ∧ p ≤ nI np - 1) ∧ (0 ≤ o ∧ o ≤ nI np - 1)
  rotate_left
  · rw [b1_f hp]
    refine g_if_ne C 15 (gd DX10_fewest_0 4 rfl) (by decide) (fun c6 => ?_) (fun c6 => ?_)
    · exact absurd rfl c6
    · refine g_aload_n C (gd DX10_fewest_0 5 rfl) 0 rfl rfl ?_
      refine g_iconst (v := 2) C (gd DX10_fewest_0 6 rfl) (by decide) ?_
      refine g_cV1 (ci := 10) C [_] mX10_refuse lm_TestJudgeModel_331 (by exact hm.1) rfl rfl (e_m_refuse hm _) hfl (by decide) (by decide) (by omega) (by omega) rfl rfl (Nat.le_of_ble_eq_true rfl) (gd DX10_fewest_0 7 rfl) ?_
      exact g_iret C (by omega) (by omega) (Or.inl ⟨hp, rfl, (mKp.rf m h).q 2⟩) (gd DX10_fewest_0 8 rfl)
  rw [b1_t hp]
  refine g_if_ne C 15 (gd DX10_fewest_0 4 rfl) (by decide) (fun c6 => ?_) (fun c6 => ?_)
  rotate_left
  · exact absurd c6 (by decide)
  obtain ⟨r, hr, rfl⟩ := below_of (by omega) hp.1
  obtain ⟨q, hq, rfl⟩ := below_of (by omega) hp.2
  have hnf := hF.1
  have h2n : 2 ^ nf ≤ 4 := by rcases (show nf = 0 ∨ nf = 1 ∨ nf = 2 by omega) with e | e | e <;> rw [e] <;> decide
  have hsh : (1 : Int32) <<< (nI nf &&& 31) = nI (2 ^ nf) := by rcases (show nf = 0 ∨ nf = 1 ∨ nf = 2 by omega) with e | e | e <;> rw [e] <;> decide
  generalize hE : (fun k => kEq (P2s m h nf (nI k) r q)) = E
  generalize hQ : (gQ z w 0 0 _) = Q
  have loop : ∀ y k h1, k + y = 2 ^ nf → mKp m h h1 → GW z w 5 Q 0 0 20 [(0, .ref m), (1, .int (nI r)), (2, .int (nI q)), (3, .int (fwB E k)), (4, .int (nI k))] [] h1 := by
    intro y
    induction y with
    | zero =>
      intro k h1 hk k1
      have ok1 := ok0.kp k1
      have hm1 := ok1.1
      refine g_iload C (gd DX10_fewest_0 13 rfl) 4 rfl ?_
      refine g_iconst (v := 1) C (gd DX10_fewest_0 14 rfl) (by decide) ?_
      refine g_aload_n C (gd DX10_fewest_0 15 rfl) 0 rfl rfl ?_
      refine g_geti (ci := 10) (k := 5) C rfl (by decide) rfl lf_TestJudgeModel_120 hm1.1 (gd DX10_fewest_0 16 rfl) ?_
      rw [ok1.2.2.2.2.1.2.1]
      refine g_ishl C (gd DX10_fewest_0 17 rfl) ?_
      rw [hsh]
      refine g_icmp_ge C 68 (gd DX10_fewest_0 18 rfl) (by decide) (fun c28 => ?_) (fun c28 => ?_)
      · rw [show k = 2 ^ nf by omega]
        refine g_iload_n C (gd DX10_fewest_0 37 rfl) 3 rfl rfl ?_
        refine g_iconst (v := -1) C (gd DX10_fewest_0 38 rfl) (by decide) ?_
        refine g_icmp_ne C 81 (gd DX10_fewest_0 39 rfl) (by decide) (fun c70 => ?_) (fun c70 => ?_)
        · refine g_aload_n C (gd DX10_fewest_0 44 rfl) 0 rfl rfl ?_
          refine g_iload_n C (gd DX10_fewest_0 45 rfl) 3 rfl rfl ?_
          refine g_cV1 (ci := 10) C [_] mX10_gives lm_TestJudgeModel_349 (by exact hm1.1) rfl rfl (e_m_gives hm1 _) hfl (by decide) (by decide) (by omega) (by omega) rfl rfl (Nat.le_of_ble_eq_true rfl) (gd DX10_fewest_0 46 rfl) ?_
          rw [← hQ]
          exact g_iret C (by omega) (by omega) (Or.inr ⟨r, q, hr, hq, rfl, rfl, fwB E (2 ^ nf), by rw [hE], rfl, by rw [if_neg c70]; exact k1.q 0⟩) (gd DX10_fewest_0 47 rfl)
        · refine g_aload_n C (gd DX10_fewest_0 40 rfl) 0 rfl rfl ?_
          refine g_iconst (v := 5) C (gd DX10_fewest_0 41 rfl) (by decide) ?_
          refine g_cV1 (ci := 10) C [_] mX10_refuse lm_TestJudgeModel_331 (by exact hm1.1) rfl rfl (e_m_refuse hm1 _) hfl (by decide) (by decide) (by omega) (by omega) rfl rfl (Nat.le_of_ble_eq_true rfl) (gd DX10_fewest_0 42 rfl) ?_
          refine g_goto (tgt := 86) C (gd DX10_fewest_0 43 rfl) (by decide) ?_
          rw [← hQ]
          exact g_iret C (by omega) (by omega) (Or.inr ⟨r, q, hr, hq, rfl, rfl, fwB E (2 ^ nf), by rw [hE], by rw [c70], by rw [if_pos c70]; exact k1.q 5⟩) (gd DX10_fewest_0 47 rfl)
      · exact absurd (nI_le (a := 2 ^ nf) (b := k) (by omega) (by omega)) c28
    | succ y ih =>
      intro k h1 hk k1
      have ok1 := ok0.kp k1
      have hm1 := ok1.1
      have fin : ∀ h2 v, mKp m h h2 → v = fwB E (k + 1) → GW z w 5 Q 0 0 62 [(0, .ref m), (1, .int (nI r)), (2, .int (nI q)), (3, .int v), (4, .int (nI k))] [] h2 := by
        intro h2 v k2 hv
        refine g_iinc (lv' := [(0, _), (1, _), (2, _), (3, _), (4, _)]) C (gd DX10_fewest_0 35 rfl) 4 [1, 2, 3, 4, 0] rfl rfl (by decide) rfl ?_
        refine g_goto (tgt := 20) C (gd DX10_fewest_0 36 rfl) (by decide) ?_
        exact GW.cast (by rw [inc1, hv]) rfl rfl (ih (k + 1) h2 (by omega) k2)
      have ask : (fwB E k = -1 ∨ bitN (nI k) < bitN (fwB E k)) → GW z w 5 Q 0 0 48 [(0, .ref m), (1, .int (nI r)), (2, .int (nI q)), (3, .int (fwB E k)), (4, .int (nI k))] [] h1 := by
        intro hor
        refine g_aload_n C (gd DX10_fewest_0 27 rfl) 0 rfl rfl ?_
        refine g_iload_n C (gd DX10_fewest_0 28 rfl) 1 rfl rfl ?_
        refine g_iload_n C (gd DX10_fewest_0 29 rfl) 2 rfl rfl ?_
        refine g_iload C (gd DX10_fewest_0 30 rfl) 4 rfl ?_
        refine g_callV (ci := 10) C [_, _, _] mX10_areEqualBy lm_TestJudgeModel_487 (by exact hm1.1) rfl rfl (r_areEqualBy ok1 hr hq (nI k)) hfl (by decide) (by decide) (by omega) (by omega) rfl rfl (Nat.le_of_ble_eq_true rfl) (gd DX10_fewest_0 31 rfl) (fun r h2 hp => ?_)
        rw [P2s_kp k1 hnf _ (by omega) (by omega)] at hp
        obtain ⟨k2, hp⟩ := hp
        rcases hp with ⟨rfl, e2⟩ | ⟨rfl, e2⟩
        · show GW z w 5 _ 0 0 _ _ [.int 1] _
          refine g_if_eq C 62 (gd DX10_fewest_0 32 rfl) (by decide) (fun c56 => ?_) (fun c56 => ?_)
          · exact absurd c56 (by decide)
          · refine g_iload C (gd DX10_fewest_0 33 rfl) 4 rfl ?_
            refine g_istore_n (lv' := [(0, _), (1, _), (2, _), (3, _), (4, _)]) C (gd DX10_fewest_0 34 rfl) [1, 2, 3, 0, 4] rfl (by decide) rfl ?_
            refine fin _ _ (k1.tr k2) ?_
            exact (fwB_t ⟨hor, by rw [← hE]; exact e2⟩).symm
        · show GW z w 5 _ 0 0 _ _ [.int 0] _
          refine g_if_eq C 62 (gd DX10_fewest_0 32 rfl) (by decide) (fun c56 => ?_) (fun c56 => ?_)
          · refine fin _ _ (k1.tr k2) ?_
            refine (fwB_f (fun x => e2 ?_)).symm
            have x2 := x.2
            rw [← hE] at x2
            exact x2
          · exact absurd rfl c56
      refine g_iload C (gd DX10_fewest_0 13 rfl) 4 rfl ?_
      refine g_iconst (v := 1) C (gd DX10_fewest_0 14 rfl) (by decide) ?_
      refine g_aload_n C (gd DX10_fewest_0 15 rfl) 0 rfl rfl ?_
      refine g_geti (ci := 10) (k := 5) C rfl (by decide) rfl lf_TestJudgeModel_120 hm1.1 (gd DX10_fewest_0 16 rfl) ?_
      rw [ok1.2.2.2.2.1.2.1]
      refine g_ishl C (gd DX10_fewest_0 17 rfl) ?_
      rw [hsh]
      refine g_icmp_ge C 68 (gd DX10_fewest_0 18 rfl) (by decide) (fun c28 => ?_) (fun c28 => ?_)
      · exact absurd c28 (nI_ge (a := k) (b := 2 ^ nf) (by omega) (by omega))
      · refine g_iload_n C (gd DX10_fewest_0 19 rfl) 3 rfl rfl ?_
        refine g_iconst (v := -1) C (gd DX10_fewest_0 20 rfl) (by decide) ?_
        refine g_icmp_eq C 48 (gd DX10_fewest_0 21 rfl) (by decide) (fun c33 => ?_) (fun c33 => ?_)
        · exact ask (Or.inl c33)
        · obtain ⟨b, hb, eb⟩ : ∃ b, b < k ∧ fwB E k = nI b := by
            rcases fwB_n E k with x | x
            · exact absurd x c33
            · exact x
          refine g_iload C (gd DX10_fewest_0 22 rfl) 4 rfl ?_
          refine g_cS1 C [_] mX10_bits lm_TestJudgeModel_402 (e_m_bits (by omega : k < 65536)) hfl (by decide) (by decide) (by omega) (by omega) rfl rfl (Nat.le_of_ble_eq_true rfl) (gd DX10_fewest_0 23 rfl) ?_
          refine g_iload_n C (gd DX10_fewest_0 24 rfl) 3 rfl rfl ?_
          rw [eb]
          refine g_cS1 C [_] mX10_bits lm_TestJudgeModel_402 (e_m_bits (by omega : b < 65536)) hfl (by decide) (by decide) (by omega) (by omega) rfl rfl (Nat.le_of_ble_eq_true rfl) (gd DX10_fewest_0 25 rfl) ?_
          have b1 : bitN (nI k) = nI (pcf k k) := by rw [bitN, nI_clamp (by omega)]
          have b2 : bitN (fwB E k) = nI (pcf b b) := by rw [eb, bitN, nI_clamp (by omega)]
          refine g_icmp_ge C 62 (gd DX10_fewest_0 26 rfl) (by decide) (fun c45 => ?_) (fun c45 => ?_)
          · refine GW.cast (by rw [← eb]) rfl rfl (fin h1 (fwB E k) k1 ?_)
            refine (fwB_f ?_).symm
            rintro ⟨x | x, -⟩
            · exact c33 x
            · rw [b1, b2] at x
              exact absurd c45 (Int32.not_le.mpr x)
          · refine GW.cast (by rw [← eb]) rfl rfl (ask (Or.inr ?_))
            rw [b1, b2]
            exact Int32.not_le.mp c45
  refine g_iconst (v := -1) C (gd DX10_fewest_0 9 rfl) (by decide) ?_
  refine g_istore_n (lv' := [(0, _), (1, _), (2, _), (3, _)]) C (gd DX10_fewest_0 10 rfl) [1, 2, 3, 0] rfl (by decide) rfl ?_
  refine g_iconst (v := 0) C (gd DX10_fewest_0 11 rfl) (by decide) ?_
  refine g_istore (lv' := [(0, _), (1, _), (2, _), (3, _), (4, _)]) C (gd DX10_fewest_0 12 rfl) [1, 2, 3, 4, 0] (by decide) rfl ?_
  exact loop (2 ^ nf) 0 h (by omega) (mKp.rf m h)
end M38
