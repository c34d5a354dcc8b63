/-! The reference's questions in the words of the class's: many, program, fact, status, fault, equal, same, kinds, swaps, needs, fewest -/
theorem fct01 : ∀ s, s < 4 → ∀ r, r < 2 → b1 (nI s >>> (nI r &&& 31) &&& 1 = 1) = nI s >>> (nI r &&& 31) &&& 1 := by decide
theorem kdN_cg {E E' : Nat → Nat → Prop} : ∀ n, (∀ p t, p < n → t < p → (E p t ↔ E' p t)) → kdN E n = kdN E' n
  | 0, _ => rfl
  | n + 1, h => by
    rw [kdN, kdN, kdN_cg n (fun p t hp ht => h p t (by omega) ht)]
    congr 1
    by_cases c : ∀ t, t < n → ¬ E n t
    · rw [if_pos c, if_pos (fun t ht q => c t ht ((h n t (by omega) ht).mpr q))]
    · rw [if_neg c, if_neg (fun q => c (fun t ht e => q t ht ((h n t (by omega) ht).mp e)))]
theorem bitF_cg {P Q : Nat → Prop} : ∀ n, (∀ f, f < n → (P f ↔ Q f)) → bitF P n = bitF Q n
  | 0, _ => rfl
  | n + 1, h => by
    have i := bitF_cg n (fun f hf => h f (by omega))
    by_cases c : P n
    · rw [bitF_t c, bitF_t ((h n (by omega)).mp c), i]
    · rw [bitF_f c, bitF_f (fun q => c ((h n (by omega)).mpr q)), i]
theorem fwB_4 (E : Nat → Prop) : ∀ n, n = 1 ∨ n = 2 ∨ n = 4 → (∃ k, k < n ∧ E k ∧ (∀ t, t < k → ¬ E t) ∧ fwB E n = nI k) ∨ ((∀ t, t < n → ¬ E t) ∧ fwB E n = -1) := by
  have z10 : ¬ bitN (nI 1) < bitN (nI 0) := by decide
  have z20 : ¬ bitN (nI 2) < bitN (nI 0) := by decide
  have z30 : ¬ bitN (nI 3) < bitN (nI 0) := by decide
  have z21 : ¬ bitN (nI 2) < bitN (nI 1) := by decide
  have z31 : ¬ bitN (nI 3) < bitN (nI 1) := by decide
  have z32 : ¬ bitN (nI 3) < bitN (nI 2) := by decide
  have n1 : ∀ k, k < 4 → nI k ≠ -1 := fun k hk => nI_neg1 (by omega)
  have stepT : ∀ k, ((fwB E k = -1 ∨ bitN (nI k) < bitN (fwB E k)) ∧ E k) → fwB E (k + 1) = nI k := fun k q => by rw [fwB, if_pos q]
  have stepF : ∀ k, ¬ ((fwB E k = -1 ∨ bitN (nI k) < bitN (fwB E k)) ∧ E k) → fwB E (k + 1) = fwB E k := fun k q => by rw [fwB, if_neg q]
  have a0 : fwB E 0 = -1 := rfl
  have g1 : (E 0 ∧ fwB E 1 = nI 0) ∨ (¬ E 0 ∧ fwB E 1 = -1) := by
    by_cases c : E 0
    · exact Or.inl ⟨c, stepT 0 ⟨Or.inl a0, c⟩⟩
    · exact Or.inr ⟨c, (stepF 0 (fun q => c q.2)).trans a0⟩
  have g2 : (E 0 ∧ fwB E 2 = nI 0) ∨ (¬ E 0 ∧ E 1 ∧ fwB E 2 = nI 1) ∨ (¬ E 0 ∧ ¬ E 1 ∧ fwB E 2 = -1) := by
    rcases g1 with ⟨c, e⟩ | ⟨c, e⟩
    · refine Or.inl ⟨c, (stepF 1 (fun q => ?_)).trans e⟩
      rcases q.1 with q1 | q1
      · exact n1 0 (by omega) (e.symm.trans q1)
      · rw [e] at q1; first | exact z10 q1 | exact z20 q1 | exact z30 q1
    · by_cases d : E 1
      · exact Or.inr (Or.inl ⟨c, d, stepT 1 ⟨Or.inl e, d⟩⟩)
      · exact Or.inr (Or.inr ⟨c, d, (stepF 1 (fun q => d q.2)).trans e⟩)
  have g3 : (E 0 ∧ fwB E 3 = nI 0) ∨ (¬ E 0 ∧ E 1 ∧ fwB E 3 = nI 1) ∨ (¬ E 0 ∧ ¬ E 1 ∧ E 2 ∧ fwB E 3 = nI 2) ∨ (¬ E 0 ∧ ¬ E 1 ∧ ¬ E 2 ∧ fwB E 3 = -1) := by
    rcases g2 with ⟨c, e⟩ | ⟨c, d, e⟩ | ⟨c, d, e⟩
    · refine Or.inl ⟨c, (stepF 2 (fun q => ?_)).trans e⟩
      rcases q.1 with q1 | q1
      · exact n1 0 (by omega) (e.symm.trans q1)
      · rw [e] at q1; first | exact z10 q1 | exact z20 q1 | exact z30 q1
    · refine Or.inr (Or.inl ⟨c, d, (stepF 2 (fun q => ?_)).trans e⟩)
      rcases q.1 with q1 | q1
      · exact n1 1 (by omega) (e.symm.trans q1)
      · rw [e] at q1; exact z21 q1
    · by_cases f : E 2
      · exact Or.inr (Or.inr (Or.inl ⟨c, d, f, stepT 2 ⟨Or.inl e, f⟩⟩))
      · exact Or.inr (Or.inr (Or.inr ⟨c, d, f, (stepF 2 (fun q => f q.2)).trans e⟩))
  have l1 : ∀ t, t < 1 → t = 0 := fun t ht => by omega
  intro n hn
  rcases hn with rfl | rfl | rfl
  · rcases g1 with ⟨c, e⟩ | ⟨c, e⟩
    · exact Or.inl ⟨0, by omega, c, fun t ht => absurd ht (Nat.not_lt_zero _), e⟩
    · exact Or.inr ⟨fun t ht => by rw [l1 t ht]; exact c, e⟩
  · rcases g2 with ⟨c, e⟩ | ⟨c, d, e⟩ | ⟨c, d, e⟩
    · exact Or.inl ⟨0, by omega, c, fun t ht => absurd ht (Nat.not_lt_zero _), e⟩
    · exact Or.inl ⟨1, by omega, d, fun t ht => by rw [l1 t ht]; exact c, e⟩
    · refine Or.inr ⟨fun t ht => ?_, e⟩
      rcases (show t = 0 ∨ t = 1 by omega) with rfl | rfl
      · exact c
      · exact d
  · rcases g3 with ⟨c, e⟩ | ⟨c, d, e⟩ | ⟨c, d, f, e⟩ | ⟨c, d, f, e⟩
    · refine Or.inl ⟨0, by omega, c, fun t ht => absurd ht (Nat.not_lt_zero _), (stepF 3 (fun q => ?_)).trans e⟩
      rcases q.1 with q1 | q1
      · exact n1 0 (by omega) (e.symm.trans q1)
      · rw [e] at q1; first | exact z10 q1 | exact z20 q1 | exact z30 q1
    · refine Or.inl ⟨1, by omega, d, fun t ht => by rw [l1 t ht]; exact c, (stepF 3 (fun q => ?_)).trans e⟩
      rcases q.1 with q1 | q1
      · exact n1 1 (by omega) (e.symm.trans q1)
      · rw [e] at q1; exact z31 q1
    · refine Or.inl ⟨2, by omega, f, fun t ht => ?_, (stepF 3 (fun q => ?_)).trans e⟩
      · rcases (show t = 0 ∨ t = 1 by omega) with rfl | rfl
        · exact c
        · exact d
      · rcases q.1 with q1 | q1
        · exact n1 2 (by omega) (e.symm.trans q1)
        · rw [e] at q1; exact z32 q1
    · by_cases g : E 3
      · refine Or.inl ⟨3, by omega, g, fun t ht => ?_, stepT 3 ⟨Or.inl e, g⟩⟩
        rcases (show t = 0 ∨ t = 1 ∨ t = 2 by omega) with rfl | rfl | rfl
        · exact c
        · exact d
        · exact f
      · refine Or.inr ⟨fun t ht => ?_, (stepF 3 (fun q => g q.2)).trans e⟩
        rcases (show t = 0 ∨ t = 1 ∨ t = 2 ∨ t = 3 by omega) with rfl | rfl | rfl | rfl
        · exact c
        · exact d
        · exact f
        · exact g
section B1
variable {w : gD} {m : Nat} {h : HS} {V : aV} {M : aM}
theorem MV.pr (v : MV m h V M) {k : Nat} (hk : k < vNp V) : mPr m h k = vPR V k := by
  obtain ⟨fw, -, v4, -⟩ := v
  exact v4 k hk
theorem MV.w0 (v : MV m h V M) {k : Nat} (hk : k < vNp V) : gRec (hI h (m + 1)) k 0 = nI (wt (vPR V k)) := by
  have hV : vOK V := by obtain ⟨fw, ⟨-, v2, -⟩, -⟩ := v; exact v2
  have e := v.pr hk
  have p := ((hV.2.1 (vA V) (Nat.le_refl _)).2.2 k hk).2.1
  have e0 : mPr m h k 0 = gRec (hI h (m + 1)) k 0 := (gRec_tr (by omega)).symm
  rw [← e0, e]
  exact p
theorem MV.f0 (v : MV m h V M) {k : Nat} (hk : k < vNf V) : gRec (hI h (m + 1)) (8 + k) 0 = nI (wt (vFR V k)) := by
  obtain ⟨fw, ⟨v1, v2, v3⟩, v4, v5, -⟩ := v
  obtain ⟨-, -, -, -, hF, -⟩ := v1
  have e := v5 k hk
  have lf := hF.1
  have e0 : mFc m h k 0 = gRec (hI h (m + 1)) (8 + k) 0 := (gRec_tr (by omega)).symm
  have g := hF.2.2.1 k hk
  have b : fw k ≤ 16 := by
    have := hF.2.2.2
    rcases (show k = 0 ∨ k = 1 by omega) with rfl | rfl <;> omega
  rw [g]
  congr 1
  rw [← e]
  exact (wt_of (e0.trans g) (by omega)).symm
theorem bQ.say {m : Nat} {h h' : HS} {V : aV} {M : aM} {i : Int32} {r' : Option Value} (v : MV m h V M) (hr : r' = some (.int i)) (p : pQ m h h' M.2.1.1) : bQ m (qSay V M i) r' h' := ⟨_, V, M, hr, v.q p, rfl, rfl, rfl⟩
theorem mKp_1 : mKp m h (sI h m 1 0) := by
  refine mKp.of ⟨rfl, rfl, rfl, rfl⟩ (fun b j h1 h2 h3 h4 => ?_) (fun r k _ _ => ?_)
  · rw [hI_sI, if_neg (by omega)]
  · unfold gRec
    rw [hI_sI, if_neg (by omega)]
theorem pQ_1 {st : Int32} (e : hI h m 11 = st) : pQ m h (sI h m 1 0) st := ⟨mKp_1, by rw [hI_sI, if_pos ⟨rfl, rfl⟩], by rw [hI_sI, if_neg (by omega)]; exact e⟩
theorem b_m_status (v : MV m h V M) : Ev w 0 0 0 yX10_status cX10_status 1 (some .int) [.ref m] h (bQ m (qSay V M M.2.1.1)) := by
  obtain ⟨fw, ⟨v1, v2, v3⟩, v4, v5, v6, v8, ⟨s1, s2, s3⟩, -⟩ := id v
  refine Ev.to (e_m_status v1.1) (fun r' h' hp => ?_)
  obtain ⟨rfl, rfl⟩ := hp
  rw [s1]
  exact bQ.say v rfl (pQ_1 s1)
theorem b_m_fault (v : MV m h V M) (k : Int32) : Ev w 0 0 0 yX10_fault cX10_fault 2 (some .int) [.ref m, .int k] h (bQ m (qSay V M (if k = 0 then M.2.1.2.1 else if k = 1 then M.2.1.2.2 else -1))) := by
  obtain ⟨fw, ⟨v1, v2, v3⟩, v4, v5, v6, v8, ⟨s1, s2, s3⟩, -⟩ := id v
  refine Ev.to (e_m_fault v1.1 k) (fun r' h' hp => ?_)
  obtain ⟨rfl, rfl⟩ := hp
  rw [s2, s3]
  exact bQ.say v rfl (pQ_1 s1)
theorem b_m_many (v : MV m h V M) (k : Int32) : Ev w 5 0 0 yX10_many cX10_many 2 (some .int) [.ref m, .int k] h (bQ m (qQ V M (qMny V k))) := by
  obtain ⟨fw, ⟨v1, v2, v3⟩, v4, v5, v6, -⟩ := id v
  refine Ev.to (e_m_many v1 k) (fun r' h' hp => ?_)
  rcases hp with ⟨n, hr, p⟩ | ⟨c, hr, p⟩
  · exact bQ.q v hr p (Or.inl ⟨n, rfl, rfl⟩)
  · rw [v1.2.1.2, v1.2.2.1.2, v1.2.2.2.1.2, v1.2.2.2.2.1.2.1, v3, v6.1, fbA_cg (F' := vFR V) v5 _ (Nat.le_refl _)] at hr
    exact bQ.q v hr p (Or.inr ⟨c, rfl, rfl⟩)
theorem b_m_program (v : MV m h V M) (p k : Int32) : Ev w 2 0 0 yX10_program cX10_program 4 (some .int) [.ref m, .int p, .int k] h (bQ m (qQ V M (qPrg V k p))) := by
  obtain ⟨fw, ⟨v1, v2, v3⟩, v4, v5, v6, -⟩ := id v
  refine Ev.to (e_m_program v1 p k) (fun r' h' hp => ?_)
  rcases hp with ⟨n, hr, rfl⟩ | ⟨c, n, hr, rfl⟩ | ⟨c, r, hr, rfl, hv, rfl⟩
  · exact bQ.q v hr ((mKp.rf m h).q 1) (Or.inl ⟨n, rfl, rfl⟩)
  · exact bQ.q v hr ((mKp.rf m h).q 2) (Or.inr ⟨c, Or.inl ⟨n, rfl, rfl⟩⟩)
  · rw [v.w0 hr] at hv
    exact bQ.q v hv ((mKp.rf m h).q 0) (Or.inr ⟨c, Or.inr ⟨r, hr, rfl, rfl, rfl⟩⟩)
theorem b_m_fact (v : MV m h V M) (p k : Int32) : Ev w 2 0 0 yX10_fact cX10_fact 3 (some .int) [.ref m, .int p, .int k] h (bQ m (qQ V M (qFct V k p))) := by
  obtain ⟨fw, ⟨v1, v2, v3⟩, v4, v5, v6, -⟩ := id v
  refine Ev.to (e_m_fact v1 p k) (fun r' h' hp => ?_)
  rcases hp with ⟨n, hr, rfl⟩ | ⟨c, n, hr, rfl⟩ | ⟨c, r, hr, rfl, hv, rfl⟩
  · exact bQ.q v hr ((mKp.rf m h).q 1) (Or.inl ⟨n, rfl, rfl⟩)
  · exact bQ.q v hr ((mKp.rf m h).q 2) (Or.inr ⟨c, Or.inl ⟨n, rfl, rfl⟩⟩)
  · rw [v.f0 hr, v3, fct01 _ v2.s4 r (by have := v2.nf; omega)] at hv
    exact bQ.q v hv ((mKp.rf m h).q 0) (Or.inr ⟨c, Or.inr ⟨r, hr, rfl, rfl, rfl⟩⟩)
theorem b_m_equal (v : MV m h V M) (p o : Int32) : Ev w 8 0 0 yX10_equal cX10_equal 3 (some .int) [.ref m, .int p, .int o] h (bQ m (qQ V M (two (vNp V) p o (qEqu V)))) := by
  obtain ⟨fw, ⟨v1, v2, v3⟩, v4, v5, v6, -⟩ := id v
  have hnp := v2.np
  refine Ev.to (e_m_equal v1 p o) (fun r' h' hp => ?_)
  rcases hp with ⟨n, hr, rfl⟩ | ⟨r, q, hr, hq, rfl, rfl, h1, N, hl, hN, hst, hv, rfl⟩
  · exact bQ.q v hr ((mKp.rf m h).q 2) (Or.inl ⟨n, rfl, rfl⟩)
  · obtain ⟨wr, lr, hwr⟩ := v1.2.2.2.2.2 r hr
    obtain ⟨wo, lo, hwo⟩ := v1.2.2.2.2.2 q hq
    obtain ⟨N2, hL, hk⟩ := lay_2 v1.2.2.2.2.1 (by omega : r < 8) (by omega : q < 8) lr lo hwr hwo hl
    have g := hL.1.gok
    have hg1 := g.1
    have e : N = N2 := (nI_eq (by omega) (by omega)).mp (hst.symm.trans g.2.1)
    subst e
    rw [v.p2 hr hq] at hL
    rcases hv with ⟨e1, e2⟩ | ⟨e1, t, ht, e2⟩
    · exact bQ.q v e1 (hk.q 0) (Or.inr ⟨r, q, hr, hq, rfl, rfl, Or.inl ⟨rfl, hL.1.eq_iff.mpr e2⟩, rfl⟩)
    · exact bQ.q v e1 (hk.q 0) (Or.inr ⟨r, q, hr, hq, rfl, rfl, Or.inr ⟨rfl, fun x => e2 (hL.1.eq_iff.mp x t ht)⟩, rfl⟩)
theorem b_m_same (v : MV m h V M) (p : Int32) : Ev w 9 0 0 yX10_same cX10_same 2 (some .int) [.ref m, .int p] h (bQ m (qQ V M (one (vNp V) p (qSam V)))) := by
  obtain ⟨fw, ⟨v1, v2, v3⟩, -⟩ := id v
  refine Ev.to (e_m_same v1 p) (fun r' h' hp => ?_)
  rcases hp with ⟨n, hr, hq⟩ | ⟨r, o, hr, rfl, ho, ho2, hm, hv, hq⟩
  · exact bQ.q v hr hq (Or.inl ⟨n, rfl, rfl⟩)
  · refine bQ.q v hv hq (Or.inr ⟨r, hr, rfl, ⟨o, ho, ?_, fun t ht x => hm t ht ?_, rfl⟩, rfl⟩)
    · rcases ho2 with e | e
      · exact Or.inl e
      · rw [v.p2 hr (by omega)] at e
        exact Or.inr ((vP2_eq v2 v2.s4 hr (by omega)).mp e)
    · rw [v.p2 hr (by omega)]
      exact (vP2_eq v2 v2.s4 (by omega) hr).mp x
theorem b_m_kinds (v : MV m h V M) : Ev w 9 0 0 yX10_kinds cX10_kinds 3 (some .int) [.ref m] h (bQ m (qQ V M (qKin V))) := by
  obtain ⟨fw, ⟨v1, v2, v3⟩, -⟩ := id v
  refine Ev.to (e_m_kinds v1) (fun r' h' hp => ?_)
  obtain ⟨hv, hq⟩ := hp
  rw [kdN_cg (E' := fun p t => kEq (vP2 V (vS V) t p)) (vNp V) (fun p t hp ht => by rw [v.p2 hp (by omega)]; exact vP2_eq v2 v2.s4 hp (by omega))] at hv
  exact bQ.q v hv hq ⟨rfl, rfl⟩
theorem b_m_needs (v : MV m h V M) (p o : Int32) : Ev w 7 0 0 yX10_needs_ cX10_needs_ 5 (some .int) [.ref m, .int p, .int o] h (bQ m (qQ V M (two (vNp V) p o (qNee V)))) := by
  obtain ⟨fw, ⟨v1, v2, v3⟩, -⟩ := id v
  have hnf := v2.nf
  refine Ev.to (e_m_needs_ v1 p o) (fun r' h' hp => ?_)
  rcases hp with ⟨n, hr, hq⟩ | ⟨r, q, hr, hq, rfl, rfl, hp⟩
  · exact bQ.q v hr hq (Or.inl ⟨n, rfl, rfl⟩)
  · rw [v.p2 hr hq] at hp
    rcases hp with ⟨ne, hv, pq⟩ | ⟨e, hv, pq⟩
    · exact bQ.q v hv pq (Or.inr ⟨r, q, hr, hq, rfl, rfl, Or.inl ⟨ne, rfl, rfl⟩⟩)
    · refine bQ.q v hv pq (Or.inr ⟨r, q, hr, hq, rfl, rfl, Or.inr ⟨e, bitF_cg _ (fun f hf => ?_), rfl⟩⟩)
      rw [v3, (clr_e _ v2.s4 f (by omega)).1, v.p2s hr hq]
theorem b_m_fewest (v : MV m h V M) (p o : Int32) : Ev w 7 0 0 yX10_fewest cX10_fewest 5 (some .int) [.ref m, .int p, .int o] h (bQ m (qQ V M (two (vNp V) p o (qFew V)))) := by
  obtain ⟨fw, ⟨v1, v2, v3⟩, -⟩ := id v
  have hnf := v2.nf
  refine Ev.to (e_m_fewest v1 p o) (fun r' h' hp => ?_)
  rcases hp with ⟨n, hr, hq⟩ | ⟨r, q, hr, hq, rfl, rfl, i, hi, hv, pq⟩
  · exact bQ.q v hr hq (Or.inl ⟨n, rfl, rfl⟩)
  · have e : (fun k => kEq (P2s m h (vNf V) (nI k) r q)) = fun k => kEq (vP2 V k r q) := funext fun k => by rw [v.p2s hr hq]
    rw [e] at hi
    refine bQ.q v hv pq (Or.inr ⟨r, q, hr, hq, rfl, rfl, ?_⟩)
    rcases fwB_4 (fun k => kEq (vP2 V k r q)) (2 ^ vNf V) (by rcases (show vNf V = 0 ∨ vNf V = 1 ∨ vNf V = 2 by omega) with e | e | e <;> rw [e] <;> decide) with ⟨k, k1, k2, k3, k4⟩ | ⟨k1, k2⟩
    · have k5 : k < 4 := by
        rcases (show vNf V = 0 ∨ vNf V = 1 ∨ vNf V = 2 by omega) with e | e | e <;> rw [e] at k1 <;> omega
      exact Or.inl ⟨k, k1, k2, k3, hi.trans k4, by rw [hi, k4, if_neg (nI_neg1 (by omega))]⟩
    · exact Or.inr ⟨k1, hi.trans k2, by rw [hi, k2, if_pos rfl]⟩
theorem b_m_swaps (v : MV m h V M) (p o : Int32) : Ev w 6 0 0 yX10_swaps cX10_swaps 3 (some .int) [.ref m, .int p, .int o] h (bQ m (qQ V M (two (vNp V) p o (qSwa V)))) := by
  obtain ⟨fw, ⟨v1, v2, v3⟩, -⟩ := id v
  refine Ev.to (e_m_swaps v1 p o) (fun r' h' hp => ?_)
  rcases hp with ⟨n, hr, hq⟩ | ⟨r, q, hr, hq, rfl, rfl, hp⟩
  · exact bQ.q v hr hq (Or.inl ⟨n, rfl, rfl⟩)
  · have ag : ∀ a b, a < vNp V → b < vNp V → jnR m h a b = tr (rJoin (vPR V a) (vPR V b) (wt (vPR V a)) (wt (vPR V b))) := fun a b ha hb => by unfold jnR; rw [v.pr ha, v.pr hb]
    have w5 : ∀ a, a < vNp V → wt (vPR V a) ≤ 5 := fun a ha => ((v2.2.1 (vA V) (Nat.le_refl _)).2.2 a ha).1
    have w1 := w5 r hr
    have w2 := w5 q hq
    rw [v.pr hr, v.pr hq, v3, v.pair, ag r q hr hq, ag q r hq hr] at hp
    have g : kEq (pP (nI (vNt V)) (nI (vNa V)) (nI (vS V)) (vFR V) (vNf V) (tr (rJoin (vPR V r) (vPR V q) (wt (vPR V r)) (wt (vPR V q)))) (tr (rJoin (vPR V q) (vPR V r) (wt (vPR V q)) (wt (vPR V r))))) ↔ kEq (xP V (vS V) (rJoin (vPR V r) (vPR V q) (wt (vPR V r)) (wt (vPR V q))) (rJoin (vPR V q) (vPR V r) (wt (vPR V q)) (wt (vPR V r)))) := by
      unfold xP
      have j1 := wt_join (X := vPR V r) (Y := vPR V q) (a := wt (vPR V r)) (b := wt (vPR V q)) (by omega)
      have j2 := wt_join (X := vPR V q) (Y := vPR V r) (a := wt (vPR V q)) (b := wt (vPR V r)) (by omega)
      have b2 : wt (fbA (nI (vS V)) (vFR V) (vNf V)) ≤ 2 := v2.2.2.1 _ v2.s4
      refine kEq_ag ⟨rfl, rfl, (ag_tr _).sy, (ag_tr _).sy, Ag.rf _, ?_, ?_, ?_, ?_⟩
      · show (wt (tr _), wt (tr _), _) = (wt _, wt _, _)
        rw [wt_tr, wt_tr]
      · show wt (tr _) ≤ 16
        rw [wt_tr, j1]; omega
      · show wt (tr _) ≤ 16
        rw [wt_tr, j2]; omega
      · show wt _ ≤ 16
        omega
    rw [g] at hp
    rcases hp with ⟨l, hv, pq⟩ | ⟨l, hp, pq⟩
    · exact bQ.q v hv pq (Or.inr ⟨r, q, hr, hq, rfl, rfl, Or.inl ⟨by omega, rfl, rfl⟩⟩)
    · rcases hp with ⟨hv, e⟩ | ⟨hv, e⟩
      · exact bQ.q v hv pq (Or.inr ⟨r, q, hr, hq, rfl, rfl, Or.inr ⟨l, Or.inl ⟨rfl, e⟩, rfl⟩⟩)
      · exact bQ.q v hv pq (Or.inr ⟨r, q, hr, hq, rfl, rfl, Or.inr ⟨l, Or.inr ⟨rfl, e⟩, rfl⟩⟩)
end B1
