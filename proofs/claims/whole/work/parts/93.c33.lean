/-! World: sealFacts -/
/-- g is h with more behind it, other bars and other assumed facts in the world W -/
def sfI (W : Nat) (h g : HS) (v : Int32) : Prop := hT h ≤ hT g ∧ (∀ b, b < hT h → hK g b = hK h b ∧ hN g b = hN h b ∧ hL g b = hL h b) ∧ (∀ b, b < hT h → b ≠ W → hI g b = hI h b) ∧ (∀ b, b < hT h → b ≠ W + 4 → hR g b = hR h b) ∧ (∀ k, k ≠ 4 → hI g W k = hI h W k) ∧ hI g W 4 = v
theorem sfI.ext {W : Nat} {h g g' : HS} {v : Int32} (s : sfI W h g v) (hW : W < hT h) (e : hExt g g') : sfI W h g' v := by
  obtain ⟨s1, s2, s3, s4, s5, s6⟩ := s
  have e' : ∀ b, b < hT h → _ := fun b hb => e.2 b (Nat.lt_of_lt_of_le hb s1)
  refine ⟨Nat.le_trans s1 e.1, fun b hb => ?_, fun b hb hn => ?_, fun b hb hn => ?_, fun k hk => ?_, ?_⟩
  · obtain ⟨e1, e2, e3, e4, e5⟩ := e' b hb
    obtain ⟨a1, a2, a3⟩ := s2 b hb
    exact ⟨e4.trans a1, e5.trans a2, e2.trans a3⟩
  · exact (e' b hb).1.trans (s3 b hb hn)
  · exact (e' b hb).2.2.1.trans (s4 b hb hn)
  · rw [(e' W hW).1]; exact s5 k hk
  · rw [(e' W hW).1]; exact s6
theorem sfI.bar {W : Nat} {h g : HS} {v : Int32} (s : sfI W h g v) (k : Nat) (x : Option Nat) : sfI W h (sR g (W + 4) k x) v := by
  obtain ⟨s1, s2, s3, s4, s5, s6⟩ := s
  refine ⟨s1, s2, s3, fun b hb hn => ?_, s5, s6⟩
  funext j
  rw [hR_sR, if_neg (fun q => hn q.1)]
  exact congrFun (s4 b hb hn) j
theorem wSh.sf {W : Nat} {h g : HS} {v : Int32} (hw : wSh W h) (hW : W + 5 < hT h) (s : sfI W h g v) : wSh W g := by
  obtain ⟨s1, s2, s3, s4, s5, s6⟩ := s
  unfold wSh
  rw [s4 W (by omega) (by omega), (s2 W (by omega)).1, (s2 (W + 1) (by omega)).1, (s2 (W + 2) (by omega)).1, (s2 (W + 3) (by omega)).1, (s2 (W + 4) (by omega)).1, (s2 (W + 5) (by omega)).1, (s2 (W + 1) (by omega)).2.1, (s2 (W + 2) (by omega)).2.1, (s2 (W + 3) (by omega)).2.1, (s2 (W + 4) (by omega)).2.1]
  exact hw
theorem pcW.sf {W a n : Nat} {R : Nat → Int32} {h g : HS} {v : Int32} (p : pcW h a n R) (ha : W + 5 ≤ a) (s : sfI W h g v) : pcW g a n R := by
  obtain ⟨s1, s2, s3, s4, s5, s6⟩ := s
  obtain ⟨⟨w0, w1⟩, lt, ⟨⟨t1, t2⟩, t3⟩, r⟩ := p
  have ea := s3 a lt (by omega)
  refine ⟨⟨by rw [ea]; exact w0, fun hn => by rw [ea]; exact w1 hn⟩, Nat.lt_of_lt_of_le lt s1, ⟨⟨by rw [(s2 a lt).1]; exact t1, by rw [ea]; exact t2⟩, fun q => ?_⟩, fun q hq => ?_⟩
  · obtain ⟨⟨r1, r2, r3⟩, b⟩ := t3 q
    refine ⟨⟨by rw [s4 a lt (by omega)]; exact r1, ?_, ?_⟩, Nat.lt_of_lt_of_le b s1⟩
    · rw [(s2 (a + 1) (by omega)).1, (s2 (a + 2) (by omega)).1, (s2 (a + 3) (by omega)).1, (s2 (a + 4) (by omega)).1]; exact r2
    · rw [(s2 (a + 1) (by omega)).2.1, (s2 (a + 2) (by omega)).2.1, (s2 (a + 3) (by omega)).2.1, (s2 (a + 4) (by omega)).2.1]; exact r3
  · obtain ⟨_, b⟩ := t3 (by omega)
    rw [s3 (a + 1) (by omega) (by omega), s3 (a + 2) (by omega) (by omega), s3 (a + 3) (by omega) (by omega), s3 (a + 4) (by omega) (by omega)]
    exact r q hq
theorem pcW.bar {W a n k : Nat} {x : Option Nat} {R : Nat → Int32} {g : HS} (p : pcW g a n R) (ha : W + 5 ≤ a) : pcW (sR g (W + 4) k x) a n R := by
  obtain ⟨w0, lt, ⟨t1, t3⟩, r⟩ := p
  refine ⟨w0, lt, ⟨t1, fun q => ?_⟩, r⟩
  obtain ⟨⟨⟨r1, r2, r3, r4⟩, r5⟩, b⟩ := t3 q
  refine ⟨⟨⟨?_, ?_, ?_, ?_⟩, r5⟩, b⟩
  · rw [hR_sR, if_neg (by omega)]; exact r1
  · rw [hR_sR, if_neg (by omega)]; exact r2
  · rw [hR_sR, if_neg (by omega)]; exact r3
  · rw [hR_sR, if_neg (by omega)]; exact r4
theorem wt_nI {R : Nat → Int32} {n : Nat} (h : R 0 = nI n) (hn : n < 2 ^ 31) : wt R = n := by rw [wt, h, nI_clamp hn]
theorem fbA_wt {s : Int32} {F : Nat → Nat → Int32} {nf : Nat} (hnf : nf ≤ 2) (hF : ∀ f, f < nf → wt (F f) ≤ 2) : ∀ f, f ≤ nf → wt (fbA s F f) ≤ 2 * f := by
  intro f
  induction f with
  | zero => intro _; exact Nat.le_of_eq rfl
  | succ f ih =>
    intro hf
    have h1 := ih (by omega)
    have h2 := hF f (by omega)
    rw [fbA]
    split
    · rw [wt_nI rSum_0 (by omega)]
      omega
    · omega
section C33
variable {w : gD} {W : Nat} {h : HS}
theorem e_w_seal (hw : wSh W h) (hW : W + 5 < hT h) {nf : Nat} (hnf : nf ≤ 2) (h3 : hI h W 3 = nI nf) {F : Nat → Nat → Int32} (hF : ∀ f, f < nf → wt (F f) ≤ 2) (pF : ∀ f, f < nf → ∃ a, hR h (W + 3) f = some a ∧ W + 5 ≤ a ∧ pcW h a (wt (F f)) (F f)) (pN : pcW h (W + 5) 0 (rPlain 0)) :
    Ev w 3 40 488 yX8_sealFacts cX8_sealFacts 4 none [.ref W] h (fun r' h' => r' = none ∧ sfI W h h' ((1 : Int32) <<< (nI nf &&& 31) - 1) ∧ hT h' ≤ hT h + 40 ∧ ∀ s, s < 4 → ∃ a, hR h' (W + 4) s = some a ∧ W + 5 ≤ a ∧ pcW h' a (wt (fbA (nI s) F nf)) (fbA (nI s) F nf)) := by
  refine g_start (by decide) (Nat.le_of_ble_eq_true rfl) [(0, _)] rfl (fun z hfl C => ?_)
  have outer : ∀ y set g, set + y = 4 → sfI W h g ((1 : Int32) <<< (nI nf &&& 31) - 1) → hT g ≤ hT h + 10 * set → (∀ s, s < set → ∃ a, hR g (W + 4) s = some a ∧ W + 5 ≤ a ∧ pcW g a (wt (fbA (nI s) F nf)) (fbA (nI s) F nf)) → GW z w 4 (gQ z w 40 488 (fun r' h'' => r' = none ∧ sfI W h h'' ((1 : Int32) <<< (nI nf &&& 31) - 1) ∧ hT h'' ≤ hT h + 40 ∧ ∀ s, s < 4 → ∃ a, hR h'' (W + 4) s = some a ∧ W + 5 ≤ a ∧ pcW h'' a (wt (fbA (nI s) F nf)) (fbA (nI s) F nf))) (10 * set) (122 * set) 14 [(0, .ref W), (1, .int (nI set))] [] g := by
    intro y
    induction y with
    | zero =>
      intro set g hs sg ht hb
      have es : set = 4 := by omega
      subst es
      have hwg := hw.sf hW sg
      refine g_iload_n C (gd DX8_sealFacts_0 10 rfl) 1 rfl rfl ?_
      refine g_aload_n C (gd DX8_sealFacts_0 11 rfl) 0 rfl rfl ?_
      refine g_getr (ci := 8) (k := 8) C rfl (by decide) rfl lf_TestJudge_World_40 hwg.1 hwg.2.2.2.2.1.1 (gd DX8_sealFacts_0 12 rfl) ?_
      refine g_alen_r C hwg.2.2.2.2.1.2.1 (gd DX8_sealFacts_0 13 rfl) ?_
      rw [hwg.2.2.2.2.1.2.2]
      refine g_icmp_ge C 79 (gd DX8_sealFacts_0 14 rfl) (by decide) (fun c20 => ?_) (fun c20 => ?_)
      · exact g_vret C (by omega) (by omega) ⟨rfl, sg, by omega, hb⟩ (gd DX8_sealFacts_0 47 rfl)
      · exact absurd (nI_le (a := 4) (b := 4) (Nat.le_refl _) (by omega)) c20
    | succ y ih =>
      intro set g hs sg ht hb
      have hwg := hw.sf hW sg
      have inner : ∀ x f t g, f + x = nf → sfI W h g ((1 : Int32) <<< (nI nf &&& 31) - 1) → hT g ≤ hT h + 10 * set + 5 * f → (∀ s, s < set → ∃ a, hR g (W + 4) s = some a ∧ W + 5 ≤ a ∧ pcW g a (wt (fbA (nI s) F nf)) (fbA (nI s) F nf)) → W + 5 ≤ t → pcW g t (wt (fbA (nI set) F f)) (fbA (nI set) F f) → GW z w 4 (gQ z w 40 488 (fun r' h'' => r' = none ∧ sfI W h h'' ((1 : Int32) <<< (nI nf &&& 31) - 1) ∧ hT h'' ≤ hT h + 40 ∧ ∀ s, s < 4 → ∃ a, hR h'' (W + 4) s = some a ∧ W + 5 ≤ a ∧ pcW h'' a (wt (fbA (nI s) F nf)) (fbA (nI s) F nf))) (10 * set + 5 * f) (122 * set + 61 * f) 30 [(0, .ref W), (1, .int (nI set)), (2, .ref t), (3, .int (nI f))] [] g := by
        intro x
        induction x with
        | zero =>
          intro f t g hf sg ht hb htl pt
          have ef : f = nf := by omega
          subst ef
          have hwg := hw.sf hW sg
          refine g_iload_n C (gd DX8_sealFacts_0 20 rfl) 3 rfl rfl ?_
          refine g_aload_n C (gd DX8_sealFacts_0 21 rfl) 0 rfl rfl ?_
          refine g_geti (ci := 8) (k := 3) C rfl (by decide) rfl lf_TestJudge_World_21 hwg.1 (gd DX8_sealFacts_0 22 rfl) ?_
          rw [sg.2.2.2.2.1 3 (by omega), h3]
          refine g_icmp_ge C 66 (gd DX8_sealFacts_0 23 rfl) (by decide) (fun c35 => ?_) (fun c35 => ?_)
          · refine GW.sub [0, 1, 2, 3] rfl (Nat.le_refl _) (Nat.le_refl _) (lv' := [(0, _), (1, _), (2, _), (3, _)]) ?_
            refine g_aload_n C (gd DX8_sealFacts_0 40 rfl) 0 rfl rfl ?_
            refine g_getr (ci := 8) (k := 8) C rfl (by decide) rfl lf_TestJudge_World_40 hwg.1 hwg.2.2.2.2.1.1 (gd DX8_sealFacts_0 41 rfl) ?_
            refine g_iload_n C (gd DX8_sealFacts_0 42 rfl) 1 rfl rfl ?_
            refine g_aload_n C (gd DX8_sealFacts_0 43 rfl) 2 rfl rfl ?_
            refine g_asj (j := set) C hwg.2.2.2.2.1.2.1 pt.2.2.1.1.1 hwg.2.2.2.2.1.2.2 (by omega) rfl (by omega) (gd DX8_sealFacts_0 44 rfl) ?_
            refine g_iinc (lv' := [(0, _), (1, _), (2, _), (3, _)]) C (gd DX8_sealFacts_0 45 rfl) 1 [1, 0, 2, 3] rfl rfl (by decide) rfl ?_
            refine g_goto (tgt := 14) C (gd DX8_sealFacts_0 46 rfl) (by decide) ?_
            refine GW.sub [0, 1] rfl (Nat.le_refl _) (Nat.le_refl _) (lv' := [(0, _), (1, _)]) ?_
            refine GW.cast (by rw [inc1]) rfl rfl (GW.sub (lv' := [(0, _), (1, _)]) [0, 1] rfl (by omega) (by omega) (ih (set + 1) _ (by omega) (sg.bar _ _) (by rw [hT_sR]; omega) (fun s hs2 => ?_)))
            by_cases e : s = set
            · subst e
              exact ⟨t, by rw [hR_sR, if_pos ⟨rfl, rfl⟩], htl, pt.bar htl⟩
            · obtain ⟨a, a1, a2, a3⟩ := hb s (by omega)
              exact ⟨a, by rw [hR_sR, if_neg (fun q => e q.2)]; exact a1, a2, a3.bar a2⟩
          · exact absurd (nI_le (Nat.le_refl _) (by omega)) c35
        | succ x ih2 =>
          intro f t g hf sg ht hb htl pt
          have hwg := hw.sf hW sg
          have h3g : hI g W 3 = nI nf := by rw [sg.2.2.2.2.1 3 (by omega), h3]
          refine g_iload_n C (gd DX8_sealFacts_0 20 rfl) 3 rfl rfl ?_
          refine g_aload_n C (gd DX8_sealFacts_0 21 rfl) 0 rfl rfl ?_
          refine g_geti (ci := 8) (k := 3) C rfl (by decide) rfl lf_TestJudge_World_21 hwg.1 (gd DX8_sealFacts_0 22 rfl) ?_
          rw [h3g]
          refine g_icmp_ge C 66 (gd DX8_sealFacts_0 23 rfl) (by decide) (fun c35 => ?_) (fun c35 => ?_)
          · exact absurd c35 (nI_ge (by omega) (by omega))
          · refine g_iload_n C (gd DX8_sealFacts_0 24 rfl) 1 rfl rfl ?_
            refine g_iload_n C (gd DX8_sealFacts_0 25 rfl) 3 rfl rfl ?_
            refine g_ishr C (gd DX8_sealFacts_0 26 rfl) ?_
            refine g_iconst (v := 1) C (gd DX8_sealFacts_0 27 rfl) (by decide) ?_
            refine g_iand C (gd DX8_sealFacts_0 28 rfl) ?_
            refine g_if_ne C 50 (gd DX8_sealFacts_0 29 rfl) (by decide) (fun c43 => ?_) (fun c43 => ?_)
            · have hbit : nI set >>> (nI f &&& 31) &&& 1 = 1 := (bit01 (nI set) (by omega : f < 32)).resolve_left c43
              obtain ⟨a, a1, a2, a3⟩ := pF f (by omega)
              have a1g : hR g (W + 3) f = some a := by rw [sg.2.2.2.1 (W + 3) (by omega) (by omega)]; exact a1
              have w1 := fbA_wt (s := nI set) hnf hF f (by omega)
              have w2 := hF f (by omega)
              refine g_aload_n C (gd DX8_sealFacts_0 32 rfl) 2 rfl rfl ?_
              refine g_aload_n C (gd DX8_sealFacts_0 33 rfl) 0 rfl rfl ?_
              refine g_iload_n C (gd DX8_sealFacts_0 34 rfl) 3 rfl rfl ?_
              refine g_cV1 (ci := 8) C [_] mX8_factPiece lm_TestJudge_World_50 (by exact hwg.1) rfl rfl (e_w_factPiece hwg (f := f) hnf h3g (by omega) a1g) hfl (by decide) (by decide) (by omega) (by omega) rfl rfl (Nat.le_of_ble_eq_true rfl) (gd DX8_sealFacts_0 35 rfl) ?_
              refine g_callS C [_, _] mX2_sum lm_TestJudge_World_57 (e_pc_sum pt (a3.sf a2 sg) (by omega)) hfl (by decide) (by decide) (by omega) (by omega) rfl rfl (Nat.le_of_ble_eq_true rfl) (gd DX8_sealFacts_0 36 rfl) (fun r h2 hp => ?_)
              obtain ⟨a', rfl, b1, b2, b3, b4⟩ := hp
              show GW z w 4 _ _ _ _ _ [.ref a'] _
              refine g_astore_n (lv' := [(0, _), (1, _), (2, _), (3, _)]) C (gd DX8_sealFacts_0 37 rfl) [1, 2, 0, 3] rfl (by decide) rfl ?_
              refine g_iinc (lv' := [(0, _), (1, _), (2, _), (3, _)]) C (gd DX8_sealFacts_0 38 rfl) 3 [1, 2, 3, 0] rfl rfl (by decide) rfl ?_
              refine g_goto (tgt := 30) C (gd DX8_sealFacts_0 39 rfl) (by decide) ?_
              refine GW.cast (by rw [inc1]) rfl rfl (GW.sub (lv' := [(0, _), (1, _), (2, _), (3, _)]) [0, 1, 2, 3] rfl (by omega) (by omega) (ih2 (f + 1) a' _ (by omega) (sg.ext (by omega) b2) (by omega) (fun s hs2 => ?_) ?_ ?_))
              · obtain ⟨q, q1, q2, q3⟩ := hb s hs2
                exact ⟨q, by rw [(b2.2 (W + 4) (Nat.lt_of_lt_of_le (by omega) sg.1)).2.2.1]; exact q1, q2, q3.ext b2⟩
              · have := sg.1
                omega
              · rw [fbA, if_pos hbit, wt_nI rSum_0 (by omega)]
                exact b4
            · have hbit : ¬ nI set >>> (nI f &&& 31) &&& 1 = 1 := by rw [c43]; decide
              refine g_aload_n C (gd DX8_sealFacts_0 30 rfl) 2 rfl rfl ?_
              refine g_goto (tgt := 59) C (gd DX8_sealFacts_0 31 rfl) (by decide) ?_
              refine g_astore_n (lv' := [(0, _), (1, _), (2, _), (3, _)]) C (gd DX8_sealFacts_0 37 rfl) [1, 2, 0, 3] rfl (by decide) rfl ?_
              refine g_iinc (lv' := [(0, _), (1, _), (2, _), (3, _)]) C (gd DX8_sealFacts_0 38 rfl) 3 [1, 2, 3, 0] rfl rfl (by decide) rfl ?_
              refine g_goto (tgt := 30) C (gd DX8_sealFacts_0 39 rfl) (by decide) ?_
              refine GW.cast (by rw [inc1]) rfl rfl (GW.sub (lv' := [(0, _), (1, _), (2, _), (3, _)]) [0, 1, 2, 3] rfl (by omega) (by omega) (ih2 (f + 1) t g (by omega) sg (by omega) hb htl ?_))
              rw [fbA, if_neg hbit]
              exact pt
      refine g_iload_n C (gd DX8_sealFacts_0 10 rfl) 1 rfl rfl ?_
      refine g_aload_n C (gd DX8_sealFacts_0 11 rfl) 0 rfl rfl ?_
      refine g_getr (ci := 8) (k := 8) C rfl (by decide) rfl lf_TestJudge_World_40 hwg.1 hwg.2.2.2.2.1.1 (gd DX8_sealFacts_0 12 rfl) ?_
      refine g_alen_r C hwg.2.2.2.2.1.2.1 (gd DX8_sealFacts_0 13 rfl) ?_
      rw [hwg.2.2.2.2.1.2.2]
      refine g_icmp_ge C 79 (gd DX8_sealFacts_0 14 rfl) (by decide) (fun c20 => ?_) (fun c20 => ?_)
      · exact absurd c20 (nI_ge (a := set) (b := 4) (by omega) (by omega))
      · refine g_aload_n C (gd DX8_sealFacts_0 15 rfl) 0 rfl rfl ?_
        refine g_getr (ci := 8) (k := 9) C rfl (by decide) rfl lf_TestJudge_World_46 hwg.1 hwg.2.2.2.2.2.1 (gd DX8_sealFacts_0 16 rfl) ?_
        refine g_astore_n (lv' := [(0, _), (1, _), (2, _)]) C (gd DX8_sealFacts_0 17 rfl) [1, 2, 0] rfl (by decide) rfl ?_
        refine g_iconst (v := 0) C (gd DX8_sealFacts_0 18 rfl) (by decide) ?_
        refine g_istore_n (lv' := [(0, _), (1, _), (2, _), (3, _)]) C (gd DX8_sealFacts_0 19 rfl) [1, 2, 3, 0] rfl (by decide) rfl ?_
        exact inner nf 0 (W + 5) g (by omega) sg (by omega) hb (Nat.le_refl _) (pN.sf (Nat.le_refl _) sg)
  have hwg := hw
  refine g_aload_n C (gd DX8_sealFacts_0 0 rfl) 0 rfl rfl ?_
  refine g_iconst (v := 1) C (gd DX8_sealFacts_0 1 rfl) (by decide) ?_
  refine g_aload_n C (gd DX8_sealFacts_0 2 rfl) 0 rfl rfl ?_
  refine g_geti (ci := 8) (k := 3) C rfl (by decide) rfl lf_TestJudge_World_21 hwg.1 (gd DX8_sealFacts_0 3 rfl) ?_
  rw [h3]
  refine g_ishl C (gd DX8_sealFacts_0 4 rfl) ?_
  refine g_iconst (v := 1) C (gd DX8_sealFacts_0 5 rfl) (by decide) ?_
  refine g_isub C (gd DX8_sealFacts_0 6 rfl) ?_
  refine g_puti (ci := 8) (k := 4) C rfl (by decide) rfl lf_TestJudge_World_24 hwg.1 (Or.inl rfl) rfl (gd DX8_sealFacts_0 7 rfl) ?_
  refine g_iconst (v := 0) C (gd DX8_sealFacts_0 8 rfl) (by decide) ?_
  refine g_istore_n (lv' := [(0, _), (1, _)]) C (gd DX8_sealFacts_0 9 rfl) [1, 0] rfl (by decide) rfl ?_
  refine outer 4 0 _ rfl ⟨Nat.le_refl _, fun b hb => ⟨rfl, rfl, rfl⟩, fun b hb hn => hI_sI_ne hn, fun b hb hn => rfl, fun k hk => ?_, ?_⟩ (Nat.le_refl _) (fun s hs => by omega)
  · rw [hI_sI, if_neg (fun q => hk q.2)]
  · rw [hI_sI, if_pos ⟨rfl, rfl⟩]
end C33
