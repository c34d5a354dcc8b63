/-! laysUseful: from which states some string goes on to its end -/
theorem nar_b {x : Int32} (h : x = 0 ∨ x = 1) : vp_nar .boolean x = x := by rcases h with rfl | rfl <;> rfl
/-- an end within d letters -/
def rch (go en : Nat → Int32) : Nat → Nat → Prop
  | 0, s => ¬ en s = 0
  | d + 1, s => rch go en d s ∨ ∃ k j, k < 24 ∧ go (24 * s + k) = nI j ∧ j < 16400 ∧ rch go en d j
def Us (go en : Nat → Int32) (s : Nat) : Prop := ∃ d, rch go en d s
theorem Us_step {go en : Nat → Int32} {s k j : Nat} (hk : k < 24) (hj : j < 16400) (e : go (24 * s + k) = nI j) (h : Us go en j) : Us go en s := by
  obtain ⟨d, hd⟩ := h
  exact ⟨d + 1, Or.inr ⟨k, j, hk, e, hj, hd⟩⟩
/-- how many below N are 1 -/
def cnt1 (U : Nat → Int32) : Nat → Nat
  | 0 => 0
  | n + 1 => cnt1 U n + (if U n = 1 then 1 else 0)
theorem cnt1_le (U : Nat → Int32) : ∀ n, cnt1 U n ≤ n
  | 0 => Nat.le_refl _
  | n + 1 => by have := cnt1_le U n; unfold cnt1; split <;> omega
theorem cnt1_mono {U V : Nat → Int32} : ∀ n, (∀ s, s < n → U s = 1 → V s = 1) → cnt1 U n ≤ cnt1 V n
  | 0, _ => Nat.le_refl _
  | n + 1, h => by
    have a := cnt1_mono n (fun s hs => h s (by omega))
    unfold cnt1
    by_cases q : U n = 1
    · rw [if_pos q, if_pos (h n (by omega) q)]; omega
    · rw [if_neg q]; split <;> omega
theorem cnt1_lt {U V : Nat → Int32} : ∀ n, (∀ s, s < n → U s = 1 → V s = 1) → (∃ s, s < n ∧ ¬ U s = 1 ∧ V s = 1) → cnt1 U n < cnt1 V n
  | 0, _, h2 => by obtain ⟨s, hs, -⟩ := h2; omega
  | n + 1, h, h2 => by
    obtain ⟨s, hs, g1, g2⟩ := h2
    unfold cnt1
    by_cases e : s = n
    · subst e
      have a := cnt1_mono s (fun t ht => h t (by omega))
      rw [if_neg g1, if_pos g2]; omega
    · have a := cnt1_lt n (fun t ht => h t (by omega)) ⟨s, by omega, g1, g2⟩
      by_cases q : U n = 1
      · rw [if_pos q, if_pos (h n (by omega) q)]; omega
      · rw [if_neg q]; split <;> omega
section M12
variable {w : gD} {m : Nat} {h : HS}
theorem sI_sF_same (h : HS) (a k : Nat) (f : Nat → Int32) (v : Int32) : sI (sF h a f) a k v = sF h a (upd f k v) := by rw [sI_sF, hI_sF_eq, sF_sF]
theorem e_m_laysUseful (hm : mSh m h) {N : Nat} (hN0 : N ≤ 16400) (hst : hI h m 42 = nI N) (hgo : ∀ e, e < 24 * N → hI h (m + 7) e = -1 ∨ ∃ j, j < N ∧ hI h (m + 7) e = nI j) :
    Ev w 0 0 0 yX10_laysUseful cX10_laysUseful 5 none [.ref m] h (fun r' h' => r' = none ∧ ∃ U, h' = sF h (m + 13) U ∧ ∀ s, s < N → (U s = 1 ∧ Us (hI h (m + 7)) (fun s => hI h (m + 8) s ||| hI h (m + 9) s) s) ∨ (U s = 0 ∧ ¬ Us (hI h (m + 7)) (fun s => hI h (m + 8) s ||| hI h (m + 9) s) s)) := by
  refine g_start (by decide) (Nat.le_of_ble_eq_true rfl) [(0, _)] rfl (fun z hfl C => ?_)
  generalize hen : (fun s => hI h (m + 8) s ||| hI h (m + 9) s) = en
  have henS : ∀ s, hI h (m + 8) s ||| hI h (m + 9) s = en s := fun s => by rw [← hen]
  generalize hgoE : hI h (m + 7) = go at *
  have rN : ∀ U, hI (sF h (m + 13) U) m 42 = nI N := fun U => by rw [hI_sF_ne (by omega)]; exact hst
  have r7 : ∀ U, hI (sF h (m + 13) U) (m + 7) = go := fun U => by rw [hI_sF_ne (by omega)]; exact hgoE
  have r8 : ∀ U s, hI (sF h (m + 13) U) (m + 8) s ||| hI (sF h (m + 13) U) (m + 9) s = en s := fun U s => by rw [hI_sF_ne (by omega), hI_sF_ne (by omega)]; exact henS s
  -- the passes
  have pass : ∀ f (U : Nat → Int32) (mo : Int32), N < cnt1 U N + f + (if mo = 0 then 1 else 0) → (mo = 0 ∨ mo = 1) → (∀ s, s < N → U s = 0 ∨ U s = 1) → (∀ s, s < N → U s = 1 → Us go en s) → (∀ s, s < N → ¬ en s = 0 → U s = 1) → (mo = 0 → ∀ s, s < N → ∀ k j, k < 24 → go (24 * s + k) = nI j → j < N → U j = 1 → U s = 1) →
      GW z w 5 (gQ z w 0 0 (fun r' h'' => r' = none ∧ ∃ U, h'' = sF h (m + 13) U ∧ ∀ s, s < N → (U s = 1 ∧ Us go en s) ∨ (U s = 0 ∧ ¬ Us go en s))) 0 0 45 [(0, .ref m), (1, .int mo)] [] (sF h (m + 13) U) := by
    intro f
    induction f with
    | zero =>
      intro U mo hf hmo hU1 hU2 hU3 hU4
      have hc := cnt1_le U N
      have hm0 : mo = 0 := by
        rcases hmo with q | q
        · exact q
        · rw [if_neg (by rw [q]; decide)] at hf; omega
      refine g_iload_n C (gd DX10_laysUseful_0 27 rfl) 1 rfl rfl ?_
      refine g_if_eq C 167 (gd DX10_laysUseful_0 28 rfl) (by decide) (fun c46 => ?_) (fun c46 => ?_)
      · refine g_vret C (by omega) (by omega) ?_ (gd DX10_laysUseful_1 38 rfl)
        refine ⟨rfl, U, rfl, fun s hs => ?_⟩
        rcases hU1 s hs with q | q
        · refine Or.inr ⟨q, fun z1 => ?_⟩
          obtain ⟨d, hd⟩ := z1
          have key : ∀ d s, s < N → rch go en d s → U s = 1 := by
            intro d
            induction d with
            | zero => intro s hs hd; exact hU3 s hs hd
            | succ d ihd =>
              intro s hs hd
              rcases hd with hd | ⟨k, j, hk, e, hj, hd⟩
              · exact ihd s hs hd
              · have hjN : j < N := by
                  rcases hgo (24 * s + k) (by omega) with q1 | ⟨j', q1, q2⟩
                  · rw [q1] at e
                    have := congrArg Int32.toInt e
                    rw [nI_toInt (by omega)] at this
                    simp at this
                  · rw [q2] at e
                    have := (nI_eq (by omega) (by omega)).mp e
                    omega
                exact hU4 hm0 s hs k j hk e hjN (ihd j hjN hd)
          have := key d s hs hd
          rw [q] at this
          exact absurd this (by decide)
        · exact Or.inl ⟨q, hU2 s hs q⟩
      · exact absurd hm0 c46
    | succ f ihf =>
      intro U mo hf hmo hU1 hU2 hU3 hU4
      by_cases hm0 : mo = 0
      · refine g_iload_n C (gd DX10_laysUseful_0 27 rfl) 1 rfl rfl ?_
        refine g_if_eq C 167 (gd DX10_laysUseful_0 28 rfl) (by decide) (fun c46 => ?_) (fun c46 => ?_)
        · refine g_vret C (by omega) (by omega) ?_ (gd DX10_laysUseful_1 38 rfl)
          refine ⟨rfl, U, rfl, fun s hs => ?_⟩
          rcases hU1 s hs with q | q
          · refine Or.inr ⟨q, fun z1 => ?_⟩
            obtain ⟨d, hd⟩ := z1
            have key : ∀ d s, s < N → rch go en d s → U s = 1 := by
              intro d
              induction d with
              | zero => intro s hs hd; exact hU3 s hs hd
              | succ d ihd =>
                intro s hs hd
                rcases hd with hd | ⟨k, j, hk, e, hj, hd⟩
                · exact ihd s hs hd
                · have hjN : j < N := by
                    rcases hgo (24 * s + k) (by omega) with q1 | ⟨j', q1, q2⟩
                    · rw [q1] at e
                      have := congrArg Int32.toInt e
                      rw [nI_toInt (by omega)] at this
                      simp at this
                    · rw [q2] at e
                      have := (nI_eq (by omega) (by omega)).mp e
                      omega
                  exact hU4 hm0 s hs k j hk e hjN (ihd j hjN hd)
            have := key d s hs hd
            rw [q] at this
            exact absurd this (by decide)
          · exact Or.inl ⟨q, hU2 s hs q⟩
        · exact absurd hm0 c46
      · -- one pass: s from N - 1 down; s1 = s + 1 states are left
        rw [if_neg hm0] at hf
        have down : ∀ s1 V (mv : Int32), s1 ≤ N → (mv = 0 ∨ mv = 1) → (∀ s, s < N → V s = 0 ∨ V s = 1) → (∀ s, s < N → U s = 1 → V s = 1) → (∀ s, s < N → V s = 1 → Us go en s) → (mv = 0 → ∀ s, s < N → V s = U s) → (mv = 1 → ∃ s, s < N ∧ ¬ U s = 1 ∧ V s = 1) → (mv = 0 → ∀ s, s1 ≤ s → s < N → ∀ k j, k < 24 → go (24 * s + k) = nI j → j < N → U j = 1 → U s = 1) →
            GW z w 5 (gQ z w 0 0 (fun r' h'' => r' = none ∧ ∃ U, h'' = sF h (m + 13) U ∧ ∀ s, s < N → (U s = 1 ∧ Us go en s) ∨ (U s = 0 ∧ ¬ Us go en s))) 0 0 58 [(0, .ref m), (1, .int mv), (2, .int (nI s1 - 1))] [] (sF h (m + 13) V) := by
          intro s1
          induction s1 with
          | zero =>
            intro V mv h1 hmv v1 v2 v3 v4 v5 v6
            refine g_iload_n C (gd DX10_laysUseful_0 36 rfl) 2 rfl rfl ?_
            refine g_if_lt C 164 (gd DX10_laysUseful_0 37 rfl) (by decide) (fun c59 => ?_) (fun c59 => ?_)
            · refine g_goto (tgt := 45) C (gd DX10_laysUseful_1 37 rfl) (by decide) ?_
              refine GW.sub [0, 1] rfl (Nat.le_refl _) (Nat.le_refl _) (lv' := [(0, _), (1, _)]) ?_
              refine ihf V mv ?_ hmv v1 v3 (fun s hs q => v2 s hs (hU3 s hs q)) (fun q s hs k j hk e hj g => ?_)
              · rcases hmv with q | q
                · rw [if_pos q]
                  have := cnt1_mono (U := U) (V := V) N v2
                  omega
                · have := cnt1_lt (U := U) (V := V) N v2 (v5 q)
                  omega
              · rw [v4 q s hs]
                exact v6 q s (by omega) hs k j hk e hj (by rw [← v4 q j hj]; exact g)
            · exact absurd (show nI 0 - 1 < 0 by decide) c59
          | succ s ihs =>
            intro V mv h1 hmv v1 v2 v3 v4 v5 v6
            have hsN : s < N := by omega
            rw [nI_pred]
            -- behind the letters of s: v is whether s is useful
            have last : ∀ (k : Nat) (v : Int32), (v = 0 ∨ v = 1) → (v = 1 → Us go en s) → (V s = 1 → v = 1) → (v = 0 → ∀ k j, k < 24 → go (24 * s + k) = nI j → j < N → V j = 1 → V s = 1) → GW z w 5 (gQ z w 0 0 (fun r' h'' => r' = none ∧ ∃ U, h'' = sF h (m + 13) U ∧ ∀ s, s < N → (U s = 1 ∧ Us go en s) ∨ (U s = 0 ∧ ¬ Us go en s))) 0 0 131 [(0, .ref m), (1, .int mv), (2, .int (nI s)), (3, .int v), (4, .int (nI k))] [] (sF h (m + 13) V) := by
              intro k v hv hv1 hv2 hv3
              have fin : ∀ mv2 : Int32, (mv2 = 0 ∨ mv2 = 1) → (mv2 = 0 → mv = 0 ∧ v = V s) → (mv2 = 1 → mv = 1 ∨ ¬ v = V s) → GW z w 5 (gQ z w 0 0 (fun r' h'' => r' = none ∧ ∃ U, h'' = sF h (m + 13) U ∧ ∀ s, s < N → (U s = 1 ∧ Us go en s) ∨ (U s = 0 ∧ ¬ Us go en s))) 0 0 150 [(0, .ref m), (1, .int mv), (2, .int (nI s)), (3, .int v), (4, .int (nI k))] [.int mv2] (sF h (m + 13) V) := by
                intro mv2 hm2 a1 a2
                refine g_istore_n (lv' := [(0, _), (1, _), (2, _), (3, _), (4, _)]) C (gd DX10_laysUseful_1 29 rfl) [1, 0, 2, 3, 4] rfl (by decide) rfl ?_
                refine g_aload_n C (gd DX10_laysUseful_1 30 rfl) 0 rfl rfl ?_
                refine g_getr (ci := 10) (k := 41) C rfl (by decide) rfl lf_TestJudgeModel_59 hm.1 (hm.2 41 13 15 16500 rfl).1 (gd DX10_laysUseful_1 31 rfl) ?_
                refine g_iload_n C (gd DX10_laysUseful_1 32 rfl) 2 rfl rfl ?_
                refine g_iload_n C (gd DX10_laysUseful_1 33 rfl) 3 rfl rfl ?_
                refine g_zsj (j := s) C (hm.2 41 13 15 16500 rfl).2.1 (hm.2 41 13 15 16500 rfl).2.2 (by decide) rfl (by omega) (gd DX10_laysUseful_1 34 rfl) ?_
                rw [nar_b hv, sI_sF_same]
                refine g_iinc (lv' := [(0, _), (1, _), (2, _), (3, _), (4, _)]) C (gd DX10_laysUseful_1 35 rfl) 2 [1, 2, 0, 3, 4] rfl rfl (by decide) rfl ?_
                refine g_goto (tgt := 58) C (gd DX10_laysUseful_1 36 rfl) (by decide) ?_
                refine GW.sub [0, 1, 2] rfl (Nat.le_refl _) (Nat.le_refl _) (lv' := [(0, _), (1, _), (2, _)]) ?_
                have eu : ∀ t, upd V s v t = if t = s then v else V t := fun t => rfl
                refine GW.cast (by rw [show nI s + Int32.ofInt (-1) = nI s - 1 from by rw [Int32.sub_eq_add_neg]; rfl]) rfl rfl (ihs (upd V s v) mv2 (by omega) hm2 (fun t ht => ?_) (fun t ht q => ?_) (fun t ht q => ?_) (fun q t ht => ?_) (fun q => ?_) (fun q t t1 ht k j hk e hj g => ?_))
                · rw [eu]; split
                  · exact hv
                  · exact v1 t ht
                · rw [eu]; split
                  · rename_i e; subst e; exact hv2 (v2 t ht q)
                  · exact v2 t ht q
                · rw [eu] at q; split at q
                  · rename_i e; subst e; exact hv1 q
                  · exact v3 t ht q
                · obtain ⟨b1', b2'⟩ := a1 q
                  rw [eu]; split
                  · rename_i e; subst e; rw [b2']; exact v4 b1' t ht
                  · exact v4 b1' t ht
                · rcases a2 q with q1 | q1
                  · obtain ⟨t, t1, t2, t3⟩ := v5 q1
                    refine ⟨t, t1, t2, ?_⟩
                    rw [eu]; split
                    · rename_i e; subst e; exact hv2 t3
                    · exact t3
                  · refine ⟨s, hsN, fun q2 => ?_, ?_⟩
                    · have q3 := v2 s hsN q2
                      exact q1 (by rw [hv2 q3, q3])
                    · rw [eu, if_pos rfl]
                      rcases hv with q2 | q2
                      · exfalso
                        rcases v1 s hsN with q3 | q3
                        · exact q1 (by rw [q2, q3])
                        · exact absurd (hv2 q3) (by rw [q2]; decide)
                      · exact q2
                · obtain ⟨b1', b2'⟩ := a1 q
                  by_cases e2 : t = s
                  · subst e2
                    rcases hU1 t ht with q3 | q3
                    · have q4 : v = 0 := by rw [b2', v4 b1' t ht]; exact q3
                      have := hv3 q4 k j hk e hj (by rw [v4 b1' j hj]; exact g)
                      rw [v4 b1' t ht] at this
                      exact this
                    · exact q3
                  · exact v6 b1' t (by omega) ht k j hk e hj g
              refine g_iload_n C (gd DX10_laysUseful_1 18 rfl) 1 rfl rfl ?_
              refine g_if_ne C 145 (gd DX10_laysUseful_1 19 rfl) (by decide) (fun c132 => ?_) (fun c132 => ?_)
              · refine g_iconst (v := 1) C (gd DX10_laysUseful_1 26 rfl) (by decide) ?_
                refine g_goto (tgt := 150) C (gd DX10_laysUseful_1 27 rfl) (by decide) ?_
                exact fin 1 (Or.inr rfl) (fun q => absurd q (by decide)) (fun _ => Or.inl (by rcases hmv with q | q; exact absurd q c132; exact q))
              · refine g_iload_n C (gd DX10_laysUseful_1 20 rfl) 3 rfl rfl ?_
                refine g_aload_n C (gd DX10_laysUseful_1 21 rfl) 0 rfl rfl ?_
                refine g_getr (ci := 10) (k := 41) C rfl (by decide) rfl lf_TestJudgeModel_59 hm.1 (hm.2 41 13 15 16500 rfl).1 (gd DX10_laysUseful_1 22 rfl) ?_
                refine g_iload_n C (gd DX10_laysUseful_1 23 rfl) 2 rfl rfl ?_
                refine g_zaj (j := s) C (hm.2 41 13 15 16500 rfl).2.1 (hm.2 41 13 15 16500 rfl).2.2 (by decide) rfl (by omega) (gd DX10_laysUseful_1 24 rfl) ?_
                rw [hI_sF_eq]
                refine g_icmp_eq C 149 (gd DX10_laysUseful_1 25 rfl) (by decide) (fun c142 => ?_) (fun c142 => ?_)
                · refine g_iconst (v := 0) C (gd DX10_laysUseful_1 28 rfl) (by decide) ?_
                  exact fin 0 (Or.inl rfl) (fun _ => ⟨c132, c142⟩) (fun q => absurd q (by decide))
                · refine g_iconst (v := 1) C (gd DX10_laysUseful_1 26 rfl) (by decide) ?_
                  refine g_goto (tgt := 150) C (gd DX10_laysUseful_1 27 rfl) (by decide) ?_
                  exact fin 1 (Or.inr rfl) (fun q => absurd q (by decide)) (fun _ => Or.inr c142)
            have lett : ∀ n k (v : Int32), k + n = 24 → (v = 0 ∨ v = 1) → (v = 1 → Us go en s) → (V s = 1 → v = 1) → (v = 0 → ∀ k' j, k' < k → go (24 * s + k') = nI j → j < N → ¬ V j = 1) → GW z w 5 (gQ z w 0 0 (fun r' h'' => r' = none ∧ ∃ U, h'' = sF h (m + 13) U ∧ ∀ s, s < N → (U s = 1 ∧ Us go en s) ∨ (U s = 0 ∧ ¬ Us go en s))) 0 0 72 [(0, .ref m), (1, .int mv), (2, .int (nI s)), (3, .int v), (4, .int (nI k))] [] (sF h (m + 13) V) := by
              intro n
              induction n with
              | zero =>
                intro k v hk hv a1 a2 a3
                refine g_iload C (gd DX10_laysUseful_0 45 rfl) 4 rfl ?_
                refine g_bipush (v := 24) C (gd DX10_laysUseful_0 46 rfl) (by decide) ?_
                refine g_icmp_ge C 131 (gd DX10_laysUseful_0 47 rfl) (by decide) (fun c76 => ?_) (fun c76 => ?_)
                · exact last k v hv a1 a2 (fun q k' j hk' e hj g => absurd g (a3 q k' j (by omega) e hj))
                · exact absurd (nI_le (a := 24) (b := k) (by omega) (by omega)) c76
              | succ n ihn =>
                intro k v hk hv a1 a2 a3
                refine g_iload C (gd DX10_laysUseful_0 45 rfl) 4 rfl ?_
                refine g_bipush (v := 24) C (gd DX10_laysUseful_0 46 rfl) (by decide) ?_
                refine g_icmp_ge C 131 (gd DX10_laysUseful_0 47 rfl) (by decide) (fun c76 => ?_) (fun c76 => ?_)
                · exact absurd c76 (nI_ge (a := k) (b := 24) (by omega) (by omega))
                · refine g_iload_n C (gd DX10_laysUseful_0 48 rfl) 3 rfl rfl ?_
                  refine g_if_ne C 131 (gd DX10_laysUseful_0 49 rfl) (by decide) (fun c80 => ?_) (fun c80 => ?_)
                  · exact last k v hv a1 a2 (fun q => absurd q c80)
                  · have nxt : ∀ v2 : Int32, (v2 = 0 ∨ v2 = 1) → (v2 = 1 → Us go en s) → (v2 = 0 → ∀ j, go (24 * s + k) = nI j → j < N → ¬ V j = 1) → GW z w 5 (gQ z w 0 0 (fun r' h'' => r' = none ∧ ∃ U, h'' = sF h (m + 13) U ∧ ∀ s, s < N → (U s = 1 ∧ Us go en s) ∨ (U s = 0 ∧ ¬ Us go en s))) 0 0 124 [(0, .ref m), (1, .int mv), (2, .int (nI s)), (3, .int v), (4, .int (nI k))] [.int v2] (sF h (m + 13) V) := by
                      intro v2 hv2 b1' b2'
                      refine g_istore_n (lv' := [(0, _), (1, _), (2, _), (3, _), (4, _)]) C (gd DX10_laysUseful_1 15 rfl) [1, 2, 3, 0, 4] rfl (by decide) rfl ?_
                      refine g_iinc (lv' := [(0, _), (1, _), (2, _), (3, _), (4, _)]) C (gd DX10_laysUseful_1 16 rfl) 4 [1, 2, 3, 4, 0] rfl rfl (by decide) rfl ?_
                      refine g_goto (tgt := 72) C (gd DX10_laysUseful_1 17 rfl) (by decide) ?_
                      refine GW.cast (by rw [inc1]) rfl rfl (ihn (k + 1) v2 (by omega) hv2 b1' (fun q => ?_) (fun q k' j hk' e hj => ?_))
                      · have := a2 q
                        rw [c80] at this
                        exact absurd this (by decide)
                      · by_cases e2 : k' = k
                        · subst e2; exact b2' q j e hj
                        · exact a3 c80 k' j (by omega) e hj
                    refine g_aload_n C (gd DX10_laysUseful_0 50 rfl) 0 rfl rfl ?_
                    refine g_getr (ci := 10) (k := 35) C rfl (by decide) rfl lf_TestJudgeModel_41 hm.1 (hm.2 35 7 12 396000 rfl).1 (gd DX10_laysUseful_0 51 rfl) ?_
                    refine g_bipush (v := 24) C (gd DX10_laysUseful_0 52 rfl) (by decide) ?_
                    refine g_iload_n C (gd DX10_laysUseful_0 53 rfl) 2 rfl rfl ?_
                    refine g_imul C (gd DX10_laysUseful_0 54 rfl) ?_
                    refine g_iload C (gd DX10_laysUseful_0 55 rfl) 4 rfl ?_
                    refine g_iadd C (gd DX10_laysUseful_0 56 rfl) ?_
                    refine g_iaj (j := ((24 * s) + k)) C (hm.2 35 7 12 396000 rfl).2.1 (hm.2 35 7 12 396000 rfl).2.2 (by decide) (nx_add (nx_mul rfl rfl) rfl) (by omega) (gd DX10_laysUseful_0 57 rfl) ?_
                    rw [r7]
                    refine g_iconst (v := -1) C (gd DX10_laysUseful_0 58 rfl) (by decide) ?_
                    refine g_icmp_eq C 123 (gd DX10_laysUseful_0 59 rfl) (by decide) (fun c96 => ?_) (fun c96 => ?_)
                    · refine g_iconst (v := 0) C (gd DX10_laysUseful_1 14 rfl) (by decide) ?_
                      exact nxt 0 (Or.inl rfl) (fun q => absurd q (by decide)) (fun _ j e hj => by
                        rw [c96] at e
                        have := congrArg Int32.toInt e
                        rw [nI_toInt (by omega)] at this
                        simp at this)
                    · obtain ⟨j, hj, ej⟩ : ∃ j, j < N ∧ go (24 * s + k) = nI j := by
                        rcases hgo (24 * s + k) (by omega) with q | q
                        · exact absurd q c96
                        · exact q
                      refine g_aload_n C (gd DX10_laysUseful_1 0 rfl) 0 rfl rfl ?_
                      refine g_getr (ci := 10) (k := 41) C rfl (by decide) rfl lf_TestJudgeModel_59 hm.1 (hm.2 41 13 15 16500 rfl).1 (gd DX10_laysUseful_1 1 rfl) ?_
                      refine g_aload_n C (gd DX10_laysUseful_1 2 rfl) 0 rfl rfl ?_
                      refine g_getr (ci := 10) (k := 35) C rfl (by decide) rfl lf_TestJudgeModel_41 hm.1 (hm.2 35 7 12 396000 rfl).1 (gd DX10_laysUseful_1 3 rfl) ?_
                      refine g_bipush (v := 24) C (gd DX10_laysUseful_1 4 rfl) (by decide) ?_
                      refine g_iload_n C (gd DX10_laysUseful_1 5 rfl) 2 rfl rfl ?_
                      refine g_imul C (gd DX10_laysUseful_1 6 rfl) ?_
                      refine g_iload C (gd DX10_laysUseful_1 7 rfl) 4 rfl ?_
                      refine g_iadd C (gd DX10_laysUseful_1 8 rfl) ?_
                      refine g_iaj (j := ((24 * s) + k)) C (hm.2 35 7 12 396000 rfl).2.1 (hm.2 35 7 12 396000 rfl).2.2 (by decide) (nx_add (nx_mul rfl rfl) rfl) (by omega) (gd DX10_laysUseful_1 9 rfl) ?_
                      rw [r7, ej]
                      refine g_zaj (j := j) C (hm.2 41 13 15 16500 rfl).2.1 (hm.2 41 13 15 16500 rfl).2.2 (by decide) rfl (by omega) (gd DX10_laysUseful_1 10 rfl) ?_
                      rw [hI_sF_eq]
                      refine g_if_eq C 123 (gd DX10_laysUseful_1 11 rfl) (by decide) (fun c116 => ?_) (fun c116 => ?_)
                      · refine g_iconst (v := 0) C (gd DX10_laysUseful_1 14 rfl) (by decide) ?_
                        exact nxt 0 (Or.inl rfl) (fun q => absurd q (by decide)) (fun _ j' e hj' => by
                          rw [ej] at e
                          have := (nI_eq (by omega) (by omega)).mp e
                          subst this
                          rw [c116]
                          decide)
                      · refine g_iconst (v := 1) C (gd DX10_laysUseful_1 12 rfl) (by decide) ?_
                        refine g_goto (tgt := 124) C (gd DX10_laysUseful_1 13 rfl) (by decide) ?_
                        have hVj : V j = 1 := by
                          rcases v1 j hj with q | q
                          · exact absurd q c116
                          · exact q
                        exact nxt 1 (Or.inr rfl) (fun _ => Us_step (k := k) (by omega) (by omega) ej (v3 j hj hVj)) (fun q => absurd q (by decide))
            refine g_iload_n C (gd DX10_laysUseful_0 36 rfl) 2 rfl rfl ?_
            refine g_if_lt C 164 (gd DX10_laysUseful_0 37 rfl) (by decide) (fun c59 => ?_) (fun c59 => ?_)
            · exact absurd c59 (nI_pos (by omega))
            · refine g_aload_n C (gd DX10_laysUseful_0 38 rfl) 0 rfl rfl ?_
              refine g_getr (ci := 10) (k := 41) C rfl (by decide) rfl lf_TestJudgeModel_59 hm.1 (hm.2 41 13 15 16500 rfl).1 (gd DX10_laysUseful_0 39 rfl) ?_
              refine g_iload_n C (gd DX10_laysUseful_0 40 rfl) 2 rfl rfl ?_
              refine g_zaj (j := s) C (hm.2 41 13 15 16500 rfl).2.1 (hm.2 41 13 15 16500 rfl).2.2 (by decide) rfl (by omega) (gd DX10_laysUseful_0 41 rfl) ?_
              rw [hI_sF_eq]
              refine g_istore_n (lv' := [(0, _), (1, _), (2, _), (3, _)]) C (gd DX10_laysUseful_0 42 rfl) [1, 2, 3, 0] rfl (by decide) rfl ?_
              refine g_iconst (v := 0) C (gd DX10_laysUseful_0 43 rfl) (by decide) ?_
              refine g_istore (lv' := [(0, _), (1, _), (2, _), (3, _), (4, _)]) C (gd DX10_laysUseful_0 44 rfl) [1, 2, 3, 4, 0] (by decide) rfl ?_
              exact lett 24 0 (V s) rfl (v1 s hsN) (v3 s hsN) (fun q => q) (fun q k' j hk' => by omega)
        refine g_iload_n C (gd DX10_laysUseful_0 27 rfl) 1 rfl rfl ?_
        refine g_if_eq C 167 (gd DX10_laysUseful_0 28 rfl) (by decide) (fun c46 => ?_) (fun c46 => ?_)
        · exact absurd c46 hm0
        · refine g_iconst (v := 0) C (gd DX10_laysUseful_0 29 rfl) (by decide) ?_
          refine g_istore_n (lv' := [(0, _), (1, _)]) C (gd DX10_laysUseful_0 30 rfl) [1, 0] rfl (by decide) rfl ?_
          refine g_aload_n C (gd DX10_laysUseful_0 31 rfl) 0 rfl rfl ?_
          refine g_geti (ci := 10) (k := 42) C rfl (by decide) rfl lf_TestJudgeModel_357 hm.1 (gd DX10_laysUseful_0 32 rfl) ?_
          rw [rN]
          refine g_iconst (v := 1) C (gd DX10_laysUseful_0 33 rfl) (by decide) ?_
          refine g_isub C (gd DX10_laysUseful_0 34 rfl) ?_
          refine g_istore_n (lv' := [(0, _), (1, _), (2, _)]) C (gd DX10_laysUseful_0 35 rfl) [1, 2, 0] rfl (by decide) rfl ?_
          exact down N U 0 (Nat.le_refl _) (Or.inl rfl) hU1 (fun _ _ q => q) hU2 (fun _ _ _ => rfl) (fun q => absurd q (by decide)) (fun _ s q1 q2 => by omega)
  have first : ∀ n s (U : Nat → Int32), s + n = N → (∀ t, t < s → (U t = 1 ∧ ¬ en t = 0) ∨ (U t = 0 ∧ en t = 0)) → GW z w 5 (gQ z w 0 0 (fun r' h'' => r' = none ∧ ∃ U, h'' = sF h (m + 13) U ∧ ∀ s, s < N → (U s = 1 ∧ Us go en s) ∨ (U s = 0 ∧ ¬ Us go en s))) 0 0 2 [(0, .ref m), (1, .int (nI s))] [] (sF h (m + 13) U) := by
    intro n
    induction n with
    | zero =>
      intro s U hs hU
      refine g_iload_n C (gd DX10_laysUseful_0 2 rfl) 1 rfl rfl ?_
      refine g_aload_n C (gd DX10_laysUseful_0 3 rfl) 0 rfl rfl ?_
      refine g_geti (ci := 10) (k := 42) C rfl (by decide) rfl lf_TestJudgeModel_357 hm.1 (gd DX10_laysUseful_0 4 rfl) ?_
      rw [rN]
      refine g_icmp_ge C 43 (gd DX10_laysUseful_0 5 rfl) (by decide) (fun c7 => ?_) (fun c7 => ?_)
      · refine g_iconst (v := 1) C (gd DX10_laysUseful_0 25 rfl) (by decide) ?_
        refine g_istore_n (lv' := [(0, _), (1, _)]) C (gd DX10_laysUseful_0 26 rfl) [1, 0] rfl (by decide) rfl ?_
        refine pass (N + 1) U 1 ?_ (Or.inr rfl) (fun t ht => ?_) (fun t ht q => ?_) (fun t ht q => ?_) (fun q => absurd q (by decide))
        · rw [if_neg (by decide)]; omega
        · rcases hU t (by omega) with q | q
          · exact Or.inr q.1
          · exact Or.inl q.1
        · rcases hU t (by omega) with q1 | q1
          · exact ⟨0, q1.2⟩
          · rw [q1.1] at q; exact absurd q (by decide)
        · rcases hU t (by omega) with q1 | q1
          · exact q1.1
          · exact absurd q1.2 q
      · exact absurd (nI_le (by omega) (by omega)) c7
    | succ n ih =>
      intro s U hs hU
      have put : ∀ v : Int32, (v = 1 ∧ ¬ en s = 0) ∨ (v = 0 ∧ en s = 0) → GW z w 5 (gQ z w 0 0 (fun r' h'' => r' = none ∧ ∃ U, h'' = sF h (m + 13) U ∧ ∀ s, s < N → (U s = 1 ∧ Us go en s) ∨ (U s = 0 ∧ ¬ Us go en s))) 0 0 36 [(0, .ref m), (1, .int (nI s))] [.int v, .int (nI s), .ref (m + 13)] (sF h (m + 13) U) := by
        intro v hv
        refine g_zsj (j := s) C (hm.2 41 13 15 16500 rfl).2.1 (hm.2 41 13 15 16500 rfl).2.2 (by decide) rfl (by omega) (gd DX10_laysUseful_0 22 rfl) ?_
        rw [nar_b (by rcases hv with q | q; exact Or.inr q.1; exact Or.inl q.1), sI_sF_same]
        refine g_iinc (lv' := [(0, _), (1, _)]) C (gd DX10_laysUseful_0 23 rfl) 1 [1, 0] rfl rfl (by decide) rfl ?_
        refine g_goto (tgt := 2) C (gd DX10_laysUseful_0 24 rfl) (by decide) ?_
        refine GW.cast (by rw [inc1]) rfl rfl (ih (s + 1) _ (by omega) (fun t ht => ?_))
        unfold upd
        split
        · rename_i e; subst e; exact hv
        · exact hU t (by omega)
      refine g_iload_n C (gd DX10_laysUseful_0 2 rfl) 1 rfl rfl ?_
      refine g_aload_n C (gd DX10_laysUseful_0 3 rfl) 0 rfl rfl ?_
      refine g_geti (ci := 10) (k := 42) C rfl (by decide) rfl lf_TestJudgeModel_357 hm.1 (gd DX10_laysUseful_0 4 rfl) ?_
      rw [rN]
      refine g_icmp_ge C 43 (gd DX10_laysUseful_0 5 rfl) (by decide) (fun c7 => ?_) (fun c7 => ?_)
      · exact absurd c7 (nI_ge (by omega) (by omega))
      · refine g_aload_n C (gd DX10_laysUseful_0 6 rfl) 0 rfl rfl ?_
        refine g_getr (ci := 10) (k := 41) C rfl (by decide) rfl lf_TestJudgeModel_59 hm.1 (hm.2 41 13 15 16500 rfl).1 (gd DX10_laysUseful_0 7 rfl) ?_
        refine g_iload_n C (gd DX10_laysUseful_0 8 rfl) 1 rfl rfl ?_
        refine g_aload_n C (gd DX10_laysUseful_0 9 rfl) 0 rfl rfl ?_
        refine g_getr (ci := 10) (k := 36) C rfl (by decide) rfl lf_TestJudgeModel_44 hm.1 (hm.2 36 8 12 16500 rfl).1 (gd DX10_laysUseful_0 10 rfl) ?_
        refine g_iload_n C (gd DX10_laysUseful_0 11 rfl) 1 rfl rfl ?_
        refine g_iaj (j := s) C (hm.2 36 8 12 16500 rfl).2.1 (hm.2 36 8 12 16500 rfl).2.2 (by decide) rfl (by omega) (gd DX10_laysUseful_0 12 rfl) ?_
        refine g_aload_n C (gd DX10_laysUseful_0 13 rfl) 0 rfl rfl ?_
        refine g_getr (ci := 10) (k := 37) C rfl (by decide) rfl lf_TestJudgeModel_47 hm.1 (hm.2 37 9 12 16500 rfl).1 (gd DX10_laysUseful_0 14 rfl) ?_
        refine g_iload_n C (gd DX10_laysUseful_0 15 rfl) 1 rfl rfl ?_
        refine g_iaj (j := s) C (hm.2 37 9 12 16500 rfl).2.1 (hm.2 37 9 12 16500 rfl).2.2 (by decide) rfl (by omega) (gd DX10_laysUseful_0 16 rfl) ?_
        refine g_ior C (gd DX10_laysUseful_0 17 rfl) ?_
        rw [r8]
        refine g_if_eq C 35 (gd DX10_laysUseful_0 18 rfl) (by decide) (fun c28 => ?_) (fun c28 => ?_)
        · refine g_iconst (v := 0) C (gd DX10_laysUseful_0 21 rfl) (by decide) ?_
          exact put 0 (Or.inr ⟨rfl, c28⟩)
        · refine g_iconst (v := 1) C (gd DX10_laysUseful_0 19 rfl) (by decide) ?_
          refine g_goto (tgt := 36) C (gd DX10_laysUseful_0 20 rfl) (by decide) ?_
          exact put 1 (Or.inl ⟨rfl, c28⟩)
  refine g_iconst (v := 0) C (gd DX10_laysUseful_0 0 rfl) (by decide) ?_
  refine g_istore_n (lv' := [(0, _), (1, _)]) C (gd DX10_laysUseful_0 1 rfl) [1, 0] rfl (by decide) rfl ?_
  exact GW.cast rfl rfl (by rw [sF_self]) (first N 0 (hI h (m + 13)) (by omega) (fun t ht => by omega))
end M12
