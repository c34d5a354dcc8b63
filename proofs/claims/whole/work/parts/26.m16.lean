/-! parts: classes anew -/
/-- the classes rp (one state of each) by how states go on, and the new numbers CN -/
def paR (m : Nat) (h : HS) (N : Nat) (rp : List Nat) (CN : Nat → Int32) : Prop :=
  (∀ s, s < N → ¬ hI h (m + 13) s = 0 → ∃ (i r : Nat), rp[i]? = some r ∧ CN s = nI i ∧ alk m h s r) ∧ (∀ (i r : Nat), rp[i]? = some r → r < N ∧ ¬ hI h (m + 13) r = 0) ∧ (∀ (i j r r' : Nat), rp[i]? = some r → rp[j]? = some r' → alk m h r r' → i = j) ∧ (∀ s, N ≤ s ∨ hI h (m + 13) s = 0 → CN s = hI h (m + 21) s)
theorem alk.rf {m : Nat} {h : HS} (s : Nat) : alk m h s s := ⟨rfl, fun _ _ => rfl⟩
theorem alk.sy {m : Nat} {h : HS} {s t : Nat} (a : alk m h s t) : alk m h t s := ⟨a.1.symm, fun k hk => (a.2 k hk).symm⟩
theorem alk.tr {m : Nat} {h : HS} {s t u : Nat} (a : alk m h s t) (b : alk m h t u) : alk m h s u := ⟨a.1.trans b.1, fun k hk => (a.2 k hk).trans (b.2 k hk)⟩
section M16
variable {w : gD} {m : Nat} {h : HS}
theorem e_m_parts (hm : mSh m h) {N : Nat} (g : GOk m h N) (hU : ∀ s, s < N → hI h (m + 13) s = 0 ∨ hI h (m + 13) s = 1) :
    Ev w 3 0 0 yX10_parts cX10_parts 4 (some .int) [.ref m] h (fun r' h' => ∃ rp CN T, r' = some (.int (nI rp.length)) ∧ rp.length ≤ N ∧ h' = sF (sF (sF h (m + 6) T) (m + 21) CN) (m + 20) (preF CN (hI h (m + 20)) N) ∧ paR m h N rp CN) := by
  refine g_start (by decide) (Nat.le_of_ble_eq_true rfl) [(0, _)] rfl (fun z hfl C => ?_)
  have hg1 := g.1
  have rb : ∀ T CN b, b ≠ m + 6 → b ≠ m + 21 → hI (sF (sF h (m + 6) T) (m + 21) CN) b = hI h b := fun T CN b q1 q2 => by rw [hI_sF_ne q2, hI_sF_ne q1]
  have r6 : ∀ T CN, hI (sF (sF h (m + 6) T) (m + 21) CN) (m + 6) = T := fun T CN => by rw [hI_sF_ne (by omega), hI_sF_eq]
  have gk : ∀ T CN, GOk m (sF (sF h (m + 6) T) (m + 21) CN) N := fun T CN => g.congr (by rw [rb T CN _ (by omega) (by omega)]) (rb T CN _ (by omega) (by omega))
  have ak : ∀ T CN s t, alk m (sF (sF h (m + 6) T) (m + 21) CN) s t = alk m h s t := fun T CN s t => alk_congr (rb T CN _ (by omega) (by omega)) (rb T CN _ (by omega) (by omega)) (rb T CN _ (by omega) (by omega)) s t
  have hk : ∀ T CN s, hac m (sF (sF h (m + 6) T) (m + 21) CN) s 24 = hac m h s 24 := fun T CN s => hac_congr (rb T CN _ (by omega) (by omega)) (rb T CN _ (by omega) (by omega)) (rb T CN _ (by omega) (by omega)) s 24
  -- the last loop
  have copy : ∀ (rp : List Nat) (CN T : Nat → Int32), rp.length ≤ N → paR m h N rp CN → ∀ n k, k + n = N → GW z w 4 (gQ z w 0 0 (fun r' h'' => ∃ rp CN T, r' = some (.int (nI rp.length)) ∧ rp.length ≤ N ∧ h'' = sF (sF (sF h (m + 6) T) (m + 21) CN) (m + 20) (preF CN (hI h (m + 20)) N) ∧ paR m h N rp CN)) 0 0 145 [(0, .ref m), (1, .int (nI rp.length)), (2, .int (nI k))] [] (sF (sF (sF h (m + 6) T) (m + 21) CN) (m + 20) (preF CN (hI h (m + 20)) k)) := by
    intro rp CN T hl hpa n
    have r42 : ∀ k, hI (sF (sF (sF h (m + 6) T) (m + 21) CN) (m + 20) (preF CN (hI h (m + 20)) k)) m 42 = nI N := fun k => by rw [hI_sF_ne (by omega), rb T CN _ (by omega) (by omega)]; exact g.2.1
    have r21 : ∀ k, hI (sF (sF (sF h (m + 6) T) (m + 21) CN) (m + 20) (preF CN (hI h (m + 20)) k)) (m + 21) = CN := fun k => by rw [hI_sF_ne (by omega), hI_sF_eq]
    induction n with
    | zero =>
      intro k hkn
      refine g_iload_n C (gd DX10_parts_1 28 rfl) 2 rfl rfl ?_
      refine g_aload_n C (gd DX10_parts_1 29 rfl) 0 rfl rfl ?_
      refine g_geti (ci := 10) (k := 42) C rfl (by decide) rfl lf_TestJudgeModel_357 hm.1 (gd DX10_parts_1 30 rfl) ?_
      rw [r42]
      refine g_icmp_ge C 171 (gd DX10_parts_1 31 rfl) (by decide) (fun c150 => ?_) (fun c150 => ?_)
      · refine g_iload_n C (gd DX10_parts_1 42 rfl) 1 rfl rfl ?_
        exact g_iret C (by omega) (by omega) ⟨rp, CN, T, rfl, hl, by rw [show k = N by omega], hpa⟩ (gd DX10_parts_1 43 rfl)
      · exact absurd (nI_le (by omega) (by omega)) c150
    | succ n ih =>
      intro k hkn
      refine g_iload_n C (gd DX10_parts_1 28 rfl) 2 rfl rfl ?_
      refine g_aload_n C (gd DX10_parts_1 29 rfl) 0 rfl rfl ?_
      refine g_geti (ci := 10) (k := 42) C rfl (by decide) rfl lf_TestJudgeModel_357 hm.1 (gd DX10_parts_1 30 rfl) ?_
      rw [r42]
      refine g_icmp_ge C 171 (gd DX10_parts_1 31 rfl) (by decide) (fun c150 => ?_) (fun c150 => ?_)
      · exact absurd c150 (nI_ge (by omega) (by omega))
      · refine g_aload_n C (gd DX10_parts_1 32 rfl) 0 rfl rfl ?_
        refine g_getr (ci := 10) (k := 49) C rfl (by decide) rfl lf_TestJudgeModel_81 hm.1 (hm.2 49 20 12 16500 rfl).1 (gd DX10_parts_1 33 rfl) ?_
        refine g_iload_n C (gd DX10_parts_1 34 rfl) 2 rfl rfl ?_
        refine g_aload_n C (gd DX10_parts_1 35 rfl) 0 rfl rfl ?_
        refine g_getr (ci := 10) (k := 50) C rfl (by decide) rfl lf_TestJudgeModel_84 hm.1 (hm.2 50 21 12 16500 rfl).1 (gd DX10_parts_1 36 rfl) ?_
        refine g_iload_n C (gd DX10_parts_1 37 rfl) 2 rfl rfl ?_
        refine g_iaj (j := k) C (hm.2 50 21 12 16500 rfl).2.1 (hm.2 50 21 12 16500 rfl).2.2 (by decide) rfl (by omega) (gd DX10_parts_1 38 rfl) ?_
        rw [r21]
        refine g_isj (j := k) C (hm.2 49 20 12 16500 rfl).2.1 (hm.2 49 20 12 16500 rfl).2.2 (by decide) rfl (by omega) (gd DX10_parts_1 39 rfl) ?_
        refine g_iinc (lv' := [(0, _), (1, _), (2, _)]) C (gd DX10_parts_1 40 rfl) 2 [1, 2, 0] rfl rfl (by decide) rfl ?_
        refine g_goto (tgt := 145) C (gd DX10_parts_1 41 rfl) (by decide) ?_
        exact GW.cast (by rw [inc1]) rfl (by rw [sI_sF_same, preF_s]) (ih (k + 1) (by omega))
  have main : ∀ n s (rp : List Nat) (CN T : Nat → Int32), s + n = N → PT (fun r => hsN (hac m h r 24)) T rp → (∀ t, t < s → ¬ hI h (m + 13) t = 0 → ∃ (i r : Nat), rp[i]? = some r ∧ CN t = nI i ∧ alk m h t r) → (∀ (i r : Nat), rp[i]? = some r → r < s ∧ ¬ hI h (m + 13) r = 0) → (∀ (i j r r' : Nat), rp[i]? = some r → rp[j]? = some r' → alk m h r r' → i = j) → (∀ t, s ≤ t ∨ hI h (m + 13) t = 0 → CN t = hI h (m + 21) t) → rp.length ≤ s →
      GW z w 4 (gQ z w 0 0 (fun r' h'' => ∃ rp CN T, r' = some (.int (nI rp.length)) ∧ rp.length ≤ N ∧ h'' = sF (sF (sF h (m + 6) T) (m + 21) CN) (m + 20) (preF CN (hI h (m + 20)) N) ∧ paR m h N rp CN)) 0 0 25 [(0, .ref m), (1, .int (nI rp.length)), (2, .int (nI s))] [] (sF (sF h (m + 6) T) (m + 21) CN) := by
    intro n
    induction n with
    | zero =>
      intro s rp CN T hs hPT a1 a2 a3 a4 a5
      refine g_iload_n C (gd DX10_parts_0 16 rfl) 2 rfl rfl ?_
      refine g_aload_n C (gd DX10_parts_0 17 rfl) 0 rfl rfl ?_
      refine g_geti (ci := 10) (k := 42) C rfl (by decide) rfl lf_TestJudgeModel_357 hm.1 (gd DX10_parts_0 18 rfl) ?_
      rw [rb T CN _ (by omega) (by omega), g.2.1]
      refine g_icmp_ge C 143 (gd DX10_parts_0 19 rfl) (by decide) (fun c30 => ?_) (fun c30 => ?_)
      · refine g_iconst (v := 0) C (gd DX10_parts_1 26 rfl) (by decide) ?_
        refine g_istore_n (lv' := [(0, _), (1, _), (2, _)]) C (gd DX10_parts_1 27 rfl) [1, 2, 0] rfl (by decide) rfl ?_
        refine GW.cast rfl rfl ?_ (copy rp CN T (by omega) ⟨fun t ht => a1 t (by omega), fun i r hr => ⟨by have := (a2 i r hr).1; omega, (a2 i r hr).2⟩, a3, fun t ht => a4 t (by rcases ht with q | q; exact Or.inl (by omega); exact Or.inr q)⟩ N 0 (by omega))
        rw [preF_0, show hI h (m + 20) = hI (sF (sF h (m + 6) T) (m + 21) CN) (m + 20) from (rb T CN _ (by omega) (by omega)).symm, sF_self]
      · exact absurd (nI_le (by omega) (by omega)) c30
    | succ n ih =>
      intro s rp CN T hs hPT a1 a2 a3 a4 a5
      have hsl : s < N := by omega
      refine g_iload_n C (gd DX10_parts_0 16 rfl) 2 rfl rfl ?_
      refine g_aload_n C (gd DX10_parts_0 17 rfl) 0 rfl rfl ?_
      refine g_geti (ci := 10) (k := 42) C rfl (by decide) rfl lf_TestJudgeModel_357 hm.1 (gd DX10_parts_0 18 rfl) ?_
      rw [rb T CN _ (by omega) (by omega), g.2.1]
      refine g_icmp_ge C 143 (gd DX10_parts_0 19 rfl) (by decide) (fun c30 => ?_) (fun c30 => ?_)
      · exact absurd c30 (nI_ge (by omega) (by omega))
      · refine g_aload_n C (gd DX10_parts_0 20 rfl) 0 rfl rfl ?_
        refine g_getr (ci := 10) (k := 41) C rfl (by decide) rfl lf_TestJudgeModel_59 hm.1 (hm.2 41 13 15 16500 rfl).1 (gd DX10_parts_0 21 rfl) ?_
        refine g_iload_n C (gd DX10_parts_0 22 rfl) 2 rfl rfl ?_
        refine g_zaj (j := s) C (hm.2 41 13 15 16500 rfl).2.1 (hm.2 41 13 15 16500 rfl).2.2 (by decide) rfl (by omega) (gd DX10_parts_0 23 rfl) ?_
        rw [rb T CN _ (by omega) (by omega)]
        refine g_if_ne C 45 (gd DX10_parts_0 24 rfl) (by decide) (fun c39 => ?_) (fun c39 => ?_)
        · -- a useful state: its place in the table
          have hz := hsN_lt (hac m h s 24)
          generalize hH : hsN (hac m h s 24) = Hs at *
          have hnm : ¬ s ∈ rp := fun q => by
            obtain ⟨i, hi⟩ := List.getElem?_of_mem q
            have := (a2 i s hi).1
            omega
          have fin : ∀ (rp' : List Nat) (CN' T' : Nat → Int32), PT (fun r => hsN (hac m h r 24)) T' rp' → (∀ t, t < s + 1 → ¬ hI h (m + 13) t = 0 → ∃ (i r : Nat), rp'[i]? = some r ∧ CN' t = nI i ∧ alk m h t r) → (∀ (i r : Nat), rp'[i]? = some r → r < s + 1 ∧ ¬ hI h (m + 13) r = 0) → (∀ (i j r r' : Nat), rp'[i]? = some r → rp'[j]? = some r' → alk m h r r' → i = j) → (∀ t, s + 1 ≤ t ∨ hI h (m + 13) t = 0 → CN' t = hI h (m + 21) t) → rp'.length ≤ s + 1 → GW z w 4 (gQ z w 0 0 (fun r' h'' => ∃ rp CN T, r' = some (.int (nI rp.length)) ∧ rp.length ≤ N ∧ h'' = sF (sF (sF h (m + 6) T) (m + 21) CN) (m + 20) (preF CN (hI h (m + 20)) N) ∧ paR m h N rp CN)) 0 0 137 [(0, .ref m), (1, .int (nI rp'.length)), (2, .int (nI s))] [] (sF (sF h (m + 6) T') (m + 21) CN') := by
            intro rp' CN' T' b0 b1' b2' b3' b4' b5'
            refine g_iinc (lv' := [(0, _), (1, _), (2, _)]) C (gd DX10_parts_1 24 rfl) 2 [1, 2, 0] rfl rfl (by decide) rfl ?_
            refine g_goto (tgt := 25) C (gd DX10_parts_1 25 rfl) (by decide) ?_
            exact GW.cast (by rw [inc1]) rfl rfl (ih (s + 1) rp' CN' T' (by omega) b0 b1' b2' b3' b4' b5')
          have atz : ∀ d, T ((Hs + d) % 32768) = 0 → (∀ d', d' < d → T ((Hs + d') % 32768) ≠ 0) → (∀ r, r ∈ rp → ¬ alk m h r s) → GW z w 4 (gQ z w 0 0 (fun r' h'' => ∃ rp CN T, r' = some (.int (nI rp.length)) ∧ rp.length ≤ N ∧ h'' = sF (sF (sF h (m + 6) T) (m + 21) CN) (m + 20) (preF CN (hI h (m + 20)) N) ∧ paR m h N rp CN)) 0 0 87 [(0, .ref m), (1, .int (nI rp.length)), (2, .int (nI s)), (3, .int (nI ((Hs + d) % 32768)))] [] (sF (sF h (m + 6) T) (m + 21) CN) := by
            intro d h0 hd hno
            have hi0 : (Hs + d) % 32768 < 32768 := Nat.mod_lt _ (by omega)
            have hadd := hPT.add (s := s) (d := d) (by omega) hnm (by rw [hH]; exact h0) (by rw [hH]; exact hd)
            rw [hH] at hadd
            generalize hie : (Hs + d) % 32768 = i0 at *
            refine g_aload_n C (gd DX10_parts_0 52 rfl) 0 rfl rfl ?_
            refine g_getr (ci := 10) (k := 34) C rfl (by decide) rfl lf_TestJudgeModel_37 hm.1 (hm.2 34 6 12 32768 rfl).1 (gd DX10_parts_0 53 rfl) ?_
            refine g_iload_n C (gd DX10_parts_0 54 rfl) 3 rfl rfl ?_
            refine g_iaj (j := i0) C (hm.2 34 6 12 32768 rfl).2.1 (hm.2 34 6 12 32768 rfl).2.2 (by decide) rfl (by omega) (gd DX10_parts_0 55 rfl) ?_
            rw [r6]
            refine g_if_ne C 118 (gd DX10_parts_0 56 rfl) (by decide) (fun c93 => ?_) (fun c93 => ?_)
            · exact absurd h0 c93
            · refine g_aload_n C (gd DX10_parts_0 57 rfl) 0 rfl rfl ?_
              refine g_getr (ci := 10) (k := 34) C rfl (by decide) rfl lf_TestJudgeModel_37 hm.1 (hm.2 34 6 12 32768 rfl).1 (gd DX10_parts_0 58 rfl) ?_
              refine g_iload_n C (gd DX10_parts_0 59 rfl) 3 rfl rfl ?_
              refine g_iload_n C (gd DX10_parts_1 0 rfl) 2 rfl rfl ?_
              refine g_iconst (v := 1) C (gd DX10_parts_1 1 rfl) (by decide) ?_
              refine g_iadd C (gd DX10_parts_1 2 rfl) ?_
              refine g_isj (j := i0) C (hm.2 34 6 12 32768 rfl).2.1 (hm.2 34 6 12 32768 rfl).2.2 (by decide) rfl (by omega) (gd DX10_parts_1 3 rfl) ?_
              refine g_aload_n C (gd DX10_parts_1 4 rfl) 0 rfl rfl ?_
              refine g_getr (ci := 10) (k := 50) C rfl (by decide) rfl lf_TestJudgeModel_84 hm.1 (hm.2 50 21 12 16500 rfl).1 (gd DX10_parts_1 5 rfl) ?_
              refine g_iload_n C (gd DX10_parts_1 6 rfl) 2 rfl rfl ?_
              refine g_iload_n C (gd DX10_parts_1 7 rfl) 1 rfl rfl ?_
              refine g_isj (j := s) C (hm.2 50 21 12 16500 rfl).2.1 (hm.2 50 21 12 16500 rfl).2.2 (by decide) rfl (by omega) (gd DX10_parts_1 8 rfl) ?_
              refine g_iinc (lv' := [(0, _), (1, _), (2, _), (3, _)]) C (gd DX10_parts_1 9 rfl) 1 [1, 0, 2, 3] rfl rfl (by decide) rfl ?_
              refine g_goto (tgt := 137) C (gd DX10_parts_1 10 rfl) (by decide) ?_
              refine GW.sub [0, 1, 2] rfl (Nat.le_refl _) (Nat.le_refl _) (lv' := [(0, _), (1, _), (2, _)]) ?_
              have hlen : (rp ++ [s]).length = rp.length + 1 := by rw [List.length_append]; rfl
              have old : ∀ (i r : Nat), (rp ++ [s])[i]? = some r → (rp[i]? = some r) ∨ (i = rp.length ∧ r = s) := by
                intro i r hi
                rcases Nat.lt_or_ge i rp.length with q | q
                · rw [List.getElem?_append_left q] at hi; exact Or.inl hi
                · rw [List.getElem?_append_right q] at hi
                  have q2 := (List.getElem?_eq_some_iff.mp hi).1
                  simp at q2
                  rw [show i - rp.length = 0 by omega] at hi
                  simp at hi
                  exact Or.inr ⟨by omega, hi.symm⟩
              refine GW.cast (by rw [inc1, ← hlen]) rfl (by rw [sI_sF_other (by omega), sI_sF_same, sI_sF_same, nI_1]) (fin (rp ++ [s]) (upd CN s (nI rp.length)) (upd T i0 (nI (s + 1))) hadd (fun t ht hu2 => ?_) (fun i r hr => ?_) (fun i j r r' hr hr' hal => ?_) (fun t ht => ?_) (by rw [hlen]; omega))
              · by_cases e : t = s
                · subst e
                  exact ⟨rp.length, t, by rw [List.getElem?_append_right (Nat.le_refl _)]; simp, by rw [upd, if_pos rfl], alk.rf t⟩
                · obtain ⟨i, r, g1, g2, g3⟩ := a1 t (by omega) hu2
                  exact ⟨i, r, by rw [List.getElem?_append_left (List.getElem?_eq_some_iff.mp g1).1]; exact g1, by rw [upd, if_neg e]; exact g2, g3⟩
              · rcases old i r hr with q | ⟨q1, q2⟩
                · exact ⟨by have := (a2 i r q).1; omega, (a2 i r q).2⟩
                · subst q2; exact ⟨by omega, c39⟩
              · rcases old i r hr with q | ⟨q1, q2⟩ <;> rcases old j r' hr' with q' | ⟨q1', q2'⟩
                · exact a3 i j r r' q q' hal
                · subst q2'; exact absurd hal (hno r (List.mem_of_getElem? q))
                · subst q2; exact absurd hal.sy (hno r' (List.mem_of_getElem? q'))
                · omega
              · rw [upd, if_neg (fun e => by rcases ht with q | q; omega; exact c39 (by rw [← e]; exact q))]
                rcases ht with q | q
                · exact a4 t (Or.inl (by omega))
                · exact a4 t (Or.inr q)
          have atf : ∀ (i r k : Nat), i < 32768 → T i = nI (r + 1) → rp[k]? = some r → alk m h s r → GW z w 4 (gQ z w 0 0 (fun r' h'' => ∃ rp CN T, r' = some (.int (nI rp.length)) ∧ rp.length ≤ N ∧ h'' = sF (sF (sF h (m + 6) T) (m + 21) CN) (m + 20) (preF CN (hI h (m + 20)) N) ∧ paR m h N rp CN)) 0 0 87 [(0, .ref m), (1, .int (nI rp.length)), (2, .int (nI s)), (3, .int (nI i))] [] (sF (sF h (m + 6) T) (m + 21) CN) := by
            intro i r k hi hT6 hk2 hal
            have hr2 := a2 k r hk2
            have hcn : CN r = nI k := by
              obtain ⟨i', r', g1, g2, g3⟩ := a1 r hr2.1 hr2.2
              rw [g2, a3 k i' r r' hk2 g1 g3]
            refine g_aload_n C (gd DX10_parts_0 52 rfl) 0 rfl rfl ?_
            refine g_getr (ci := 10) (k := 34) C rfl (by decide) rfl lf_TestJudgeModel_37 hm.1 (hm.2 34 6 12 32768 rfl).1 (gd DX10_parts_0 53 rfl) ?_
            refine g_iload_n C (gd DX10_parts_0 54 rfl) 3 rfl rfl ?_
            refine g_iaj (j := i) C (hm.2 34 6 12 32768 rfl).2.1 (hm.2 34 6 12 32768 rfl).2.2 (by decide) rfl (by omega) (gd DX10_parts_0 55 rfl) ?_
            rw [r6]
            refine g_if_ne C 118 (gd DX10_parts_0 56 rfl) (by decide) (fun c93 => ?_) (fun c93 => ?_)
            · refine g_aload_n C (gd DX10_parts_1 11 rfl) 0 rfl rfl ?_
              refine g_getr (ci := 10) (k := 50) C rfl (by decide) rfl lf_TestJudgeModel_84 hm.1 (hm.2 50 21 12 16500 rfl).1 (gd DX10_parts_1 12 rfl) ?_
              refine g_iload_n C (gd DX10_parts_1 13 rfl) 2 rfl rfl ?_
              refine g_aload_n C (gd DX10_parts_1 14 rfl) 0 rfl rfl ?_
              refine g_getr (ci := 10) (k := 50) C rfl (by decide) rfl lf_TestJudgeModel_84 hm.1 (hm.2 50 21 12 16500 rfl).1 (gd DX10_parts_1 15 rfl) ?_
              refine g_aload_n C (gd DX10_parts_1 16 rfl) 0 rfl rfl ?_
              refine g_getr (ci := 10) (k := 34) C rfl (by decide) rfl lf_TestJudgeModel_37 hm.1 (hm.2 34 6 12 32768 rfl).1 (gd DX10_parts_1 17 rfl) ?_
              refine g_iload_n C (gd DX10_parts_1 18 rfl) 3 rfl rfl ?_
              refine g_iaj (j := i) C (hm.2 34 6 12 32768 rfl).2.1 (hm.2 34 6 12 32768 rfl).2.2 (by decide) rfl (by omega) (gd DX10_parts_1 19 rfl) ?_
              rw [r6, hT6]
              refine g_iconst (v := 1) C (gd DX10_parts_1 20 rfl) (by decide) ?_
              refine g_isub C (gd DX10_parts_1 21 rfl) ?_
              rw [nI_pred]
              refine g_iaj (j := r) C (hm.2 50 21 12 16500 rfl).2.1 (hm.2 50 21 12 16500 rfl).2.2 (by decide) rfl (by omega) (gd DX10_parts_1 22 rfl) ?_
              rw [hI_sF_eq, hcn]
              refine g_isj (j := s) C (hm.2 50 21 12 16500 rfl).2.1 (hm.2 50 21 12 16500 rfl).2.2 (by decide) rfl (by omega) (gd DX10_parts_1 23 rfl) ?_
              refine GW.sub [0, 1, 2] rfl (Nat.le_refl _) (Nat.le_refl _) (lv' := [(0, _), (1, _), (2, _)]) ?_
              refine GW.cast rfl rfl (by rw [sI_sF_same]) (fin rp (upd CN s (nI k)) T hPT (fun t ht hu2 => ?_) (fun i r hr => ⟨by have := (a2 i r hr).1; omega, (a2 i r hr).2⟩) a3 (fun t ht => ?_) (by omega))
              · by_cases e : t = s
                · subst e
                  exact ⟨k, r, hk2, by rw [upd, if_pos rfl], hal⟩
                · obtain ⟨i2, r2, g1, g2, g3⟩ := a1 t (by omega) hu2
                  exact ⟨i2, r2, g1, by rw [upd, if_neg e]; exact g2, g3⟩
              · rw [upd, if_neg (fun e => by rcases ht with q | q; omega; exact c39 (by rw [← e]; exact q))]
                rcases ht with q | q
                · exact a4 t (Or.inl (by omega))
                · exact a4 t (Or.inr q)
            · exact absurd (c93.symm.trans hT6) (fun e => nI_s_ne (by omega) e.symm)
          have probe : ∀ k d, (∃ e, e < d + k ∧ T ((Hs + e) % 32768) = 0) → (∀ d', d' < d → T ((Hs + d') % 32768) ≠ 0) → (∀ d', d' < d → ∀ r, T ((Hs + d') % 32768) = nI (r + 1) → r ∈ rp → ¬ alk m h r s) → GW z w 4 (gQ z w 0 0 (fun r' h'' => ∃ rp CN T, r' = some (.int (nI rp.length)) ∧ rp.length ≤ N ∧ h'' = sF (sF (sF h (m + 6) T) (m + 21) CN) (m + 20) (preF CN (hI h (m + 20)) N) ∧ paR m h N rp CN)) 0 0 51 [(0, .ref m), (1, .int (nI rp.length)), (2, .int (nI s)), (3, .int (nI ((Hs + d) % 32768)))] [] (sF (sF h (m + 6) T) (m + 21) CN) := by
            intro k
            induction k with
            | zero =>
              intro d he hd ha
              obtain ⟨e, e1, e2⟩ := he
              exact absurd e2 (hd e (by omega))
            | succ k ihk =>
              intro d he hd ha
              have hi0 : (Hs + d) % 32768 < 32768 := Nat.mod_lt _ (by omega)
              refine g_aload_n C (gd DX10_parts_0 30 rfl) 0 rfl rfl ?_
              refine g_getr (ci := 10) (k := 34) C rfl (by decide) rfl lf_TestJudgeModel_37 hm.1 (hm.2 34 6 12 32768 rfl).1 (gd DX10_parts_0 31 rfl) ?_
              refine g_iload_n C (gd DX10_parts_0 32 rfl) 3 rfl rfl ?_
              refine g_iaj (j := ((Hs + d) % 32768)) C (hm.2 34 6 12 32768 rfl).2.1 (hm.2 34 6 12 32768 rfl).2.2 (by decide) rfl (by omega) (gd DX10_parts_0 33 rfl) ?_
              rw [r6]
              refine g_if_eq C 87 (gd DX10_parts_0 34 rfl) (by decide) (fun c57 => ?_) (fun c57 => ?_)
              · exact atz d c57 hd (hPT.none (s := s) (d := d) (E := fun r => alk m h r s) (fun r e => by rw [hac_alk e 24 (Nat.le_refl _)]) (by rw [hH]; exact c57) (by rw [hH]; exact ha))
              · obtain ⟨r, hr, er⟩ := hPT.1 _ hi0 c57
                obtain ⟨kr, hkr⟩ := List.getElem?_of_mem hr
                have hr2 := a2 kr r hkr
                refine g_aload_n C (gd DX10_parts_0 35 rfl) 0 rfl rfl ?_
                refine g_iload_n C (gd DX10_parts_0 36 rfl) 2 rfl rfl ?_
                refine g_aload_n C (gd DX10_parts_0 37 rfl) 0 rfl rfl ?_
                refine g_getr (ci := 10) (k := 34) C rfl (by decide) rfl lf_TestJudgeModel_37 hm.1 (hm.2 34 6 12 32768 rfl).1 (gd DX10_parts_0 38 rfl) ?_
                refine g_iload_n C (gd DX10_parts_0 39 rfl) 3 rfl rfl ?_
                refine g_iaj (j := ((Hs + d) % 32768)) C (hm.2 34 6 12 32768 rfl).2.1 (hm.2 34 6 12 32768 rfl).2.2 (by decide) rfl (by omega) (gd DX10_parts_0 40 rfl) ?_
                rw [r6, er]
                refine g_iconst (v := 1) C (gd DX10_parts_0 41 rfl) (by decide) ?_
                refine g_isub C (gd DX10_parts_0 42 rfl) ?_
                rw [nI_pred]
                refine g_callV (ci := 10) C [_, _] mX10_goAlike lm_TestJudgeModel_451 (by exact hm.1) rfl rfl (e_m_goAlike (by exact hm) (gk T CN) hsl (by omega : r < N)) hfl (by decide) (by decide) (by omega) (by omega) rfl rfl (Nat.le_of_ble_eq_true rfl) (gd DX10_parts_0 43 rfl) (fun r h2 hp => ?_)
                obtain ⟨rfl, hp⟩ := hp
                rw [ak] at hp
                rcases hp with ⟨hal, rfl⟩ | ⟨hal, rfl⟩
                · show GW z w 4 _ 0 0 _ _ [.int 1] _
                  refine g_if_ne C 87 (gd DX10_parts_0 44 rfl) (by decide) (fun c73 => ?_) (fun c73 => ?_)
                  · exact atf _ r kr hi0 er hkr hal
                  · exact absurd c73 (by decide)
                · show GW z w 4 _ 0 0 _ _ [.int 0] _
                  refine g_if_ne C 87 (gd DX10_parts_0 44 rfl) (by decide) (fun c73 => ?_) (fun c73 => ?_)
                  · exact absurd rfl c73
                  · refine g_iload_n C (gd DX10_parts_0 45 rfl) 3 rfl rfl ?_
                    refine g_iconst (v := 1) C (gd DX10_parts_0 46 rfl) (by decide) ?_
                    refine g_iadd C (gd DX10_parts_0 47 rfl) ?_
                    refine g_sipush (v := 32767) C (gd DX10_parts_0 48 rfl) (by decide) ?_
                    refine g_iand C (gd DX10_parts_0 49 rfl) ?_
                    refine g_istore_n (lv' := [(0, _), (1, _), (2, _), (3, _)]) C (gd DX10_parts_0 50 rfl) [1, 2, 3, 0] rfl (by decide) rfl ?_
                    refine g_goto (tgt := 51) C (gd DX10_parts_0 51 rfl) (by decide) ?_
                    refine GW.cast (by rw [nI_1, show (32767 : Int32) = nI 32767 from rfl, pk_andN (by omega) 15 (by decide), show ((Hs + d) % 32768 + 1) % 2 ^ 15 = (Hs + (d + 1)) % 32768 by omega]) rfl rfl (ihk (d + 1) (by obtain ⟨e, e1, e2⟩ := he; exact ⟨e, by omega, e2⟩) (fun d' hd' => ?_) (fun d' hd' r2 e' hr' => ?_))
                    · by_cases q : d' = d
                      · subst q; exact c57
                      · exact hd d' (by omega)
                    · by_cases q : d' = d
                      · subst q
                        rw [er] at e'
                        have hr3 : r2 < 16400 := hPT.2.2.2 r2 hr'
                        have := (nI_eq (by omega) (by omega)).mp e'
                        rw [show r2 = r by omega]
                        exact fun z1 => hal z1.sy
                      · exact ha d' (by omega) r2 e' hr'
          refine g_aload_n C (gd DX10_parts_0 26 rfl) 0 rfl rfl ?_
          refine g_iload_n C (gd DX10_parts_0 27 rfl) 2 rfl rfl ?_
          refine g_cV1 (ci := 10) C [_] mX10_hashOf lm_TestJudgeModel_448 (by exact hm.1) rfl rfl (e_m_hashOf (by exact hm) (gk T CN) hsl) hfl (by decide) (by decide) (by omega) (by omega) rfl rfl (Nat.le_of_ble_eq_true rfl) (gd DX10_parts_0 28 rfl) ?_
          rw [hk, hH]
          refine g_istore_n (lv' := [(0, _), (1, _), (2, _), (3, _)]) C (gd DX10_parts_0 29 rfl) [1, 2, 3, 0] rfl (by decide) rfl ?_
          obtain ⟨e, e1, e2⟩ := hPT.free Hs hz
          exact GW.cast (by rw [show (Hs + 0) % 32768 = Hs by omega]) rfl rfl (probe 32768 0 ⟨e, by omega, e2⟩ (fun _ q => by omega) (fun _ q => by omega))
        · have hu : hI h (m + 13) s = 0 := c39
          refine g_goto (tgt := 137) C (gd DX10_parts_0 25 rfl) (by decide) ?_
          refine g_iinc (lv' := [(0, _), (1, _), (2, _)]) C (gd DX10_parts_1 24 rfl) 2 [1, 2, 0] rfl rfl (by decide) rfl ?_
          refine g_goto (tgt := 25) C (gd DX10_parts_1 25 rfl) (by decide) ?_
          refine GW.cast (by rw [inc1]) rfl rfl (ih (s + 1) rp CN T (by omega) hPT (fun t ht hu2 => ?_) (fun i r hr => ⟨by have := (a2 i r hr).1; omega, (a2 i r hr).2⟩) a3 (fun t ht => ?_) (by omega))
          · exact a1 t (by have : t ≠ s := fun e => hu2 (by rw [e]; exact hu); omega) hu2
          · rcases ht with q | q
            · exact a4 t (Or.inl (by omega))
            · exact a4 t (Or.inr q)
  have zero : ∀ n k, k + n = 32768 → GW z w 4 (gQ z w 0 0 (fun r' h'' => ∃ rp CN T, r' = some (.int (nI rp.length)) ∧ rp.length ≤ N ∧ h'' = sF (sF (sF h (m + 6) T) (m + 21) CN) (m + 20) (preF CN (hI h (m + 20)) N) ∧ paR m h N rp CN)) 0 0 2 [(0, .ref m), (1, .int (nI k))] [] (sF h (m + 6) (preF (fun _ => 0) (hI h (m + 6)) k)) := by
    intro n
    induction n with
    | zero =>
      intro k hkn
      refine g_iload_n C (gd DX10_parts_0 2 rfl) 1 rfl rfl ?_
      refine g_ldc (v := 32768) C (gd DX10_parts_0 3 rfl) lk_TestJudgeModel_36 ?_
      refine g_icmp_ge C 21 (gd DX10_parts_0 4 rfl) (by decide) (fun c5 => ?_) (fun c5 => ?_)
      · refine g_iconst (v := 0) C (gd DX10_parts_0 12 rfl) (by decide) ?_
        refine g_istore_n (lv' := [(0, _), (1, _)]) C (gd DX10_parts_0 13 rfl) [1, 0] rfl (by decide) rfl ?_
        refine g_iconst (v := 0) C (gd DX10_parts_0 14 rfl) (by decide) ?_
        refine g_istore_n (lv' := [(0, _), (1, _), (2, _)]) C (gd DX10_parts_0 15 rfl) [1, 2, 0] rfl (by decide) rfl ?_
        refine GW.cast rfl rfl ?_ (main N 0 [] (hI h (m + 21)) (preF (fun _ => 0) (hI h (m + 6)) k) (by omega) (PT_0 (fun i hi => preF_lt (by omega))) (fun t ht => by omega) (fun i r hr => by simp at hr) (fun i j r r' hr => by simp at hr) (fun _ _ => rfl) (Nat.zero_le _))
        rw [show hI h (m + 21) = hI (sF h (m + 6) (preF (fun _ => 0) (hI h (m + 6)) k)) (m + 21) from (hI_sF_ne (by omega)).symm, sF_self]
      · exact absurd (nI_le (a := 32768) (b := k) (by omega) (by omega)) c5
    | succ n ih =>
      intro k hkn
      refine g_iload_n C (gd DX10_parts_0 2 rfl) 1 rfl rfl ?_
      refine g_ldc (v := 32768) C (gd DX10_parts_0 3 rfl) lk_TestJudgeModel_36 ?_
      refine g_icmp_ge C 21 (gd DX10_parts_0 4 rfl) (by decide) (fun c5 => ?_) (fun c5 => ?_)
      · exact absurd c5 (nI_ge (a := k) (b := 32768) (by omega) (by omega))
      · refine g_aload_n C (gd DX10_parts_0 5 rfl) 0 rfl rfl ?_
        refine g_getr (ci := 10) (k := 34) C rfl (by decide) rfl lf_TestJudgeModel_37 hm.1 (hm.2 34 6 12 32768 rfl).1 (gd DX10_parts_0 6 rfl) ?_
        refine g_iload_n C (gd DX10_parts_0 7 rfl) 1 rfl rfl ?_
        refine g_iconst (v := 0) C (gd DX10_parts_0 8 rfl) (by decide) ?_
        refine g_isj (j := k) C (hm.2 34 6 12 32768 rfl).2.1 (hm.2 34 6 12 32768 rfl).2.2 (by decide) rfl (by omega) (gd DX10_parts_0 9 rfl) ?_
        refine g_iinc (lv' := [(0, _), (1, _)]) C (gd DX10_parts_0 10 rfl) 1 [1, 0] rfl rfl (by decide) rfl ?_
        refine g_goto (tgt := 2) C (gd DX10_parts_0 11 rfl) (by decide) ?_
        exact GW.cast (by rw [inc1]) rfl (by rw [sI_sF_same, ← preF_s]) (ih (k + 1) (by omega))
  refine g_iconst (v := 0) C (gd DX10_parts_0 0 rfl) (by decide) ?_
  refine g_istore_n (lv' := [(0, _), (1, _)]) C (gd DX10_parts_0 1 rfl) [1, 0] rfl (by decide) rfl ?_
  exact GW.cast rfl rfl (by rw [preF_0, sF_self]) (zero 32768 0 rfl)
end M16
