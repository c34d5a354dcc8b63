/-! lays: all states -/
theorem HT_z {T : Nat → Int32} (K : Nat → Int64) (hz : ∀ i, i < 32768 → T i = 0) : HT T K 0 := ⟨by omega, fun i hi h => absurd (hz i hi) h, fun i _ hi _ h => absurd (hz i hi) h, fun _ h => by omega, fun _ _ h => by omega⟩
theorem GOat.grow {sc : Int64 → Nat → Option Int64} {m : Nat} {h h1 : HS} {x d e : Nat} (g : GOat sc m h (bfs sc x) e) (hr : hI h1 (m + 7) e = hI h (m + 7) e) : GOat sc m h1 (bfs sc (x + d)) e := by
  obtain ⟨q, g1, g2⟩ := g
  refine ⟨q, bfs_stay g1 d, ?_⟩
  rw [hr]
  rcases g2 with g2 | ⟨k, j, v, g3, g4, g5⟩
  · exact Or.inl g2
  · exact Or.inr ⟨k, j, v, g3, bfs_stay g4 d, g5⟩
/-- which ints lays may change -/
def layW (m b j : Nat) : Prop := b = m + 1 ∨ (m + 6 ≤ b ∧ b ≤ m + 13) ∨ (b = m ∧ j = 42)
/-- all N states are laid -/
def LD (P : kP) (m : Nat) (h : HS) (N : Nat) : Prop := N ≤ 16400 ∧ 0 < N ∧ mLS m h (bfs (kSc P) (24 * N)) ∧ (bfs (kSc P) (24 * N)).length = N ∧ (∀ e, e < 24 * N → GOat (kSc P) m h (bfs (kSc P) (24 * N)) e) ∧ (∀ s q, (bfs (kSc P) (24 * N))[s]? = some q → hI h (m + 8) s = kE1 P q.1 ∧ hI h (m + 9) s = kE2 P q.1)
def LU (m : Nat) (h : HS) (N : Nat) : Prop := ∀ s, s < N → (hI h (m + 13) s = 1 ∧ Us (hI h (m + 7)) (fun s => hI h (m + 8) s ||| hI h (m + 9) s) s) ∨ (hI h (m + 13) s = 0 ∧ ¬ Us (hI h (m + 7)) (fun s => hI h (m + 8) s ||| hI h (m + 9) s) s)
section M13
variable {w : gD} {m : Nat} {h : HS}
theorem e_m_lays (hm : mSh m h) {r o nf wr wo wf : Nat} (hr : r < 102) (hr1 : r ≠ 90) (hr2 : r ≠ 93) (ho : o < 102) (ho1 : o ≠ 90) (ho2 : o ≠ 93) (hnf : nf ≤ 2) (hf : hI h m 5 = nI nf) (hw : ∀ f, f < nf → ∃ a, a ≤ 16 ∧ gRec (hI h (m + 1)) (8 + f) 0 = nI a) (some0 : Int32)
    (hwr : gRec (hI h (m + 1)) r 0 = nI wr) (hwo : gRec (hI h (m + 1)) o 0 = nI wo) (hwf : gRec (fbR some0 (hI h (m + 1)) nf) 90 0 = nI wf) (lr : wr ≤ 16) (lo : wo ≤ 16) (lf : wf ≤ 16) {P : kP} (hP : P = (hI h m 2, hI h m 3, gRec (fbR some0 (hI h (m + 1)) nf) r, gRec (fbR some0 (hI h (m + 1)) nf) o, gRec (fbR some0 (hI h (m + 1)) nf) 90, wr, wo, wf)) (hcap : ∀ e, (bfs (kSc P) e).length < 16400) :
    Ev w 5 0 0 yX10_lays cX10_lays 5 none [.ref m, .int (nI r), .int (nI o), .int some0] h (fun r' h' => r' = none ∧ ∃ N, LD P m h' N ∧ LU m h' N ∧ Fr3 h h' ∧ hI h' (m + 1) = fbR some0 (hI h (m + 1)) nf ∧ (∀ b j, ¬ layW m b j → hI h' b j = hI h b j) ∧ (∀ b j, b ≠ m + 5 → hL h' b j = hL h b j)) := by
  refine g_start (by decide) (Nat.le_of_ble_eq_true rfl) [(0, _), (1, _), (2, _), (3, _)] rfl (fun z hfl C => ?_)
  generalize hρ1 : fbR some0 (hI h (m + 1)) nf = ρ1 at *
  have w1 : gRec ρ1 r 0 = nI wr := by rw [← hρ1, fbR_other (by omega) hr1 hr2]; exact hwr
  have w2 : gRec ρ1 o 0 = nI wo := by rw [← hρ1, fbR_other (by omega) ho1 ho2]; exact hwo
  have kat : ∀ h1 : HS, hI h1 m 2 = hI h m 2 → hI h1 m 3 = hI h m 3 → hI h1 (m + 1) = ρ1 → kAt P m h1 r o := by
    intro h1 e1 e2 e3
    subst hP
    exact ⟨e1, e2, by rw [e3], by rw [e3], by rw [e3], ⟨w1, w2, hwf⟩, ⟨lr, lo, lf⟩, hr, ho⟩
  have main : ∀ n s h1, s + n = 16400 → Fr3 h h1 → mLS m h1 (bfs (kSc P) (24 * s)) → s ≤ (bfs (kSc P) (24 * s)).length → 0 < (bfs (kSc P) (24 * s)).length → (∀ e, e < 24 * s → GOat (kSc P) m h1 (bfs (kSc P) (24 * s)) e) → (∀ t q, t < s → (bfs (kSc P) (24 * s))[t]? = some q → hI h1 (m + 8) t = kE1 P q.1 ∧ hI h1 (m + 9) t = kE2 P q.1) → hI h1 (m + 1) = ρ1 → (∀ b j, ¬ layW m b j → hI h1 b j = hI h b j) → (∀ b j, b ≠ m + 5 → hL h1 b j = hL h b j) →
      GW z w 5 (gQ z w 0 0 (fun r' h'' => r' = none ∧ ∃ N, LD P m h'' N ∧ LU m h'' N ∧ Fr3 h h'' ∧ hI h'' (m + 1) = ρ1 ∧ (∀ b j, ¬ layW m b j → hI h'' b j = hI h b j) ∧ (∀ b j, b ≠ m + 5 → hL h'' b j = hL h b j))) 0 0 47 [(0, .ref m), (1, .int (nI r)), (2, .int (nI o)), (3, .int some0), (4, .int (nI s))] [] h1 := by
    intro n
    induction n with
    | zero =>
      intro s h1 hs f1 a1 a2
      exact absurd (hcap (24 * s)) (by omega)
    | succ n ih =>
      intro s h1 hs f1 a1 a2 a3 a4 a5 a6 a7 a8
      have hm1 : mSh m h1 := hm.fr f1
      have hcl := hcap (24 * s)
      refine g_iload C (gd DX10_lays_0 26 rfl) 4 rfl ?_
      refine g_aload_n C (gd DX10_lays_0 27 rfl) 0 rfl rfl ?_
      refine g_geti (ci := 10) (k := 42) C rfl (by decide) rfl lf_TestJudgeModel_357 hm1.1 (gd DX10_lays_0 28 rfl) ?_
      rw [a1.2.1]
      refine g_icmp_ge C 70 (gd DX10_lays_0 29 rfl) (by decide) (fun c53 => ?_) (fun c53 => ?_)
      · have hN : (bfs (kSc P) (24 * s)).length = s := by
          have := ge_t c53 (by omega) (by omega)
          omega
        have hgo5 : ∀ e, e < 24 * s → hI h1 (m + 7) e = -1 ∨ ∃ j, j < s ∧ hI h1 (m + 7) e = nI j := fun e he => by
          obtain ⟨q, -, g2⟩ := a4 e he
          rcases g2 with g2 | ⟨k, j, v, -, g4, g5⟩
          · exact Or.inl g2.2
          · exact Or.inr ⟨j, by have := (List.getElem?_eq_some_iff.mp g4).1; omega, g5⟩
        refine g_aload_n C (gd DX10_lays_0 37 rfl) 0 rfl rfl ?_
        refine g_callV (ci := 10) C [] mX10_laysUseful lm_TestJudgeModel_372 (by exact hm1.1) rfl rfl (e_m_laysUseful (N := s) hm1 (by omega) (by rw [a1.2.1, hN]) hgo5) hfl (by decide) (by decide) (by omega) (by omega) rfl rfl (Nat.le_of_ble_eq_true rfl) (gd DX10_lays_0 38 rfl) (fun r h2 hp => ?_)
        obtain ⟨rfl, U, rfl, hU⟩ := hp
        show GW z w 5 _ 0 0 _ _ [] _
        have rw13 : ∀ b, b ≠ m + 13 → hI (sF h1 (m + 13) U) b = hI h1 b := fun b hb => hI_sF_ne hb
        refine g_vret C (by omega) (by omega) ?_ (gd DX10_lays_0 39 rfl)
        refine ⟨rfl, s, ⟨by omega, by omega, a1.cong (rw13 _ (by omega)) rfl (by rw [rw13 _ (by omega)]) (rw13 _ (by omega)) (rw13 _ (by omega)) (rw13 _ (by omega)), hN, fun e he => ?_, fun t q hq => ?_⟩, fun t ht => ?_, f1.tr ⟨rfl, rfl, rfl, rfl⟩, ?_, fun b j hb => ?_, fun b j hb => a8 b j hb⟩
        · exact (a4 e he).grow (d := 0) (by rw [rw13 _ (by omega)])
        · rw [rw13 _ (by omega), rw13 _ (by omega)]
          exact a5 t q (by have := (List.getElem?_eq_some_iff.mp hq).1; omega) hq
        · rw [hI_sF_eq, rw13 _ (by omega), rw13 _ (by omega), rw13 _ (by omega)]
          exact hU t ht
        · rw [rw13 _ (by omega)]; exact a6
        · rw [hI_sF, if_neg (fun q => hb (by unfold layW; omega))]
          exact a7 b j hb
      · have hlt : s < (bfs (kSc P) (24 * s)).length := ge_f c53 (by omega) (by omega)
        obtain ⟨q, hq⟩ : ∃ q, (bfs (kSc P) (24 * s))[s]? = some q := ⟨_, List.getElem?_eq_getElem hlt⟩
        obtain ⟨key, v⟩ := q
        refine g_aload_n C (gd DX10_lays_0 30 rfl) 0 rfl rfl ?_
        refine g_iload C (gd DX10_lays_0 31 rfl) 4 rfl ?_
        refine g_iload_n C (gd DX10_lays_0 32 rfl) 1 rfl rfl ?_
        refine g_iload_n C (gd DX10_lays_0 33 rfl) 2 rfl rfl ?_
        refine g_callV (ci := 10) C [_, _, _] mX10_laysState lm_TestJudgeModel_369 (by exact hm1.1) rfl rfl (e_m_laysState (r := r) (o := o) (s := s) (v := v) hm1 (kat h1 (a7 m 2 (by unfold layW; omega)) (a7 m 3 (by unfold layW; omega)) a6) a1 hq hcap) hfl (by decide) (by decide) (by omega) (by omega) rfl rfl (Nat.le_of_ble_eq_true rfl) (gd DX10_lays_0 34 rfl) (fun r h2 hp => ?_)
        obtain ⟨rfl, i1, i2, i3, i4, i5, i6, i7⟩ := hp
        show GW z w 5 _ 0 0 _ _ [] _
        refine g_iinc (lv' := [(0, _), (1, _), (2, _), (3, _), (4, _)]) C (gd DX10_lays_0 35 rfl) 4 [1, 2, 3, 4, 0] rfl rfl (by decide) rfl ?_
        refine g_goto (tgt := 47) C (gd DX10_lays_0 36 rfl) (by decide) ?_
        have hg := bfs_len (kSc P) (24 * s) 24
        have hgr : (bfs (kSc P) (24 * s + 24)).length ≥ s + 1 := by omega
        rw [show 24 * s + 24 = 24 * (s + 1) by omega] at i2 i5 hg hgr
        refine GW.cast (by rw [inc1]) rfl rfl (ih (s + 1) h2 (by omega) (f1.tr i1) i2 (by omega) (by omega) (fun e he => ?_) (fun t q ht hq2 => ?_) ?_ (fun b j hb => ?_) (fun b j hb => ?_))
        · by_cases e1 : e < 24 * s
          · have := (a4 e e1).grow (h1 := h2) (d := 24) (i3 _ _ (by unfold lsW; omega))
            rw [show 24 * s + 24 = 24 * (s + 1) by omega] at this
            exact this
          · exact i5 e (by omega) (by omega)
        · by_cases e1 : t < s
          · have hq3 : (bfs (kSc P) (24 * s))[t]? = some q := by
              have hl : t < (bfs (kSc P) (24 * s)).length := by omega
              have := bfs_stay (List.getElem?_eq_getElem hl) 24
              rw [show 24 * s + 24 = 24 * (s + 1) by omega, hq2] at this
              rw [List.getElem?_eq_getElem hl, ← this]
            rw [i3 _ _ (by unfold lsW; omega), i3 _ _ (by unfold lsW; omega)]
            exact a5 t q e1 hq3
          · have e2 : t = s := by omega
            subst e2
            have := bfs_stay hq 24
            rw [show 24 * t + 24 = 24 * (t + 1) by omega, hq2] at this
            cases this
            exact ⟨i6, i7⟩
        · funext j; rw [i3 _ _ (by unfold lsW; omega), a6]
        · rw [i3 _ _ (fun q => hb (by unfold lsW at q; unfold layW; omega))]
          exact a7 b j hb
        · rw [i4 _ _ (by omega)]
          exact a8 b j hb
  have zero : ∀ n k, k + n = 32768 → GW z w 5 (gQ z w 0 0 (fun r' h'' => r' = none ∧ ∃ N, LD P m h'' N ∧ LU m h'' N ∧ Fr3 h h'' ∧ hI h'' (m + 1) = ρ1 ∧ (∀ b j, ¬ layW m b j → hI h'' b j = hI h b j) ∧ (∀ b j, b ≠ m + 5 → hL h'' b j = hL h b j))) 0 0 8 [(0, .ref m), (1, .int (nI r)), (2, .int (nI o)), (3, .int some0), (4, .int (nI k))] [] (sF (sF h (m + 1) ρ1) (m + 6) (preF (fun _ => 0) (hI h (m + 6)) k)) := by
    intro n
    induction n with
    | zero =>
      intro k hk
      refine g_iload C (gd DX10_lays_0 5 rfl) 4 rfl ?_
      refine g_ldc (v := 32768) C (gd DX10_lays_0 6 rfl) lk_TestJudgeModel_36 ?_
      refine g_icmp_ge C 29 (gd DX10_lays_0 7 rfl) (by decide) (fun c12 => ?_) (fun c12 => ?_)
      · generalize hT6 : preF (fun _ => 0) (hI h (m + 6)) k = T6
        have hz : ∀ i, i < 32768 → T6 i = 0 := fun i hi => by rw [← hT6]; exact preF_lt (by omega)
        refine g_aload_n C (gd DX10_lays_0 15 rfl) 0 rfl rfl ?_
        refine g_iconst (v := 0) C (gd DX10_lays_0 16 rfl) (by decide) ?_
        refine g_puti (ci := 10) (k := 42) C rfl (by decide) rfl lf_TestJudgeModel_357 hm.1 (Or.inl rfl) rfl (gd DX10_lays_0 17 rfl) ?_
        refine g_aload_n C (gd DX10_lays_0 18 rfl) 0 rfl rfl ?_
        refine g_ldc2 (v := 1099511627776) C (gd DX10_lays_0 19 rfl) lK_TestJudgeModel_363 ?_
        refine g_iconst (v := -1) C (gd DX10_lays_0 20 rfl) (by decide) ?_
        refine g_iconst (v := 0) C (gd DX10_lays_0 21 rfl) (by decide) ?_
        have r6 : hI (sI (sF (sF h (m + 1) ρ1) (m + 6) T6) m 42 0) (m + 6) = T6 := by rw [row_ne (by omega), hI_sF_eq]
        refine g_callV (ci := 10) C [.long _, _, _] mX10_stateOf lm_TestJudgeModel_365 (by exact hm.1) rfl rfl (e_m_stateOf (n := 0) (by exact hm) (by rw [r6]; exact HT_z _ hz) (by rw [hI_sI, if_pos ⟨rfl, rfl⟩]; rfl) BEG 0 (fr := -1) (Or.inl rfl) (by omega)) hfl (by decide) (by decide) (by omega) (by omega) rfl rfl (Nat.le_of_ble_eq_true rfl) (gd DX10_lays_0 22 rfl) (fun r h2 hp => ?_)
        rcases hp with ⟨j, hj, -⟩ | ⟨-, rfl, i, hi0, rfl, hHT⟩
        · omega
        · show GW z w 5 _ 0 0 _ _ [.int (nI 0)] _
          rw [if_pos rfl]
          generalize hh0 : sI (sF (sF h (m + 1) ρ1) (m + 6) T6) m 42 0 = h0 at *
          have fr0 : Fr3 h h0 := by rw [← hh0]; exact ⟨rfl, rfl, rfl, rfl⟩
          have fL : ∀ b j, hL h0 b j = hL h b j := fun b j => by rw [← hh0]; rfl
          have fI : ∀ b j, b ≠ m + 1 → b ≠ m + 6 → ¬ (b = m ∧ j = 42) → hI h0 b j = hI h b j := fun b j q1 q2 q3 => by rw [← hh0, hI_sI, if_neg q3, hI_sF, if_neg q2, hI_sF, if_neg q1]
          have f1 : hI h0 (m + 1) = ρ1 := by rw [← hh0, row_ne (by omega), hI_sF_ne (by omega), hI_sF_eq]
          refine g_pop C (gd DX10_lays_0 23 rfl) rfl ?_
          refine g_iconst (v := 0) C (gd DX10_lays_0 24 rfl) (by decide) ?_
          refine g_istore (lv' := [(0, _), (1, _), (2, _), (3, _), (4, _)]) C (gd DX10_lays_0 25 rfl) [1, 2, 3, 4, 0] (by decide) rfl ?_
          refine main 16400 0 _ rfl (fr0.tr newS_fr) ?_ (Nat.zero_le _) (by show 0 < 1; omega) (fun e he => by omega) (fun t q ht => by omega) ?_ (fun b j hb => ?_) (fun b j hb => ?_)
          · have r6' : hI (newS h0 m 0 i BEG (-1) 0 0) (m + 6) = upd (hI h0 (m + 6)) i (nI (0 + 1)) := by
              funext j
              simp only [newS, hI_sI, hI_sL, upd]
              (repeat' split) <;> first | rfl | (exfalso; omega) | (simp_all; done) | (simp_all; omega)
            have r5' : hL (newS h0 m 0 i BEG (-1) 0 0) (m + 5) = vp_updL (hL h0 (m + 5)) 0 BEG := by
              funext j
              simp only [newS, hL_sI, hL_sL, vp_updL]
              (repeat' split) <;> first | rfl | (exfalso; omega) | (simp_all; done) | (simp_all; omega)
            refine ⟨by rw [r6', r5']; exact hHT, ?_, fun j q hq => ?_⟩
            · simp only [newS, hI_sI]
              rw [if_neg (by omega), if_pos (by simp)]
              rfl
            · match j, hq with
              | 0, hq =>
                cases hq
                refine ⟨by rw [r5', vp_updL, if_pos rfl], ?_, ?_, fun _ => ?_, fun q => by omega⟩
                · simp only [newS, hI_sI, hI_sL]
                  rw [if_neg (by omega), if_neg (by omega), if_neg (by omega), if_neg (by omega), if_pos (by simp), if_pos (by simp)]
                · simp only [newS, hI_sI, hI_sL]
                  rw [if_neg (by omega), if_neg (by omega), if_neg (by omega), if_pos (by simp)]
                  rfl
                · simp only [newS, hI_sI, hI_sL]
                  rw [if_neg (by omega), if_neg (by omega), if_pos (by simp)]
              | j + 1, hq => simp [bfs] at hq
          · funext j; rw [newS_row (by omega), f1]
          · rw [newS_row (fun q => hb (by unfold layW; omega))]
            exact fI b j (fun q => hb (by unfold layW; omega)) (fun q => hb (by unfold layW; omega)) (fun q => hb (by unfold layW; omega))
          · rw [newS_rowL (by omega)]; exact fL b j
      · exact absurd (nI_le (a := 32768) (b := k) (by omega) (by omega)) c12
    | succ n ih =>
      intro k hk
      refine g_iload C (gd DX10_lays_0 5 rfl) 4 rfl ?_
      refine g_ldc (v := 32768) C (gd DX10_lays_0 6 rfl) lk_TestJudgeModel_36 ?_
      refine g_icmp_ge C 29 (gd DX10_lays_0 7 rfl) (by decide) (fun c12 => ?_) (fun c12 => ?_)
      · exact absurd c12 (nI_ge (a := k) (b := 32768) (by omega) (by omega))
      · refine g_aload_n C (gd DX10_lays_0 8 rfl) 0 rfl rfl ?_
        refine g_getr (ci := 10) (k := 34) C rfl (by decide) rfl lf_TestJudgeModel_37 hm.1 (hm.2 34 6 12 32768 rfl).1 (gd DX10_lays_0 9 rfl) ?_
        refine g_iload C (gd DX10_lays_0 10 rfl) 4 rfl ?_
        refine g_iconst (v := 0) C (gd DX10_lays_0 11 rfl) (by decide) ?_
        refine g_isj (j := k) C (hm.2 34 6 12 32768 rfl).2.1 (hm.2 34 6 12 32768 rfl).2.2 (by decide) rfl (by omega) (gd DX10_lays_0 12 rfl) ?_
        refine g_iinc (lv' := [(0, _), (1, _), (2, _), (3, _), (4, _)]) C (gd DX10_lays_0 13 rfl) 4 [1, 2, 3, 4, 0] rfl rfl (by decide) rfl ?_
        refine g_goto (tgt := 8) C (gd DX10_lays_0 14 rfl) (by decide) ?_
        exact GW.cast (by rw [inc1]) rfl (by rw [sI_sF_same, ← preF_s]) (ih (k + 1) (by omega))
  refine g_aload_n C (gd DX10_lays_0 0 rfl) 0 rfl rfl ?_
  refine g_iload_n C (gd DX10_lays_0 1 rfl) 3 rfl rfl ?_
  refine g_cV0 (v := .null) (ci := 10) C [_] mX10_laysForbidden lm_TestJudgeModel_360 (by exact hm.1) rfl rfl (e_m_laysForbidden hm hnf hf hw some0) hfl (by decide) (by decide) (by omega) (by omega) rfl rfl (Nat.le_of_ble_eq_true rfl) (gd DX10_lays_0 2 rfl) ?_
  rw [hρ1]
  refine g_iconst (v := 0) C (gd DX10_lays_0 3 rfl) (by decide) ?_
  refine g_istore (lv' := [(0, _), (1, _), (2, _), (3, _), (4, _)]) C (gd DX10_lays_0 4 rfl) [1, 2, 3, 4, 0] (by decide) rfl ?_
  exact GW.cast rfl rfl (by rw [preF_0]; rw [show hI h (m + 6) = hI (sF h (m + 1) ρ1) (m + 6) by rw [hI_sF_ne (by omega)], sF_self]) (zero 32768 0 rfl)
end M13
