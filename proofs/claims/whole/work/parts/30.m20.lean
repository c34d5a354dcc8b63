/-! laysRests, its first half: the classes refined to their end -/
/-- the picture while classes are laid: table, new classes, classes -/
def hC3 (m : Nat) (h : HS) (T CN C : Nat → Int32) : HS := sF (sF (sF h (m + 6) T) (m + 21) CN) (m + 20) C
theorem hC3_20 {m : Nat} {h : HS} {T CN C : Nat → Int32} : hI (hC3 m h T CN C) (m + 20) = C := hI_sF_eq _ _ _
theorem hC3_ne {m b : Nat} {h : HS} {T CN C : Nat → Int32} (h1 : b ≠ m + 6) (h2 : b ≠ m + 21) (h3 : b ≠ m + 20) : hI (hC3 m h T CN C) b = hI h b := by
  unfold hC3
  rw [hI_sF_ne h3, hI_sF_ne h2, hI_sF_ne h1]
theorem hC3_hC3 (m : Nat) (h : HS) (T CN C T1 CN1 C1 : Nat → Int32) : hC3 m (hC3 m h T CN C) T1 CN1 C1 = hC3 m h T1 CN1 C1 := by
  refine Prod.ext (funext fun b => funext fun j => ?_) rfl
  show hI _ b j = hI _ b j
  unfold hC3
  simp only [hI_sF]
  by_cases e1 : b = m + 20
  · simp only [if_pos e1]
  · by_cases e2 : b = m + 21
    · simp only [if_neg e1, if_pos e2]
    · by_cases e3 : b = m + 6
      · simp only [if_neg e1, if_neg e2, if_pos e3]
      · simp only [if_neg e1, if_neg e2, if_neg e3]
theorem hC3_i20 (m : Nat) (h : HS) (T CN C : Nat → Int32) (k : Nat) (v : Int32) : sI (hC3 m h T CN C) (m + 20) k v = hC3 m h T CN (upd C k v) := sI_sF_same _ _ _ _ _
theorem hC3_i21 (m : Nat) (h : HS) (T CN C : Nat → Int32) (k : Nat) (v : Int32) : sI (hC3 m h T CN C) (m + 21) k v = hC3 m h T (upd CN k v) C := by
  unfold hC3
  rw [sI_sF_other (by omega), sI_sF_same]
theorem hC3_self (m : Nat) (h : HS) : hC3 m h (hI h (m + 6)) (hI h (m + 21)) (hI h (m + 20)) = h := by
  unfold hC3
  rw [sF_self, sF_self, sF_self]
theorem Rps.cong {m : Nat} {h : HS} {N d : Nat} {rp : List Nat} {C C1 : Nat → Int32} (r : Rps m h N d rp C) (e : ∀ s, s < N → C1 s = C s) : Rps m h N d rp C1 :=
  ⟨fun s hs u => by rw [e s hs]; exact r.1 s hs u, r.2⟩
/-- the classes at their end: one state of each class, their numbers; two states share one where they leave the same to be done -/
def rfS (m : Nat) (h : HS) (N : Nat) (rp : List Nat) (C : Nat → Int32) : Prop := rp.length ≤ N ∧ (∀ s, s < N → ¬ hI h (m + 13) s = 0 → ∃ (i r : Nat), rp[i]? = some r ∧ C s = nI i ∧ Bis m h s r) ∧ (∀ (i r : Nat), rp[i]? = some r → r < N ∧ ¬ hI h (m + 13) r = 0) ∧ (∀ s t, s < N → t < N → ¬ hI h (m + 13) s = 0 → ¬ hI h (m + 13) t = 0 → (C s = C t ↔ Bis m h s t))
theorem rfS.of {m : Nat} {h : HS} {N d : Nat} {rp rp' : List Nat} {C C' : Nat → Int32} (g : GOk m h N) (hl : rp'.length ≤ N) (a : Rps m h N d rp C) (b : Rps m h N (d + 1) rp' C') (e : rp'.length = rp.length) : rfS m h N rp' C' := by
  have st : ∀ s t, s < N → t < N → ¬ hI h (m + 13) s = 0 → ¬ hI h (m + 13) t = 0 → eqv m h d s t → eqv m h (d + 1) s t := fun s t hs ht us ut q => a.stable b e hs ht us ut q
  have bs : ∀ s t, s < N → t < N → ¬ hI h (m + 13) s = 0 → ¬ hI h (m + 13) t = 0 → (eqv m h (d + 1) s t ↔ Bis m h s t) := fun s t hs ht us ut => ⟨fun q => (Bis.of g st hs ht us ut).mp q.1, fun q => q (d + 1)⟩
  refine ⟨hl, fun s hs us => ?_, b.2.1, fun s t hs ht us ut => ?_⟩
  · obtain ⟨i, r, q1, q2, q3⟩ := b.1 s hs us
    have hr := b.2.1 i r q1
    exact ⟨i, r, q1, q2, (bs s r hs hr.1 us hr.2).mp q3⟩
  · rw [(b.st g hl).1 s t hs ht us ut]
    exact bs s t hs ht us ut
theorem rfS.none {m : Nat} {h : HS} {N d : Nat} {rp : List Nat} {C : Nat → Int32} (b : Rps m h N d rp C) (e : rp.length = 0) : rfS m h N rp C := by
  have no : ∀ s, s < N → ¬ hI h (m + 13) s = 0 → False := fun s hs us => by
    obtain ⟨i, r, q1, -⟩ := b.1 s hs us
    have := (List.getElem?_eq_some_iff.mp q1).1
    omega
  exact ⟨by omega, fun s hs us => (no s hs us).elim, b.2.1, fun s t hs ht us ut => (no s hs us).elim⟩
section M20
variable {w : gD} {m : Nat} {h : HS}
theorem rests_a {z : gZ} (hfl : z.2.1.flags = flags0) (C : GC z w 7 0 0 yX10_laysRests cX10_laysRests 6 none) {Q} (hm : mSh m h) {N : Nat} (g : GOk m h N) (hU : ∀ s, s < N → hI h (m + 13) s = 0 ∨ hI h (m + 13) s = 1) (hE : ∀ s, s < N → ¬ hI h (m + 8) s = -1) (v : Int32)
    (next : ∀ rp T CN C1, rfS m h N rp C1 → GW z w 6 Q 0 0 62 [(0, .ref m), (1, .int v), (2, .int (nI rp.length)), (3, .int (nI rp.length))] [] (hC3 m h T CN C1)) :
    GW z w 6 Q 0 0 5 [(0, .ref m), (1, .int v)] [] h := by
  have hg1 := g.1
  have gk : ∀ T CN C1, GOk m (hC3 m h T CN C1) N := fun T CN C1 => g.congr (by rw [hC3_ne (by omega) (by omega) (by omega)]) (hC3_ne (by omega) (by omega) (by omega))
  have hUk : ∀ T CN C1, ∀ s, s < N → hI (hC3 m h T CN C1) (m + 13) s = 0 ∨ hI (hC3 m h T CN C1) (m + 13) s = 1 := fun T CN C1 s hs => by rw [hC3_ne (by omega) (by omega) (by omega)]; exact hU s hs
  have st42 : ∀ T CN C1, hI (hC3 m h T CN C1) m 42 = nI N := fun T CN C1 => by rw [hC3_ne (by omega) (by omega) (by omega)]; exact g.2.1
  have of : ∀ T CN C1 d rp CN1, StC m h N d C1 → paR m (hC3 m h T CN C1) N rp CN1 → Rps m h N (d + 1) rp (preF CN1 C1 N) := fun T CN C1 d rp CN1 hS hp => (Rps.of g (hC3_ne (by omega) (by omega) (by omega)) (hC3_ne (by omega) (by omega) (by omega)) (by rw [hC3_20]; exact hS) hp).cong (fun s hs => preF_lt hs)
  have loop : ∀ n d pv rp T CN C1, N + 1 ≤ pv + n → Rps m h N (d + 1) rp C1 → rp.length ≤ N → ((pv = 0 ∧ True) ∨ ∃ rpp Cp, Rps m h N d rpp Cp ∧ pv = rpp.length) → pv ≤ rp.length → GW z w 6 Q 0 0 47 [(0, .ref m), (1, .int v), (2, .int (nI pv)), (3, .int (nI rp.length))] [] (hC3 m h T CN C1) := by
    intro n
    induction n with
    | zero => intro d pv rp T CN C1 hn hR hl _ hle; omega
    | succ n ih =>
      intro d pv rp T CN C1 hn hR hl hP hle
      refine g_iload_n C (gd DX10_laysRests_0 29 rfl) 3 rfl rfl ?_
      refine g_iload_n C (gd DX10_laysRests_0 30 rfl) 2 rfl rfl ?_
      refine g_icmp_eq C 62 (gd DX10_laysRests_0 31 rfl) (by decide) (fun c49 => ?_) (fun c49 => ?_)
      · have e : rp.length = pv := (nI_eq (by omega) (by omega)).mp c49
        rw [← e]
        refine next rp T CN C1 ?_
        rcases hP with ⟨q, _⟩ | ⟨rpp, Cp, a, q⟩
        · exact rfS.none hR (by omega)
        · exact rfS.of g hl a hR (by omega)
      · have ne : rp.length ≠ pv := fun e => c49 (by rw [e])
        refine g_iload_n C (gd DX10_laysRests_0 32 rfl) 3 rfl rfl ?_
        refine g_istore_n (lv' := [(0, _), (1, _), (2, _), (3, _)]) C (gd DX10_laysRests_0 33 rfl) [1, 2, 0, 3] rfl (by decide) rfl ?_
        refine g_aload_n C (gd DX10_laysRests_0 34 rfl) 0 rfl rfl ?_
        refine g_callV (ci := 10) C [] mX10_parts lm_TestJudgeModel_454 (by exact hm.1) rfl rfl (e_m_parts (h := hC3 m h T CN C1) (by exact hm) (gk T CN C1) (hUk T CN C1)) hfl (by decide) (by decide) (by omega) (by omega) rfl rfl (Nat.le_of_ble_eq_true rfl) (gd DX10_laysRests_0 35 rfl) (fun r h2 hp => ?_)
        obtain ⟨rp1, CN1, T1, rfl, hl1, rfl, hp⟩ := hp
        have hR1 := of T CN C1 (d + 1) rp1 CN1 (hR.st g hl) hp
        show GW z w 6 _ 0 0 _ _ [.int (nI rp1.length)] _
        refine g_istore_n (lv' := [(0, _), (1, _), (2, _), (3, _)]) C (gd DX10_laysRests_0 36 rfl) [1, 2, 3, 0] rfl (by decide) rfl ?_
        refine g_goto (tgt := 47) C (gd DX10_laysRests_0 37 rfl) (by decide) ?_
        refine GW.cast rfl rfl ?_ (ih (d + 1) rp.length rp1 T1 CN1 (preF CN1 C1 N) (by omega) hR1 hl1 (Or.inr ⟨rp, C1, hR, rfl⟩) (hR.le hR1))
        rw [hC3_20]
        exact hC3_hC3 _ _ _ _ _ _ _ _
  have init : ∀ n k, k + n = N → GW z w 6 Q 0 0 7 [(0, .ref m), (1, .int v), (2, .int (nI k))] [] (hC3 m h (hI h (m + 6)) (preF (fun _ => -1) (hI h (m + 21)) k) (preF (hI h (m + 8)) (hI h (m + 20)) k)) := by
    intro n
    induction n with
    | zero =>
      intro k hkn
      refine g_iload_n C (gd DX10_laysRests_0 5 rfl) 2 rfl rfl ?_
      refine g_aload_n C (gd DX10_laysRests_0 6 rfl) 0 rfl rfl ?_
      refine g_geti (ci := 10) (k := 42) C rfl (by decide) rfl lf_TestJudgeModel_357 hm.1 (gd DX10_laysRests_0 7 rfl) ?_
      rw [st42]
      refine g_icmp_ge C 40 (gd DX10_laysRests_0 8 rfl) (by decide) (fun c12 => ?_) (fun c12 => ?_)
      · refine g_iconst (v := 0) C (gd DX10_laysRests_0 24 rfl) (by decide) ?_
        refine g_istore_n (lv' := [(0, _), (1, _), (2, _)]) C (gd DX10_laysRests_0 25 rfl) [1, 2, 0] rfl (by decide) rfl ?_
        refine g_aload_n C (gd DX10_laysRests_0 26 rfl) 0 rfl rfl ?_
        have hS0 : StC m h N 0 (preF (hI h (m + 8)) (hI h (m + 20)) k) := ⟨fun s t hs ht _ _ => by rw [preF_lt (by omega), preF_lt (by omega)]; exact Iff.rfl, fun s hs _ => by rw [preF_lt (by omega)]; exact hE s hs⟩
        refine g_callV (ci := 10) C [] mX10_parts lm_TestJudgeModel_454 (by exact hm.1) rfl rfl (e_m_parts (h := hC3 m h (hI h (m + 6)) (preF (fun _ => -1) (hI h (m + 21)) k) (preF (hI h (m + 8)) (hI h (m + 20)) k)) (by exact hm) (gk _ _ _) (hUk _ _ _)) hfl (by decide) (by decide) (by omega) (by omega) rfl rfl (Nat.le_of_ble_eq_true rfl) (gd DX10_laysRests_0 27 rfl) (fun r h2 hp => ?_)
        obtain ⟨rp1, CN1, T1, rfl, hl1, rfl, hp⟩ := hp
        have hR1 := of _ _ _ 0 rp1 CN1 hS0 hp
        show GW z w 6 _ 0 0 _ _ [.int (nI rp1.length)] _
        refine g_istore_n (lv' := [(0, _), (1, _), (2, _), (3, _)]) C (gd DX10_laysRests_0 28 rfl) [1, 2, 3, 0] rfl (by decide) rfl ?_
        refine GW.cast rfl rfl ?_ (loop (N + 1) 0 0 rp1 T1 CN1 (preF CN1 (preF (hI h (m + 8)) (hI h (m + 20)) k) N) (by omega) hR1 hl1 (Or.inl ⟨rfl, trivial⟩) (Nat.zero_le _))
        rw [hC3_20]
        exact hC3_hC3 _ _ _ _ _ _ _ _
      · exact absurd (nI_le (a := N) (b := k) (by omega) (by omega)) c12
    | succ n ih =>
      intro k hkn
      refine g_iload_n C (gd DX10_laysRests_0 5 rfl) 2 rfl rfl ?_
      refine g_aload_n C (gd DX10_laysRests_0 6 rfl) 0 rfl rfl ?_
      refine g_geti (ci := 10) (k := 42) C rfl (by decide) rfl lf_TestJudgeModel_357 hm.1 (gd DX10_laysRests_0 7 rfl) ?_
      rw [st42]
      refine g_icmp_ge C 40 (gd DX10_laysRests_0 8 rfl) (by decide) (fun c12 => ?_) (fun c12 => ?_)
      · exact absurd c12 (nI_ge (a := k) (b := N) (by omega) (by omega))
      · refine g_aload_n C (gd DX10_laysRests_0 9 rfl) 0 rfl rfl ?_
        refine g_getr (ci := 10) (k := 49) C rfl (by decide) rfl lf_TestJudgeModel_81 hm.1 (hm.2 49 20 12 16500 rfl).1 (gd DX10_laysRests_0 10 rfl) ?_
        refine g_iload_n C (gd DX10_laysRests_0 11 rfl) 2 rfl rfl ?_
        refine g_aload_n C (gd DX10_laysRests_0 12 rfl) 0 rfl rfl ?_
        refine g_getr (ci := 10) (k := 36) C rfl (by decide) rfl lf_TestJudgeModel_44 hm.1 (hm.2 36 8 12 16500 rfl).1 (gd DX10_laysRests_0 13 rfl) ?_
        refine g_iload_n C (gd DX10_laysRests_0 14 rfl) 2 rfl rfl ?_
        refine g_iaj (j := k) C (hm.2 36 8 12 16500 rfl).2.1 (hm.2 36 8 12 16500 rfl).2.2 (by decide) rfl (by omega) (gd DX10_laysRests_0 15 rfl) ?_
        refine g_isj (j := k) C (hm.2 49 20 12 16500 rfl).2.1 (hm.2 49 20 12 16500 rfl).2.2 (by decide) rfl (by omega) (gd DX10_laysRests_0 16 rfl) ?_
        rw [hC3_i20, hC3_ne (by omega) (by omega) (by omega), preF_s]
        refine g_aload_n C (gd DX10_laysRests_0 17 rfl) 0 rfl rfl ?_
        refine g_getr (ci := 10) (k := 50) C rfl (by decide) rfl lf_TestJudgeModel_84 hm.1 (hm.2 50 21 12 16500 rfl).1 (gd DX10_laysRests_0 18 rfl) ?_
        refine g_iload_n C (gd DX10_laysRests_0 19 rfl) 2 rfl rfl ?_
        refine g_iconst (v := -1) C (gd DX10_laysRests_0 20 rfl) (by decide) ?_
        refine g_isj (j := k) C (hm.2 50 21 12 16500 rfl).2.1 (hm.2 50 21 12 16500 rfl).2.2 (by decide) rfl (by omega) (gd DX10_laysRests_0 21 rfl) ?_
        rw [hC3_i21]
        refine g_iinc (lv' := [(0, _), (1, _), (2, _)]) C (gd DX10_laysRests_0 22 rfl) 2 [1, 2, 0] rfl rfl (by decide) rfl ?_
        refine g_goto (tgt := 7) C (gd DX10_laysRests_0 23 rfl) (by decide) ?_
        exact GW.cast (by rw [inc1]) rfl (by rw [← preF_s, ← preF_s]) (ih (k + 1) (by omega))
  refine g_iconst (v := 0) C (gd DX10_laysRests_0 3 rfl) (by decide) ?_
  refine g_istore_n (lv' := [(0, _), (1, _), (2, _)]) C (gd DX10_laysRests_0 4 rfl) [1, 2, 0] rfl (by decide) rfl ?_
  exact GW.cast rfl rfl (by rw [preF_0, preF_0, hC3_self]) (init N 0 (by omega))
end M20
