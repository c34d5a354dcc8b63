/-! laysState: one state's letters -/
theorem mLS.cong {m : Nat} {h h1 : HS} {L : List (Int64 × Nat)} (k : mLS m h L) (e6 : hI h1 (m + 6) = hI h (m + 6)) (e5 : hL h1 (m + 5) = hL h (m + 5)) (e42 : hI h1 m 42 = hI h m 42) (e10 : hI h1 (m + 10) = hI h (m + 10)) (e11 : hI h1 (m + 11) = hI h (m + 11)) (e12 : hI h1 (m + 12) = hI h (m + 12)) : mLS m h1 L := by
  unfold mLS
  rw [e6, e5, e42, e10, e11, e12]
  exact k
/-- which ints laysState(s) may change, n0 states being known ahead of it -/
def lsW (m s n0 b j : Nat) : Prop := b = m + 6 ∨ (b = m + 7 ∧ 24 * s ≤ j ∧ j < 24 * s + 24) ∨ ((b = m + 8 ∨ b = m + 9) ∧ j = s) ∨ ((b = m + 10 ∨ b = m + 11 ∨ b = m + 12) ∧ n0 ≤ j) ∨ (b = m ∧ j = 42)
/-- behind k letters of state s -/
def lsI (P : kP) (m : Nat) (h : HS) (s : Nat) (key : Int64) (k : Nat) (h1 : HS) : Prop :=
  Fr3 h h1 ∧ mLS m h1 (bfs (kSc P) (24 * s + k)) ∧ (∀ b j, ¬ lsW m s (bfs (kSc P) (24 * s)).length b j → hI h1 b j = hI h b j) ∧ (∀ b j, ¬ (b = m + 5 ∧ (bfs (kSc P) (24 * s)).length ≤ j) → hL h1 b j = hL h b j) ∧
  (∀ e, 24 * s ≤ e → e < 24 * s + k → GOat (kSc P) m h1 (bfs (kSc P) (24 * s + k)) e) ∧ hI h1 (m + 8) s = kE1 P key ∧ hI h1 (m + 9) s = kE2 P key
theorem row_ne {h : HS} {a k b : Nat} {v : Int32} (hb : b ≠ a) : hI (sI h a k v) b = hI h b := hI_sI_ne hb
theorem lsI.stay {P : kP} {m : Nat} {h h1 : HS} {s k : Nat} {key : Int64} {v : Nat} {x : Int32} (hi : lsI P m h s key k h1) (hk : k < 24) (hs : (bfs (kSc P) (24 * s))[s]? = some (key, v)) (hb : bfs (kSc P) (24 * s + k + 1) = bfs (kSc P) (24 * s + k))
    (hx : (kSc P key k = none ∧ x = -1) ∨ ∃ k' j v', kSc P key k = some k' ∧ (bfs (kSc P) (24 * s + k))[j]? = some (k', v') ∧ x = nI j) : lsI P m h s key (k + 1) (sI h1 (m + 7) (24 * s + k) x) := by
  obtain ⟨i1, i2, i3, i4, i5, i6, i7⟩ := hi
  have hs' := bfs_stay hs k
  refine ⟨i1.tr ⟨rfl, rfl, rfl, rfl⟩, ?_, fun b j hw => ?_, fun b j hw => i4 b j hw, fun e e1 e2 => ?_, ?_, ?_⟩
  · rw [show 24 * s + (k + 1) = 24 * s + k + 1 by omega, hb]
    exact i2.cong (row_ne (by omega)) rfl (by rw [row_ne (by omega)]) (row_ne (by omega)) (row_ne (by omega)) (row_ne (by omega))
  · rw [hI_sI, if_neg (fun z => hw (by unfold lsW; omega)), i3 b j hw]
  · rw [show 24 * s + (k + 1) = 24 * s + k + 1 by omega, hb]
    by_cases q : e = 24 * s + k
    · subst q
      refine ⟨(key, v), by rw [show (24 * s + k) / 24 = s by omega]; exact hs', ?_⟩
      rw [show (24 * s + k) % 24 = k by omega, hI_sI, if_pos ⟨rfl, rfl⟩]
      exact hx
    · obtain ⟨q1, g1, g2⟩ := i5 e e1 (by omega)
      refine ⟨q1, g1, ?_⟩
      rw [hI_sI, if_neg (by omega)]
      exact g2
  · rw [row_ne (by omega), i6]
  · rw [row_ne (by omega), i7]
theorem newS_row {h : HS} {m n i : Nat} {key : Int64} {fr by0 dp : Int32} {b j : Nat} (hb : ¬ (b = m + 6 ∨ ((b = m + 10 ∨ b = m + 11 ∨ b = m + 12) ∧ j = n) ∨ (b = m ∧ j = 42))) : hI (newS h m n i key fr by0 dp) b j = hI h b j := by
  simp only [newS, hI_sI, hI_sL]
  rw [if_neg (by omega), if_neg (by omega), if_neg (by omega), if_neg (by omega), if_neg (by omega)]
theorem newS_rowL {h : HS} {m n i : Nat} {key : Int64} {fr by0 dp : Int32} {b j : Nat} (hb : ¬ (b = m + 5 ∧ j = n)) : hL (newS h m n i key fr by0 dp) b j = hL h b j := by
  simp only [newS, hL_sI, hL_sL]
  rw [if_neg hb]
theorem lsI.new {P : kP} {m : Nat} {h h1 : HS} {s k : Nat} {key : Int64} {v : Nat} {x0 : Int32} (hi : lsI P m h s key k h1) (hk : k < 24) (hs : (bfs (kSc P) (24 * s))[s]? = some (key, v)) {k' : Int64} {i : Nat} (hb : bfs (kSc P) (24 * s + k + 1) = bfs (kSc P) (24 * s + k) ++ [(k', 24 * s + k)]) (hcap : (bfs (kSc P) (24 * s + k)).length < 16400)
    (hsc : kSc P key k = some k') (hHT : HT (upd (hI h1 (m + 6)) i (nI ((bfs (kSc P) (24 * s + k)).length + 1))) (vp_updL (hL h1 (m + 5)) (bfs (kSc P) (24 * s + k)).length k') ((bfs (kSc P) (24 * s + k)).length + 1)) :
    lsI P m h s key (k + 1) (sI (newS (sI h1 (m + 7) (24 * s + k) x0) m (bfs (kSc P) (24 * s + k)).length i k' (nI s) (nI k) (hI h1 (m + 12) s + 1)) (m + 7) (24 * s + k) (nI (bfs (kSc P) (24 * s + k)).length)) := by
  obtain ⟨i1, i2, i3, i4, i5, i6, i7⟩ := hi
  have hs' := bfs_stay hs k
  have hsl : s < (bfs (kSc P) (24 * s + k)).length := (List.getElem?_eq_some_iff.mp hs').1
  have hlen : (bfs (kSc P) (24 * s)).length ≤ (bfs (kSc P) (24 * s + k)).length := bfs_len _ _ _
  have hsl0 : s < (bfs (kSc P) (24 * s)).length := (List.getElem?_eq_some_iff.mp hs).1
  generalize hLe : bfs (kSc P) (24 * s + k) = L at *
  have hnew := mLS.new (h := h1) (k := k') (e := 24 * s + k) (i := i) i2 (by omega) (by omega) (by omega) hHT
  rw [show (24 * s + k) / 24 = s by omega, show (24 * s + k) % 24 = k by omega] at hnew
  have n7 : ∀ b j, b ≠ m + 7 → hI (newS (sI h1 (m + 7) (24 * s + k) x0) m L.length i k' (nI s) (nI k) (hI h1 (m + 12) s + 1)) b j = hI (newS h1 m L.length i k' (nI s) (nI k) (hI h1 (m + 12) s + 1)) b j := by
    intro b j hb7
    simp only [newS, hI_sI, hI_sL]
    (repeat' split) <;> first | rfl | (exfalso; omega) | (simp_all; done) | (simp_all; omega)
  refine ⟨i1.tr ⟨rfl, rfl, rfl, rfl⟩, ?_, fun b j hw => ?_, fun b j hw => ?_, fun e e1 e2 => ?_, ?_, ?_⟩
  · rw [show 24 * s + (k + 1) = 24 * s + k + 1 by omega, hb]
    refine hnew.cong ?_ rfl ?_ ?_ ?_ ?_
    · rw [row_ne (by omega)]; funext j; exact n7 _ j (by omega)
    · rw [row_ne (by omega)]; exact n7 _ _ (by omega)
    · rw [row_ne (by omega)]; funext j; exact n7 _ j (by omega)
    · rw [row_ne (by omega)]; funext j; exact n7 _ j (by omega)
    · rw [row_ne (by omega)]; funext j; exact n7 _ j (by omega)
  · have hw2 : ¬ (b = m + 7 ∧ j = 24 * s + k) := fun z => hw (by unfold lsW; omega)
    rw [hI_sI, if_neg hw2, newS_row (fun z => hw (by unfold lsW; omega)), hI_sI, if_neg hw2, i3 b j hw]
  · rw [hL_sI, newS_rowL (fun z => hw (by omega)), hL_sI, i4 b j hw]
  · rw [show 24 * s + (k + 1) = 24 * s + k + 1 by omega, hb]
    by_cases q : e = 24 * s + k
    · subst q
      refine ⟨(key, v), by rw [show (24 * s + k) / 24 = s by omega, List.getElem?_append_left hsl]; exact hs', Or.inr ⟨k', L.length, 24 * s + k, by rw [show (24 * s + k) % 24 = k by omega]; exact hsc, by rw [List.getElem?_append_right (Nat.le_refl _)]; simp, ?_⟩⟩
      rw [hI_sI, if_pos ⟨rfl, rfl⟩]
    · obtain ⟨q1, g1, g2⟩ := i5 e e1 (by omega)
      have ge : hI (sI (newS (sI h1 (m + 7) (24 * s + k) x0) m L.length i k' (nI s) (nI k) (hI h1 (m + 12) s + 1)) (m + 7) (24 * s + k) (nI L.length)) (m + 7) e = hI h1 (m + 7) e := by
        rw [hI_sI, if_neg (by omega), newS_row (by omega), hI_sI, if_neg (by omega)]
      refine ⟨q1, by rw [List.getElem?_append_left (List.getElem?_eq_some_iff.mp g1).1]; exact g1, ?_⟩
      rw [ge]
      rcases g2 with g2 | ⟨k2, j2, v2, g3, g4, g5⟩
      · exact Or.inl g2
      · exact Or.inr ⟨k2, j2, v2, g3, by rw [List.getElem?_append_left (List.getElem?_eq_some_iff.mp g4).1]; exact g4, g5⟩
  · rw [row_ne (by omega), newS_row (by omega), row_ne (by omega), i6]
  · rw [row_ne (by omega), newS_row (by omega), row_ne (by omega), i7]
section M11
variable {w : gD} {m : Nat} {h : HS}
theorem e_m_laysState (hm : mSh m h) {P : kP} {r o s : Nat} (hk : kAt P m h r o) (hL0 : mLS m h (bfs (kSc P) (24 * s))) {key : Int64} {v : Nat} (hs : (bfs (kSc P) (24 * s))[s]? = some (key, v)) (hcap : ∀ e, (bfs (kSc P) e).length < 16400) :
    Ev w 2 0 0 yX10_laysState cX10_laysState 18 none [.ref m, .int (nI s), .int (nI r), .int (nI o)] h (fun r' h' => r' = none ∧ lsI P m h s key 24 h') := by
  refine g_start (by decide) (Nat.le_of_ble_eq_true rfl) [(0, _), (1, _), (2, _), (3, _)] rfl (fun z hfl C => ?_)
  have hsl : s < 16400 := Nat.lt_trans (List.getElem?_eq_some_iff.mp hs).1 (hcap _)
  have hkey : hL h (m + 5) s = key := (hL0.2.2 s _ hs).1
  obtain ⟨k1, k2, k3, k4, k5, ⟨w1, w2, w3⟩, ⟨x1, x2, x3⟩, hr, ho⟩ := id hk
  have hz1 : kbg key = 0 ∨ kbg key = 1 := b1_z _
  have loop : ∀ n k h1, k + n = 24 → lsI P m h s key k h1 → GW z w 18 (gQ z w 0 0 (fun r' h'' => r' = none ∧ lsI P m h s key 24 h'')) 0 0 131 [(0, .ref m), (1, .int (nI s)), (2, .int (nI r)), (3, .int (nI o)), (4, .int (kbg key)), (5, .int (kMi key)), (6, .int (kIt key)), (7, .int (kBa key)), (8, .int (kGd P key)), (9, .int (nI k))] [] h1 := by
    intro n
    induction n with
    | zero =>
      intro k h1 hkn hi
      refine g_iload C (gd DX10_laysState_1 18 rfl) 9 rfl ?_
      refine g_bipush (v := 24) C (gd DX10_laysState_1 19 rfl) (by decide) ?_
      refine g_icmp_ge C 304 (gd DX10_laysState_1 20 rfl) (by decide) (fun c135 => ?_) (fun c135 => ?_)
      · exact g_vret C (by omega) (by omega) ⟨rfl, by rw [show (24 : Nat) = k by omega]; exact hi⟩ (gd DX10_laysState_2 52 rfl)
      · exact absurd (nI_le (a := 24) (b := k) (by omega) (by omega)) c135
    | succ n ih =>
      intro k h1 hkn hi
      have hm1 : mSh m h1 := hm.fr hi.1
      have f2 : hI h1 m 2 = P.1 := by rw [hi.2.2.1 m 2 (by unfold lsW; omega)]; exact k1
      have f3 : hI h1 m 3 = P.2.1 := by rw [hi.2.2.1 m 3 (by unfold lsW; omega)]; exact k2
      have f1 : hI h1 (m + 1) = hI h (m + 1) := by funext j; exact hi.2.2.1 (m + 1) j (by unfold lsW; omega)
      have hcl := hcap (24 * s + k)
      have hs' := bfs_stay hs k
      have hbst : ∀ L, L = bfs (kSc P) (24 * s + k) → L[(24 * s + k) / 24]? = some (key, v) := fun L e => by rw [e, show (24 * s + k) / 24 = s by omega]; exact hs'
      have hmod : (24 * s + k) % 24 = k := by omega
      have cont : ∀ h3, lsI P m h s key (k + 1) h3 → GW z w 18 (gQ z w 0 0 (fun r' h'' => r' = none ∧ lsI P m h s key 24 h'')) 0 0 298 [(0, .ref m), (1, .int (nI s)), (2, .int (nI r)), (3, .int (nI o)), (4, .int (kbg key)), (5, .int (kMi key)), (6, .int (kIt key)), (7, .int (kBa key)), (8, .int (kGd P key)), (9, .int (nI k)), (10, .int (nI (k / 3))), (11, .int (nI (k % 3)))] [] h3 := by
        intro h3 hi3
        refine g_iinc (lv' := [(0, _), (1, _), (2, _), (3, _), (4, _), (5, _), (6, _), (7, _), (8, _), (9, _), (10, _), (11, _)]) C (gd DX10_laysState_2 50 rfl) 9 [1, 2, 3, 4, 5, 6, 7, 8, 9, 0, 10, 11] rfl rfl (by decide) rfl ?_
        refine g_goto (tgt := 131) C (gd DX10_laysState_2 51 rfl) (by decide) ?_
        refine GW.sub [0, 1, 2, 3, 4, 5, 6, 7, 8, 9] rfl (Nat.le_refl _) (Nat.le_refl _) (lv' := [(0, _), (1, _), (2, _), (3, _), (4, _), (5, _), (6, _), (7, _), (8, _), (9, _)]) ?_
        exact GW.cast (by rw [inc1]) rfl rfl (ih (k + 1) h3 (by omega) hi3)
      have non : kSc P key k = none → lsI P m h s key (k + 1) (sI h1 (m + 7) (24 * s + k) (-1)) := fun e => hi.stay (by omega) hs (bstep_none (hbst _ rfl) (by rw [hmod]; exact e)) (Or.inl ⟨e, rfl⟩)
      have g2 : hI (sI h1 (m + 7) (24 * s + k) (-1)) m 2 = P.1 := by rw [row_ne (by omega)]; exact f2
      have g3 : hI (sI h1 (m + 7) (24 * s + k) (-1)) m 3 = P.2.1 := by rw [row_ne (by omega)]; exact f3
      have g1 : hI (sI h1 (m + 7) (24 * s + k) (-1)) (m + 1) = hI h (m + 1) := by rw [row_ne (by omega)]; exact f1
      refine g_iload C (gd DX10_laysState_1 18 rfl) 9 rfl ?_
      refine g_bipush (v := 24) C (gd DX10_laysState_1 19 rfl) (by decide) ?_
      refine g_icmp_ge C 304 (gd DX10_laysState_1 20 rfl) (by decide) (fun c135 => ?_) (fun c135 => ?_)
      · exact absurd c135 (nI_ge (a := k) (b := 24) (by omega) (by omega))
      · refine g_iload C (gd DX10_laysState_1 21 rfl) 9 rfl ?_
        refine g_iconst (v := 3) C (gd DX10_laysState_1 22 rfl) (by decide) ?_
        refine g_idiv C (gd DX10_laysState_1 23 rfl) (by decide) ?_
        rw [show nI k / 3 = nI (k / 3) from nx_div (a := k) (b := 3) rfl rfl (by omega) (by decide) (by decide)]
        refine g_istore (lv' := [(0, _), (1, _), (2, _), (3, _), (4, _), (5, _), (6, _), (7, _), (8, _), (9, _), (10, _)]) C (gd DX10_laysState_1 24 rfl) [1, 2, 3, 4, 5, 6, 7, 8, 9, 10, 0] (by decide) rfl ?_
        refine g_iload C (gd DX10_laysState_1 25 rfl) 9 rfl ?_
        refine g_iconst (v := 3) C (gd DX10_laysState_1 26 rfl) (by decide) ?_
        refine g_irem C (gd DX10_laysState_1 27 rfl) (by decide) ?_
        rw [show nI k - nI k / 3 * 3 = nI (k % 3) from nx_rem (a := k) (b := 3) rfl rfl (by omega) (by decide) (by decide)]
        refine g_istore (lv' := [(0, _), (1, _), (2, _), (3, _), (4, _), (5, _), (6, _), (7, _), (8, _), (9, _), (10, _), (11, _)]) C (gd DX10_laysState_1 28 rfl) [1, 2, 3, 4, 5, 6, 7, 8, 9, 10, 11, 0] (by decide) rfl ?_
        refine g_aload_n C (gd DX10_laysState_1 29 rfl) 0 rfl rfl ?_
        refine g_getr (ci := 10) (k := 35) C rfl (by decide) rfl lf_TestJudgeModel_41 hm1.1 (hm1.2 35 7 12 396000 rfl).1 (gd DX10_laysState_1 30 rfl) ?_
        refine g_bipush (v := 24) C (gd DX10_laysState_1 31 rfl) (by decide) ?_
        refine g_iload_n C (gd DX10_laysState_1 32 rfl) 1 rfl rfl ?_
        refine g_imul C (gd DX10_laysState_1 33 rfl) ?_
        refine g_iload C (gd DX10_laysState_1 34 rfl) 9 rfl ?_
        refine g_iadd C (gd DX10_laysState_1 35 rfl) ?_
        refine g_iconst (v := -1) C (gd DX10_laysState_1 36 rfl) (by decide) ?_
        refine g_isj (j := ((24 * s) + k)) C (hm1.2 35 7 12 396000 rfl).2.1 (hm1.2 35 7 12 396000 rfl).2.2 (by decide) (nx_add (nx_mul rfl rfl) rfl) (by omega) (gd DX10_laysState_1 37 rfl) ?_
        refine g_iload C (gd DX10_laysState_1 38 rfl) 10 rfl ?_
        refine g_aload_n C (gd DX10_laysState_1 39 rfl) 0 rfl rfl ?_
        refine g_cV1 (ci := 10) C [] mX10_atoms lm_TestJudgeModel_352 (by exact hm1.1) rfl rfl (e_m_atoms (by exact hm1)) hfl (by decide) (by decide) (by omega) (by omega) rfl rfl (Nat.le_of_ble_eq_true rfl) (gd DX10_laysState_1 40 rfl) ?_
        rw [g2]
        refine g_icmp_ge C 298 (gd DX10_laysState_1 41 rfl) (by decide) (fun c169 => ?_) (fun c169 => ?_)
        · exact cont _ (non (by rw [kSc, if_pos c169]))
        · refine g_iload C (gd DX10_laysState_1 42 rfl) 11 rfl ?_
          refine g_aload_n C (gd DX10_laysState_1 43 rfl) 0 rfl rfl ?_
          refine g_geti (ci := 10) (k := 3) C rfl (by decide) rfl lf_TestJudgeModel_340 hm1.1 (gd DX10_laysState_1 44 rfl) ?_
          rw [g3]
          refine g_icmp_ge C 298 (gd DX10_laysState_1 45 rfl) (by decide) (fun c178 => ?_) (fun c178 => ?_)
          · exact cont _ (non (by rw [kSc, if_neg c169, if_pos c178]))
          · refine g_iload C (gd DX10_laysState_1 46 rfl) 8 rfl ?_
            refine g_iload C (gd DX10_laysState_1 47 rfl) 10 rfl ?_
            refine g_cS1 C [_, _] mX10_has lm_TestJudgeModel_144 (e_m_has _ _) hfl (by decide) (by decide) (by omega) (by omega) rfl rfl (Nat.le_of_ble_eq_true rfl) (gd DX10_laysState_1 48 rfl) ?_
            by_cases hgd : kGd P key >>> (nI (k / 3) &&& 31) &&& 1 = 1
            · rw [b1_t hgd]
              refine g_if_ne C 194 (gd DX10_laysState_1 49 rfl) (by decide) (fun c188 => ?_) (fun c188 => ?_)
              · refine g_aload_n C (gd DX10_laysState_1 51 rfl) 0 rfl rfl ?_
                refine g_iload_n C (gd DX10_laysState_1 52 rfl) 2 rfl rfl ?_
                refine g_iload C (gd DX10_laysState_1 53 rfl) 5 rfl ?_
                refine g_iload C (gd DX10_laysState_1 54 rfl) 10 rfl ?_
                refine g_iload C (gd DX10_laysState_1 55 rfl) 11 rfl ?_
                refine g_iload C (gd DX10_laysState_1 56 rfl) 4 rfl ?_
                refine g_cV1 (ci := 10) C [_, _, _, _, _] mX10_goesOn lm_TestJudgeModel_386 (by exact hm1.1) rfl rfl (e_m_goesOn (r := r) (a := P.2.2.2.2.2.1) (by exact hm1) hr (by rw [g1, k3]; exact w1) x1 _ _ _ hz1) hfl (by decide) (by decide) (by omega) (by omega) rfl rfl (Nat.le_of_ble_eq_true rfl) (gd DX10_laysState_1 57 rfl) ?_
                rw [g1, k3]
                show GW z w 18 _ 0 0 _ _ (.int (kA P key k) :: _) _
                refine g_i2l C (gd DX10_laysState_1 58 rfl) ?_
                refine g_lstore (lv' := [(0, _), (1, _), (2, _), (3, _), (4, _), (5, _), (6, _), (7, _), (8, _), (9, _), (10, _), (11, _), (12, _)]) C (gd DX10_laysState_1 59 rfl) [1, 2, 3, 4, 5, 6, 7, 8, 9, 10, 11, 12, 0] (by decide) rfl ?_
                refine g_aload_n C (gd DX10_laysState_2 0 rfl) 0 rfl rfl ?_
                refine g_iload_n C (gd DX10_laysState_2 1 rfl) 3 rfl rfl ?_
                refine g_iload C (gd DX10_laysState_2 2 rfl) 6 rfl ?_
                refine g_iload C (gd DX10_laysState_2 3 rfl) 10 rfl ?_
                refine g_iload C (gd DX10_laysState_2 4 rfl) 11 rfl ?_
                refine g_iload C (gd DX10_laysState_2 5 rfl) 4 rfl ?_
                refine g_cV1 (ci := 10) C [_, _, _, _, _] mX10_goesOn lm_TestJudgeModel_386 (by exact hm1.1) rfl rfl (e_m_goesOn (r := o) (a := P.2.2.2.2.2.2.1) (by exact hm1) ho (by rw [g1, k4]; exact w2) x2 _ _ _ hz1) hfl (by decide) (by decide) (by omega) (by omega) rfl rfl (Nat.le_of_ble_eq_true rfl) (gd DX10_laysState_2 6 rfl) ?_
                rw [g1, k4]
                show GW z w 18 _ 0 0 _ _ (.int (kB P key k) :: _) _
                refine g_i2l C (gd DX10_laysState_2 7 rfl) ?_
                refine g_lstore (lv' := [(0, _), (1, _), (2, _), (3, _), (4, _), (5, _), (6, _), (7, _), (8, _), (9, _), (10, _), (11, _), (12, _), (14, _)]) C (gd DX10_laysState_2 8 rfl) [1, 2, 3, 4, 5, 6, 7, 8, 9, 10, 11, 12, 13, 0] (by decide) rfl ?_
                refine g_aload_n C (gd DX10_laysState_2 9 rfl) 0 rfl rfl ?_
                refine g_bipush (v := 90) C (gd DX10_laysState_2 10 rfl) (by decide) ?_
                refine g_iload C (gd DX10_laysState_2 11 rfl) 7 rfl ?_
                refine g_iload C (gd DX10_laysState_2 12 rfl) 10 rfl ?_
                refine g_iload C (gd DX10_laysState_2 13 rfl) 11 rfl ?_
                refine g_iconst (v := 1) C (gd DX10_laysState_2 14 rfl) (by decide) ?_
                refine g_cV1 (ci := 10) C [_, _, _, _, _] mX10_goesOn lm_TestJudgeModel_386 (by exact hm1.1) rfl rfl (e_m_goesOn (r := 90) (a := P.2.2.2.2.2.2.2) (by exact hm1) (by omega) (by rw [g1, k5]; exact w3) x3 _ _ _ (Or.inr rfl)) hfl (by decide) (by decide) (by omega) (by omega) rfl rfl (Nat.le_of_ble_eq_true rfl) (gd DX10_laysState_2 15 rfl) ?_
                rw [g1, k5]
                show GW z w 18 _ 0 0 _ _ (.int (kF P key k) :: _) _
                refine g_i2l C (gd DX10_laysState_2 16 rfl) ?_
                refine g_lstore (lv' := [(0, _), (1, _), (2, _), (3, _), (4, _), (5, _), (6, _), (7, _), (8, _), (9, _), (10, _), (11, _), (12, _), (14, _), (16, _)]) C (gd DX10_laysState_2 17 rfl) [1, 2, 3, 4, 5, 6, 7, 8, 9, 10, 11, 12, 13, 14, 0] (by decide) rfl ?_
                refine g_lload C (gd DX10_laysState_2 18 rfl) 12 rfl ?_
                refine g_lload C (gd DX10_laysState_2 19 rfl) 13 rfl ?_
                refine g_lor C (gd DX10_laysState_2 20 rfl) ?_
                refine g_lconst (v := 0) C (gd DX10_laysState_2 21 rfl) (by decide) ?_
                refine g_lcmp C (gd DX10_laysState_2 22 rfl) ?_
                refine g_if_eq C 298 (gd DX10_laysState_2 23 rfl) (by decide) (fun c249 => ?_) (fun c249 => ?_)
                · refine GW.sub [0, 1, 2, 3, 4, 5, 6, 7, 8, 9, 10, 11] rfl (Nat.le_refl _) (Nat.le_refl _) (lv' := [(0, _), (1, _), (2, _), (3, _), (4, _), (5, _), (6, _), (7, _), (8, _), (9, _), (10, _), (11, _)]) ?_
                  refine cont _ (non ?_)
                  rw [kSc, if_neg c169, if_neg c178, if_neg (fun z => z hgd), if_pos (show (kA P key k).toInt64 ||| (kB P key k).toInt64 = 0 from lcmp_eq.mp c249)]
                · have hne : ¬ (kA P key k).toInt64 ||| (kB P key k).toInt64 = 0 := fun e => c249 (lcmp_eq.mpr e)
                  have hsc : kSc P key k = some ((kA P key k).toInt64 ||| (kB P key k).toInt64 <<< ((16 : Int32).toInt64 &&& 63) ||| (kF P key k).toInt64 <<< ((32 : Int32).toInt64 &&& 63)) := by
                    rw [kSc, if_neg c169, if_neg c178, if_neg (fun z => z hgd), if_neg hne]
                  generalize hk' : (kA P key k).toInt64 ||| (kB P key k).toInt64 <<< ((16 : Int32).toInt64 &&& 63) ||| (kF P key k).toInt64 <<< ((32 : Int32).toInt64 &&& 63) = k' at hsc
                  have h42 : hI (sI h1 (m + 7) (24 * s + k) (-1)) m 42 = nI (bfs (kSc P) (24 * s + k)).length := by rw [row_ne (by omega)]; exact hi.2.1.2.1
                  refine g_aload_n C (gd DX10_laysState_2 24 rfl) 0 rfl rfl ?_
                  refine g_geti (ci := 10) (k := 42) C rfl (by decide) rfl lf_TestJudgeModel_357 hm1.1 (gd DX10_laysState_2 25 rfl) ?_
                  rw [h42]
                  refine g_sipush (v := 16500) C (gd DX10_laysState_2 26 rfl) (by decide) ?_
                  refine g_icmp_lt C 265 (gd DX10_laysState_2 27 rfl) (by decide) (fun c259 => ?_) (fun c259 => ?_)
                  · refine g_aload_n C (gd DX10_laysState_2 29 rfl) 0 rfl rfl ?_
                    refine g_getr (ci := 10) (k := 35) C rfl (by decide) rfl lf_TestJudgeModel_41 hm1.1 (hm1.2 35 7 12 396000 rfl).1 (gd DX10_laysState_2 30 rfl) ?_
                    refine g_bipush (v := 24) C (gd DX10_laysState_2 31 rfl) (by decide) ?_
                    refine g_iload_n C (gd DX10_laysState_2 32 rfl) 1 rfl rfl ?_
                    refine g_imul C (gd DX10_laysState_2 33 rfl) ?_
                    refine g_iload C (gd DX10_laysState_2 34 rfl) 9 rfl ?_
                    refine g_iadd C (gd DX10_laysState_2 35 rfl) ?_
                    refine g_aload_n C (gd DX10_laysState_2 36 rfl) 0 rfl rfl ?_
                    refine g_lload C (gd DX10_laysState_2 37 rfl) 12 rfl ?_
                    refine g_lload C (gd DX10_laysState_2 38 rfl) 13 rfl ?_
                    refine g_bipush (v := 16) C (gd DX10_laysState_2 39 rfl) (by decide) ?_
                    refine g_lshl C (gd DX10_laysState_2 40 rfl) ?_
                    refine g_lor C (gd DX10_laysState_2 41 rfl) ?_
                    refine g_lload C (gd DX10_laysState_2 42 rfl) 14 rfl ?_
                    refine g_bipush (v := 32) C (gd DX10_laysState_2 43 rfl) (by decide) ?_
                    refine g_lshl C (gd DX10_laysState_2 44 rfl) ?_
                    refine g_lor C (gd DX10_laysState_2 45 rfl) ?_
                    refine g_iload_n C (gd DX10_laysState_2 46 rfl) 1 rfl rfl ?_
                    refine g_iload C (gd DX10_laysState_2 47 rfl) 9 rfl ?_
                    refine g_callV (ci := 10) C [.long _, _, _] mX10_stateOf lm_TestJudgeModel_365 (by exact hm1.1) rfl rfl (e_m_stateOf (n := (bfs (kSc P) (24 * s + k)).length) (by exact hm1) (by rw [row_ne (by omega)]; exact hi.2.1.1) h42 _ (nI k) (fr := nI s) (Or.inr ⟨s, by omega, rfl⟩) (by omega)) hfl (by decide) (by decide) (by omega) (by omega) rfl rfl (Nat.le_of_ble_eq_true rfl) (gd DX10_laysState_2 48 rfl) (fun r h2 hp => ?_)
                    have hm2 : mSh m h2 := by
                      rcases hp with ⟨j, -, -, -, rfl⟩ | ⟨-, -, i, -, rfl, -⟩
                      · exact hm1
                      · exact hm1
                    rcases hp with ⟨j, hj, hjk, rfl, rfl⟩ | ⟨hno, rfl, i, hi0, rfl, hHT⟩
                    · have hjL : j < (bfs (kSc P) (24 * s + k)).length := hj
                      obtain ⟨q, hq⟩ : ∃ q, (bfs (kSc P) (24 * s + k))[j]? = some q := ⟨_, List.getElem?_eq_getElem hjL⟩
                      have hq1 : q.1 = k' := by
                        have e1 := (hi.2.1.2.2 j q hq).1
                        have e2 : hL h1 (m + 5) j = k' := by rw [← hk']; exact hjk
                        rw [← e1, e2]
                      show GW z w 18 _ 0 0 _ _ (.int (nI j) :: _) _
                      rw [show (24 : Int32) * nI s + nI k = nI (24 * s + k) from nx_add (nx_mul (a := 24) rfl rfl) rfl]
                      refine g_isj (j := (24 * s + k)) C (hm2.2 35 7 12 396000 rfl).2.1 (hm2.2 35 7 12 396000 rfl).2.2 (by decide) rfl (by omega) (gd DX10_laysState_2 49 rfl) ?_
                      refine GW.sub [0, 1, 2, 3, 4, 5, 6, 7, 8, 9, 10, 11] rfl (Nat.le_refl _) (Nat.le_refl _) (lv' := [(0, _), (1, _), (2, _), (3, _), (4, _), (5, _), (6, _), (7, _), (8, _), (9, _), (10, _), (11, _)]) ?_
                      refine cont _ ?_
                      have e3 := hi.stay (x := nI j) (by omega) hs (bstep_old (hbst _ rfl) (by rw [hmod]; exact hsc) (List.mem_map.mpr ⟨q, List.mem_of_getElem? hq, hq1⟩)) (Or.inr ⟨k', j, q.2, hsc, by rw [hq, ← hq1], rfl⟩)
                      rw [show sI (sI h1 (m + 7) (24 * s + k) (-1)) (m + 7) (24 * s + k) (nI j) = sI h1 (m + 7) (24 * s + k) (nI j) by
                        unfold sI
                        refine Prod.ext ?_ rfl
                        funext b c
                        dsimp only
                        split <;> rfl]
                      exact e3
                    · show GW z w 18 _ 0 0 _ _ (.int (nI (bfs (kSc P) (24 * s + k)).length) :: _) _
                      rw [show (24 : Int32) * nI s + nI k = nI (24 * s + k) from nx_add (nx_mul (a := 24) rfl rfl) rfl]
                      refine g_isj (j := (24 * s + k)) C (hm2.2 35 7 12 396000 rfl).2.1 (hm2.2 35 7 12 396000 rfl).2.2 (by decide) rfl (by omega) (gd DX10_laysState_2 49 rfl) ?_
                      refine GW.sub [0, 1, 2, 3, 4, 5, 6, 7, 8, 9, 10, 11] rfl (Nat.le_refl _) (Nat.le_refl _) (lv' := [(0, _), (1, _), (2, _), (3, _), (4, _), (5, _), (6, _), (7, _), (8, _), (9, _), (10, _), (11, _)]) ?_
                      refine cont _ ?_
                      have hnm : ¬ k' ∈ (bfs (kSc P) (24 * s + k)).map (·.1) := fun z => by
                        obtain ⟨q, q1, q2⟩ := List.mem_map.mp z
                        obtain ⟨j, hj⟩ := List.getElem?_of_mem q1
                        have := hno j (List.getElem?_eq_some_iff.mp hj).1
                        rw [hk'] at this
                        exact this ((hi.2.1.2.2 j q hj).1.trans q2)
                      rw [hk', row_ne (by omega)] at hHT
                      rw [hk', if_neg (by intro z; have := congrArg Int32.toInt z; rw [nI_toInt (by omega)] at this; simp at this), nI_clamp (by omega), row_ne (by omega)]
                      exact hi.new (by omega) hs (bstep_new (hbst _ rfl) (by rw [hmod]; exact hsc) hnm) hcl hsc hHT
                  · exact absurd (nI_lt (a := (bfs (kSc P) (24 * s + k)).length) (b := 16500) (by omega) (by omega)) c259
              · exact absurd c188 (by decide)
            · rw [b1_f hgd]
              refine g_if_ne C 194 (gd DX10_laysState_1 49 rfl) (by decide) (fun c188 => ?_) (fun c188 => ?_)
              · exact absurd rfl c188
              · refine g_goto (tgt := 298) C (gd DX10_laysState_1 50 rfl) (by decide) ?_
                exact cont _ (non (by rw [kSc, if_neg c169, if_neg c178, if_pos hgd]))
  have bad : ∀ b0 : Int32, b0 = kBa key → GW z w 18 (gQ z w 0 0 (fun r' h'' => r' = none ∧ lsI P m h s key 24 h'')) 0 0 72 [(0, .ref m), (1, .int (nI s)), (2, .int (nI r)), (3, .int (nI o)), (4, .int (kbg key)), (5, .int (kMi key)), (6, .int (kIt key))] [.int b0] h := by
    intro b0 hb0
    subst hb0
    refine g_istore (lv' := [(0, _), (1, _), (2, _), (3, _), (4, _), (5, _), (6, _), (7, _)]) C (gd DX10_laysState_0 42 rfl) [1, 2, 3, 4, 5, 6, 7, 0] (by decide) rfl ?_
    refine g_aload_n C (gd DX10_laysState_0 43 rfl) 0 rfl rfl ?_
    refine g_cV1 (ci := 10) C [] mX10_allAtoms lm_TestJudgeModel_379 (by exact hm.1) rfl rfl (e_m_allAtoms hm) hfl (by decide) (by decide) (by omega) (by omega) rfl rfl (Nat.le_of_ble_eq_true rfl) (gd DX10_laysState_0 44 rfl) ?_
    rw [k1]
    refine g_aload_n C (gd DX10_laysState_0 45 rfl) 0 rfl rfl ?_
    refine g_bipush (v := 90) C (gd DX10_laysState_0 46 rfl) (by decide) ?_
    refine g_iload C (gd DX10_laysState_0 47 rfl) 7 rfl ?_
    refine g_iconst (v := 1) C (gd DX10_laysState_0 48 rfl) (by decide) ?_
    refine g_cV1 (ci := 10) C [_, _, _] mX10_endsOf lm_TestJudgeModel_382 (by exact hm.1) rfl rfl (e_m_endsOf (r := 90) (a := P.2.2.2.2.2.2.2) hm (by omega) (by rw [k5]; exact w3) x3 _ (Or.inr rfl)) hfl (by decide) (by decide) (by omega) (by omega) rfl rfl (Nat.le_of_ble_eq_true rfl) (gd DX10_laysState_0 49 rfl) ?_
    rw [k5, if_neg (by decide)]
    refine g_iconst (v := -1) C (gd DX10_laysState_0 50 rfl) (by decide) ?_
    refine g_ixor C (gd DX10_laysState_0 51 rfl) ?_
    refine g_iand C (gd DX10_laysState_0 52 rfl) ?_
    show GW z w 18 _ 0 0 _ _ (.int (kGd P key) :: _) _
    refine g_istore (lv' := [(0, _), (1, _), (2, _), (3, _), (4, _), (5, _), (6, _), (7, _), (8, _)]) C (gd DX10_laysState_0 53 rfl) [1, 2, 3, 4, 5, 6, 7, 8, 0] (by decide) rfl ?_
    refine g_aload_n C (gd DX10_laysState_0 54 rfl) 0 rfl rfl ?_
    refine g_getr (ci := 10) (k := 36) C rfl (by decide) rfl lf_TestJudgeModel_44 hm.1 (hm.2 36 8 12 16500 rfl).1 (gd DX10_laysState_0 55 rfl) ?_
    refine g_iload_n C (gd DX10_laysState_0 56 rfl) 1 rfl rfl ?_
    refine g_aload_n C (gd DX10_laysState_0 57 rfl) 0 rfl rfl ?_
    refine g_iload_n C (gd DX10_laysState_0 58 rfl) 2 rfl rfl ?_
    refine g_iload C (gd DX10_laysState_0 59 rfl) 5 rfl ?_
    refine g_iload C (gd DX10_laysState_1 0 rfl) 4 rfl ?_
    refine g_cV1 (ci := 10) C [_, _, _] mX10_endsOf lm_TestJudgeModel_382 (by exact hm.1) rfl rfl (e_m_endsOf (r := r) (a := P.2.2.2.2.2.1) hm hr (by rw [k3]; exact w1) x1 _ hz1) hfl (by decide) (by decide) (by omega) (by omega) rfl rfl (Nat.le_of_ble_eq_true rfl) (gd DX10_laysState_1 1 rfl) ?_
    rw [k3]
    refine g_iload C (gd DX10_laysState_1 2 rfl) 8 rfl ?_
    refine g_iand C (gd DX10_laysState_1 3 rfl) ?_
    show GW z w 18 _ 0 0 _ _ (.int (kE1 P key) :: _) _
    refine g_isj (j := s) C (hm.2 36 8 12 16500 rfl).2.1 (hm.2 36 8 12 16500 rfl).2.2 (by decide) rfl (by omega) (gd DX10_laysState_1 4 rfl) ?_
    refine g_aload_n C (gd DX10_laysState_1 5 rfl) 0 rfl rfl ?_
    refine g_getr (ci := 10) (k := 37) C rfl (by decide) rfl lf_TestJudgeModel_47 hm.1 (hm.2 37 9 12 16500 rfl).1 (gd DX10_laysState_1 6 rfl) ?_
    refine g_iload_n C (gd DX10_laysState_1 7 rfl) 1 rfl rfl ?_
    refine g_aload_n C (gd DX10_laysState_1 8 rfl) 0 rfl rfl ?_
    refine g_iload_n C (gd DX10_laysState_1 9 rfl) 3 rfl rfl ?_
    refine g_iload C (gd DX10_laysState_1 10 rfl) 6 rfl ?_
    refine g_iload C (gd DX10_laysState_1 11 rfl) 4 rfl ?_
    refine g_cV1 (ci := 10) C [_, _, _] mX10_endsOf lm_TestJudgeModel_382 (by exact hm.1) rfl rfl (e_m_endsOf (r := o) (a := P.2.2.2.2.2.2.1) (by exact hm) ho (by rw [row_ne (by omega), k4]; exact w2) x2 _ hz1) hfl (by decide) (by decide) (by omega) (by omega) rfl rfl (Nat.le_of_ble_eq_true rfl) (gd DX10_laysState_1 12 rfl) ?_
    rw [row_ne (by omega), k4]
    refine g_iload C (gd DX10_laysState_1 13 rfl) 8 rfl ?_
    refine g_iand C (gd DX10_laysState_1 14 rfl) ?_
    show GW z w 18 _ 0 0 _ _ (.int (kE2 P key) :: _) _
    refine g_isj (j := s) C (hm.2 37 9 12 16500 rfl).2.1 (hm.2 37 9 12 16500 rfl).2.2 (by decide) rfl (by omega) (gd DX10_laysState_1 15 rfl) ?_
    refine g_iconst (v := 0) C (gd DX10_laysState_1 16 rfl) (by decide) ?_
    refine g_istore (lv' := [(0, _), (1, _), (2, _), (3, _), (4, _), (5, _), (6, _), (7, _), (8, _), (9, _)]) C (gd DX10_laysState_1 17 rfl) [1, 2, 3, 4, 5, 6, 7, 8, 9, 0] (by decide) rfl ?_
    refine loop 24 0 _ rfl ⟨⟨rfl, rfl, rfl, rfl⟩, ?_, fun b j hw => ?_, fun b j hw => rfl, fun e e1 e2 => by omega, ?_, ?_⟩
    · exact hL0.cong (by rw [row_ne (by omega), row_ne (by omega)]) rfl (by rw [row_ne (by omega), row_ne (by omega)]) (by rw [row_ne (by omega), row_ne (by omega)]) (by rw [row_ne (by omega), row_ne (by omega)]) (by rw [row_ne (by omega), row_ne (by omega)])
    · rw [hI_sI, if_neg (fun z => hw (by unfold lsW; omega)), hI_sI, if_neg (fun z => hw (by unfold lsW; omega))]
    · rw [row_ne (by omega), hI_sI, if_pos ⟨rfl, rfl⟩]
    · rw [hI_sI, if_pos ⟨rfl, rfl⟩]
  have beg : ∀ b0 : Int32, b0 = kbg key → GW z w 18 (gQ z w 0 0 (fun r' h'' => r' = none ∧ lsI P m h s key 24 h'')) 0 0 18 [(0, .ref m), (1, .int (nI s)), (2, .int (nI r)), (3, .int (nI o))] [.int b0] h := by
    intro b0 hb0
    subst hb0
    refine g_istore (lv' := [(0, _), (1, _), (2, _), (3, _), (4, _)]) C (gd DX10_laysState_0 10 rfl) [1, 2, 3, 4, 0] (by decide) rfl ?_
    refine g_aload_n C (gd DX10_laysState_0 11 rfl) 0 rfl rfl ?_
    refine g_getr (ci := 10) (k := 33) C rfl (by decide) rfl lf_TestJudgeModel_33 hm.1 (hm.2 33 5 13 16500 rfl).1 (gd DX10_laysState_0 12 rfl) ?_
    refine g_iload_n C (gd DX10_laysState_0 13 rfl) 1 rfl rfl ?_
    refine g_laj (j := s) C (hm.2 33 5 13 16500 rfl).2.1 (hm.2 33 5 13 16500 rfl).2.2 (by decide) rfl (by omega) (gd DX10_laysState_0 14 rfl) ?_
    rw [hkey]
    refine g_ldc2 (v := 65535) C (gd DX10_laysState_0 15 rfl) lK_TestJudgeModel_375 ?_
    refine g_land C (gd DX10_laysState_0 16 rfl) ?_
    refine g_l2i C (gd DX10_laysState_0 17 rfl) ?_
    refine g_istore (lv' := [(0, _), (1, _), (2, _), (3, _), (4, _), (5, _)]) C (gd DX10_laysState_0 18 rfl) [1, 2, 3, 4, 5, 0] (by decide) rfl ?_
    refine g_aload_n C (gd DX10_laysState_0 19 rfl) 0 rfl rfl ?_
    refine g_getr (ci := 10) (k := 33) C rfl (by decide) rfl lf_TestJudgeModel_33 hm.1 (hm.2 33 5 13 16500 rfl).1 (gd DX10_laysState_0 20 rfl) ?_
    refine g_iload_n C (gd DX10_laysState_0 21 rfl) 1 rfl rfl ?_
    refine g_laj (j := s) C (hm.2 33 5 13 16500 rfl).2.1 (hm.2 33 5 13 16500 rfl).2.2 (by decide) rfl (by omega) (gd DX10_laysState_0 22 rfl) ?_
    rw [hkey]
    refine g_bipush (v := 16) C (gd DX10_laysState_0 23 rfl) (by decide) ?_
    refine g_lshr C (gd DX10_laysState_0 24 rfl) ?_
    refine g_ldc2 (v := 65535) C (gd DX10_laysState_0 25 rfl) lK_TestJudgeModel_375 ?_
    refine g_land C (gd DX10_laysState_0 26 rfl) ?_
    refine g_l2i C (gd DX10_laysState_0 27 rfl) ?_
    refine g_istore (lv' := [(0, _), (1, _), (2, _), (3, _), (4, _), (5, _), (6, _)]) C (gd DX10_laysState_0 28 rfl) [1, 2, 3, 4, 5, 6, 0] (by decide) rfl ?_
    refine g_iload C (gd DX10_laysState_0 29 rfl) 4 rfl ?_
    refine g_if_eq C 58 (gd DX10_laysState_0 30 rfl) (by decide) (fun c51 => ?_) (fun c51 => ?_)
    · refine g_aload_n C (gd DX10_laysState_0 33 rfl) 0 rfl rfl ?_
      refine g_getr (ci := 10) (k := 33) C rfl (by decide) rfl lf_TestJudgeModel_33 hm.1 (hm.2 33 5 13 16500 rfl).1 (gd DX10_laysState_0 34 rfl) ?_
      refine g_iload_n C (gd DX10_laysState_0 35 rfl) 1 rfl rfl ?_
      refine g_laj (j := s) C (hm.2 33 5 13 16500 rfl).2.1 (hm.2 33 5 13 16500 rfl).2.2 (by decide) rfl (by omega) (gd DX10_laysState_0 36 rfl) ?_
      rw [hkey]
      refine g_bipush (v := 32) C (gd DX10_laysState_0 37 rfl) (by decide) ?_
      refine g_lshr C (gd DX10_laysState_0 38 rfl) ?_
      refine g_ldc2 (v := 255) C (gd DX10_laysState_0 39 rfl) lK_TestJudgeModel_377 ?_
      refine g_land C (gd DX10_laysState_0 40 rfl) ?_
      refine g_l2i C (gd DX10_laysState_0 41 rfl) ?_
      refine bad _ ?_
      rw [kBa, if_neg (fun e => by rw [kbg, b1_t e] at c51; exact absurd c51 (by decide))]
    · refine g_iconst (v := 0) C (gd DX10_laysState_0 31 rfl) (by decide) ?_
      refine g_goto (tgt := 72) C (gd DX10_laysState_0 32 rfl) (by decide) ?_
      refine bad _ ?_
      rw [kBa, if_pos (Classical.byContradiction fun e => c51 (by rw [kbg, b1_f e]))]
  refine g_aload_n C (gd DX10_laysState_0 0 rfl) 0 rfl rfl ?_
  refine g_getr (ci := 10) (k := 33) C rfl (by decide) rfl lf_TestJudgeModel_33 hm.1 (hm.2 33 5 13 16500 rfl).1 (gd DX10_laysState_0 1 rfl) ?_
  refine g_iload_n C (gd DX10_laysState_0 2 rfl) 1 rfl rfl ?_
  refine g_laj (j := s) C (hm.2 33 5 13 16500 rfl).2.1 (hm.2 33 5 13 16500 rfl).2.2 (by decide) rfl (by omega) (gd DX10_laysState_0 3 rfl) ?_
  rw [hkey]
  refine g_ldc2 (v := 1099511627776) C (gd DX10_laysState_0 4 rfl) lK_TestJudgeModel_363 ?_
  refine g_lcmp C (gd DX10_laysState_0 5 rfl) ?_
  refine g_if_ne C 17 (gd DX10_laysState_0 6 rfl) (by decide) (fun c10 => ?_) (fun c10 => ?_)
  · refine g_iconst (v := 0) C (gd DX10_laysState_0 9 rfl) (by decide) ?_
    exact beg _ (by rw [kbg, b1_f (p := key = BEG) (fun e => c10 (lcmp_eq.mpr e))])
  · refine g_iconst (v := 1) C (gd DX10_laysState_0 7 rfl) (by decide) ?_
    refine g_goto (tgt := 18) C (gd DX10_laysState_0 8 rfl) (by decide) ?_
    exact beg _ (by rw [kbg, b1_t (p := key = BEG) (lcmp_eq.mp c10)])
end M11
