/-! goesOn, laysForbidden, small reads -/
/-- how many atoms, all of them, of so many tests -/
def atF (t : Int32) : Int32 := 1 <<< (t &&& 31)
def allF (t : Int32) : Int32 := (1 <<< (atF t &&& 31)) - 1
section M7
variable {w : gD} {m : Nat} {h : HS}
theorem e_m_goesOn (hm : mSh m h) {r a : Nat} (hr : r < 102) (ha : gRec (hI h (m + 1)) r 0 = nI a) (ha2 : a ≤ 16) (set atom act : Int32) {bg : Int32} (hbg : bg = 0 ∨ bg = 1) :
    EvF w 1 0 0 yX10_goesOn cX10_goesOn 10 (some .int) [.ref m, .int (nI r), .int set, .int atom, .int act, .int bg] h (some (.int (goF (gRec (hI h (m + 1)) r) a set atom act (¬ bg = 0) a))) h := by
  refine g_start (by decide) (Nat.le_of_ble_eq_true rfl) [(0, _), (1, _), (2, _), (3, _), (4, _), (5, _)] rfl (fun z hfl C => ?_)
  generalize hX : gRec (hI h (m + 1)) r = X at *
  have outer : ∀ n q, q + n = a → GW z w 10 (gQ z w 0 0 (fun r' h'' => r' = some (.int (goF X a set atom act (¬ bg = 0) a)) ∧ h'' = h)) 0 0 6 [(0, .ref m), (1, .int (nI r)), (2, .int set), (3, .int atom), (4, .int act), (5, .int bg), (6, .int (goF X a set atom act (¬ bg = 0) q)), (7, .int (nI q))] [] h := by
    intro n
    induction n with
    | zero =>
      intro q hq
      refine g_iload C (gd DX10_goesOn_0 4 rfl) 7 rfl ?_
      refine g_aload_n C (gd DX10_goesOn_0 5 rfl) 0 rfl rfl ?_
      refine g_iload_n C (gd DX10_goesOn_0 6 rfl) 1 rfl rfl ?_
      refine g_iconst (v := 0) C (gd DX10_goesOn_0 7 rfl) (by decide) ?_
      refine g_cV1 (ci := 10) C [_, _] mX10_at lm_TestJudgeModel_131 (by exact hm.1) rfl rfl (e_atH (k := 0) (x := r) hm (by omega) (by omega) rfl rfl) hfl (by decide) (by decide) (by omega) (by omega) rfl rfl (Nat.le_of_ble_eq_true rfl) (gd DX10_goesOn_0 8 rfl) ?_
      rw [hX, ha]
      refine g_icmp_ge C 147 (gd DX10_goesOn_0 9 rfl) (by decide) (fun c14 => ?_) (fun c14 => ?_)
      · refine g_iload C (gd DX10_goesOn_1 15 rfl) 6 rfl ?_
        exact g_iret C (by omega) (by omega) ⟨by rw [show q = a by omega], rfl⟩ (gd DX10_goesOn_1 16 rfl)
      · exact absurd (nI_le (by omega) (by omega)) c14
    | succ n ih =>
      intro q hq
      have step : ∀ v : Int32, v = goF X a set atom act (¬ bg = 0) (q + 1) → GW z w 10 (gQ z w 0 0 (fun r' h'' => r' = some (.int (goF X a set atom act (¬ bg = 0) a)) ∧ h'' = h)) 0 0 141 [(0, .ref m), (1, .int (nI r)), (2, .int set), (3, .int atom), (4, .int act), (5, .int bg), (6, .int v), (7, .int (nI q))] [] h := by
        intro v hv
        refine g_iinc (lv' := [(0, _), (1, _), (2, _), (3, _), (4, _), (5, _), (6, _), (7, _)]) C (gd DX10_goesOn_1 13 rfl) 7 [1, 2, 3, 4, 5, 6, 7, 0] rfl rfl (by decide) rfl ?_
        refine g_goto (tgt := 6) C (gd DX10_goesOn_1 14 rfl) (by decide) ?_
        exact GW.cast (by rw [inc1, hv]) rfl rfl (ih (q + 1) (by omega))
      have last : ∀ (v : Int32) (p : Nat), X (2 + q) = act → (v = 0 → ¬ goC X a set atom act (¬ bg = 0) q) → (¬ v = 0 → goC X a set atom act (¬ bg = 0) q) → GW z w 10 (gQ z w 0 0 (fun r' h'' => r' = some (.int (goF X a set atom act (¬ bg = 0) a)) ∧ h'' = h)) 0 0 123 [(0, .ref m), (1, .int (nI r)), (2, .int set), (3, .int atom), (4, .int act), (5, .int bg), (6, .int (goF X a set atom act (¬ bg = 0) q)), (7, .int (nI q)), (8, .int v), (9, .int (nI p))] [] h := by
        intro v p hact h0 h1
        refine g_iload C (gd DX10_goesOn_1 3 rfl) 6 rfl ?_
        refine g_iload C (gd DX10_goesOn_1 4 rfl) 8 rfl ?_
        refine g_if_eq C 137 (gd DX10_goesOn_1 5 rfl) (by decide) (fun c127 => ?_) (fun c127 => ?_)
        · refine g_iconst (v := 0) C (gd DX10_goesOn_1 10 rfl) (by decide) ?_
          refine g_ior C (gd DX10_goesOn_1 11 rfl) ?_
          refine g_istore (lv' := [(0, _), (1, _), (2, _), (3, _), (4, _), (5, _), (6, _), (7, _), (8, _), (9, _)]) C (gd DX10_goesOn_1 12 rfl) [1, 2, 3, 4, 5, 6, 0, 7, 8, 9] (by decide) rfl ?_
          refine GW.sub [0, 1, 2, 3, 4, 5, 6, 7] rfl (Nat.le_refl _) (Nat.le_refl _) (lv' := [(0, _), (1, _), (2, _), (3, _), (4, _), (5, _), (6, _), (7, _)]) ?_
          exact step _ (goF_f (h0 c127)).symm
        · refine g_iconst (v := 1) C (gd DX10_goesOn_1 6 rfl) (by decide) ?_
          refine g_iload C (gd DX10_goesOn_1 7 rfl) 7 rfl ?_
          refine g_ishl C (gd DX10_goesOn_1 8 rfl) ?_
          refine g_goto (tgt := 138) C (gd DX10_goesOn_1 9 rfl) (by decide) ?_
          refine g_ior C (gd DX10_goesOn_1 11 rfl) ?_
          refine g_istore (lv' := [(0, _), (1, _), (2, _), (3, _), (4, _), (5, _), (6, _), (7, _), (8, _), (9, _)]) C (gd DX10_goesOn_1 12 rfl) [1, 2, 3, 4, 5, 6, 0, 7, 8, 9] (by decide) rfl ?_
          refine GW.sub [0, 1, 2, 3, 4, 5, 6, 7] rfl (Nat.le_refl _) (Nat.le_refl _) (lv' := [(0, _), (1, _), (2, _), (3, _), (4, _), (5, _), (6, _), (7, _)]) ?_
          exact step _ (goF_t (h1 c127)).symm
      have inner : X (2 + q) = act → ∀ n p v, p + n = a → (v = 0 ∨ v = 1) → (v = 1 ↔ (¬ bg = 0 ∧ hasB (X (18 + q)) atom) ∨ ∃ p', p' < p ∧ hasB set (nI p') ∧ hasB (X (50 + 16 * p' + q)) atom) → GW z w 10 (gQ z w 0 0 (fun r' h'' => r' = some (.int (goF X a set atom act (¬ bg = 0) a)) ∧ h'' = h)) 0 0 66 [(0, .ref m), (1, .int (nI r)), (2, .int set), (3, .int atom), (4, .int act), (5, .int bg), (6, .int (goF X a set atom act (¬ bg = 0) q)), (7, .int (nI q)), (8, .int v), (9, .int (nI p))] [] h := by
        intro hact n
        induction n with
        | zero =>
          intro p v hp hv hiff
          have e : p = a := by omega
          subst e
          refine g_iload C (gd DX10_goesOn_0 36 rfl) 9 rfl ?_
          refine g_aload_n C (gd DX10_goesOn_0 37 rfl) 0 rfl rfl ?_
          refine g_iload_n C (gd DX10_goesOn_0 38 rfl) 1 rfl rfl ?_
          refine g_iconst (v := 0) C (gd DX10_goesOn_0 39 rfl) (by decide) ?_
          refine g_cV1 (ci := 10) C [_, _] mX10_at lm_TestJudgeModel_131 (by exact hm.1) rfl rfl (e_atH (k := 0) (x := r) hm (by omega) (by omega) rfl rfl) hfl (by decide) (by decide) (by omega) (by omega) rfl rfl (Nat.le_of_ble_eq_true rfl) (gd DX10_goesOn_0 40 rfl) ?_
          rw [hX, ha]
          refine g_icmp_ge C 123 (gd DX10_goesOn_0 41 rfl) (by decide) (fun c74 => ?_) (fun c74 => ?_)
          · refine last v p hact (fun z0 z1 => ?_) (fun z0 => ⟨hact, hiff.mp (by rcases hv with q | q; exact absurd q z0; exact q)⟩)
            have := hiff.mpr z1.2
            rw [z0] at this
            exact absurd this (by decide)
          · exact absurd (nI_le (by omega) (by omega)) c74
        | succ n ih2 =>
          intro p v hp hv hiff
          refine g_iload C (gd DX10_goesOn_0 36 rfl) 9 rfl ?_
          refine g_aload_n C (gd DX10_goesOn_0 37 rfl) 0 rfl rfl ?_
          refine g_iload_n C (gd DX10_goesOn_0 38 rfl) 1 rfl rfl ?_
          refine g_iconst (v := 0) C (gd DX10_goesOn_0 39 rfl) (by decide) ?_
          refine g_cV1 (ci := 10) C [_, _] mX10_at lm_TestJudgeModel_131 (by exact hm.1) rfl rfl (e_atH (k := 0) (x := r) hm (by omega) (by omega) rfl rfl) hfl (by decide) (by decide) (by omega) (by omega) rfl rfl (Nat.le_of_ble_eq_true rfl) (gd DX10_goesOn_0 40 rfl) ?_
          rw [hX, ha]
          refine g_icmp_ge C 123 (gd DX10_goesOn_0 41 rfl) (by decide) (fun c74 => ?_) (fun c74 => ?_)
          · exact absurd c74 (nI_ge (by omega) (by omega))
          · refine g_iload C (gd DX10_goesOn_0 42 rfl) 8 rfl ?_
            refine g_if_ne C 123 (gd DX10_goesOn_0 43 rfl) (by decide) (fun c79 => ?_) (fun c79 => ?_)
            · refine last v p hact (fun z0 => absurd z0 c79) (fun z0 => ⟨hact, ?_⟩)
              rcases hiff.mp (by rcases hv with q | q; exact absurd q z0; exact q) with q1 | ⟨p', q1, q2⟩
              · exact Or.inl q1
              · exact Or.inr ⟨p', by omega, q2⟩
            · have hno : ¬ ((¬ bg = 0 ∧ hasB (X (18 + q)) atom) ∨ ∃ p', p' < p ∧ hasB set (nI p') ∧ hasB (X (50 + 16 * p' + q)) atom) := fun z1 => by
                have := hiff.mpr z1
                rw [c79] at this
                exact absurd this (by decide)
              have nxt : ∀ v2 : Int32, (v2 = 0 ∨ v2 = 1) → (v2 = 1 ↔ hasB set (nI p) ∧ hasB (X (50 + 16 * p + q)) atom) → GW z w 10 (gQ z w 0 0 (fun r' h'' => r' = some (.int (goF X a set atom act (¬ bg = 0) a)) ∧ h'' = h)) 0 0 115 [(0, .ref m), (1, .int (nI r)), (2, .int set), (3, .int atom), (4, .int act), (5, .int bg), (6, .int (goF X a set atom act (¬ bg = 0) q)), (7, .int (nI q)), (8, .int v), (9, .int (nI p))] [.int v2] h := by
                intro v2 hv2 hi2
                refine g_istore (lv' := [(0, _), (1, _), (2, _), (3, _), (4, _), (5, _), (6, _), (7, _), (8, _), (9, _)]) C (gd DX10_goesOn_1 0 rfl) [1, 2, 3, 4, 5, 6, 7, 8, 0, 9] (by decide) rfl ?_
                refine g_iinc (lv' := [(0, _), (1, _), (2, _), (3, _), (4, _), (5, _), (6, _), (7, _), (8, _), (9, _)]) C (gd DX10_goesOn_1 1 rfl) 9 [1, 2, 3, 4, 5, 6, 7, 8, 9, 0] rfl rfl (by decide) rfl ?_
                refine g_goto (tgt := 66) C (gd DX10_goesOn_1 2 rfl) (by decide) ?_
                refine GW.cast (by rw [inc1]) rfl rfl (ih2 (p + 1) v2 (by omega) hv2 ⟨fun q1 => Or.inr ⟨p, by omega, hi2.mp q1⟩, fun q1 => hi2.mpr ?_⟩)
                rcases q1 with q1 | ⟨p', q1, q2⟩
                · exact absurd (Or.inl q1) hno
                · by_cases e : p' = p
                  · subst e; exact q2
                  · exact absurd (Or.inr ⟨p', by omega, q2⟩) hno
              refine g_iload_n C (gd DX10_goesOn_0 44 rfl) 2 rfl rfl ?_
              refine g_iload C (gd DX10_goesOn_0 45 rfl) 9 rfl ?_
              refine g_cS1 C [_, _] mX10_has lm_TestJudgeModel_144 (e_m_has _ _) hfl (by decide) (by decide) (by omega) (by omega) rfl rfl (Nat.le_of_ble_eq_true rfl) (gd DX10_goesOn_0 46 rfl) ?_
              by_cases hb : hasB set (nI p)
              · rw [b1_t (show set >>> (nI p &&& 31) &&& 1 = 1 from hb)]
                refine g_if_eq C 114 (gd DX10_goesOn_0 47 rfl) (by decide) (fun c88 => ?_) (fun c88 => ?_)
                · exact absurd c88 (by decide)
                · refine g_aload_n C (gd DX10_goesOn_0 48 rfl) 0 rfl rfl ?_
                  refine g_iload_n C (gd DX10_goesOn_0 49 rfl) 1 rfl rfl ?_
                  refine g_iload C (gd DX10_goesOn_0 50 rfl) 9 rfl ?_
                  refine g_iload C (gd DX10_goesOn_0 51 rfl) 7 rfl ?_
                  refine g_cS1 C [_, _] mX10_between lm_TestJudgeModel_138 (e_m_between _ _) hfl (by decide) (by decide) (by omega) (by omega) rfl rfl (Nat.le_of_ble_eq_true rfl) (gd DX10_goesOn_0 52 rfl) ?_
                  refine g_cV1 (ci := 10) C [_, _] mX10_at lm_TestJudgeModel_131 (by exact hm.1) rfl rfl (e_atH (k := (50 + 16 * p + q)) (x := r) hm (by omega) (by omega) rfl (nx_bt rfl rfl)) hfl (by decide) (by decide) (by omega) (by omega) rfl rfl (Nat.le_of_ble_eq_true rfl) (gd DX10_goesOn_0 53 rfl) ?_
                  rw [hX]
                  refine g_iload_n C (gd DX10_goesOn_0 54 rfl) 3 rfl rfl ?_
                  refine g_cS1 C [_, _] mX10_has lm_TestJudgeModel_144 (e_m_has _ _) hfl (by decide) (by decide) (by omega) (by omega) rfl rfl (Nat.le_of_ble_eq_true rfl) (gd DX10_goesOn_0 55 rfl) ?_
                  by_cases hc : hasB (X (50 + 16 * p + q)) atom
                  · rw [b1_t (show X (50 + 16 * p + q) >>> (atom &&& 31) &&& 1 = 1 from hc)]
                    refine g_if_eq C 114 (gd DX10_goesOn_0 56 rfl) (by decide) (fun c107 => ?_) (fun c107 => ?_)
                    · exact absurd c107 (by decide)
                    · refine g_iconst (v := 1) C (gd DX10_goesOn_0 57 rfl) (by decide) ?_
                      refine g_goto (tgt := 115) C (gd DX10_goesOn_0 58 rfl) (by decide) ?_
                      exact nxt 1 (Or.inr rfl) ⟨fun _ => ⟨hb, hc⟩, fun _ => rfl⟩
                  · rw [b1_f (show ¬ X (50 + 16 * p + q) >>> (atom &&& 31) &&& 1 = 1 from hc)]
                    refine g_if_eq C 114 (gd DX10_goesOn_0 56 rfl) (by decide) (fun c107 => ?_) (fun c107 => ?_)
                    · refine g_iconst (v := 0) C (gd DX10_goesOn_0 59 rfl) (by decide) ?_
                      exact nxt 0 (Or.inl rfl) ⟨fun q1 => absurd q1 (by decide), fun q1 => absurd q1.2 hc⟩
                    · exact absurd rfl c107
              · rw [b1_f (show ¬ set >>> (nI p &&& 31) &&& 1 = 1 from hb)]
                refine g_if_eq C 114 (gd DX10_goesOn_0 47 rfl) (by decide) (fun c88 => ?_) (fun c88 => ?_)
                · refine g_iconst (v := 0) C (gd DX10_goesOn_0 59 rfl) (by decide) ?_
                  exact nxt 0 (Or.inl rfl) ⟨fun q1 => absurd q1 (by decide), fun q1 => absurd q1.1 hb⟩
                · exact absurd rfl c88
      have start : X (2 + q) = act → ∀ v : Int32, (v = 0 ∨ v = 1) → (v = 1 ↔ (¬ bg = 0 ∧ hasB (X (18 + q)) atom)) → GW z w 10 (gQ z w 0 0 (fun r' h'' => r' = some (.int (goF X a set atom act (¬ bg = 0) a)) ∧ h'' = h)) 0 0 61 [(0, .ref m), (1, .int (nI r)), (2, .int set), (3, .int atom), (4, .int act), (5, .int bg), (6, .int (goF X a set atom act (¬ bg = 0) q)), (7, .int (nI q))] [.int v] h := by
        intro hact v hv hi
        refine g_istore (lv' := [(0, _), (1, _), (2, _), (3, _), (4, _), (5, _), (6, _), (7, _), (8, _)]) C (gd DX10_goesOn_0 33 rfl) [1, 2, 3, 4, 5, 6, 7, 8, 0] (by decide) rfl ?_
        refine g_iconst (v := 0) C (gd DX10_goesOn_0 34 rfl) (by decide) ?_
        refine g_istore (lv' := [(0, _), (1, _), (2, _), (3, _), (4, _), (5, _), (6, _), (7, _), (8, _), (9, _)]) C (gd DX10_goesOn_0 35 rfl) [1, 2, 3, 4, 5, 6, 7, 8, 9, 0] (by decide) rfl ?_
        refine inner hact a 0 v (by omega) hv ⟨fun q1 => Or.inl (hi.mp q1), fun q1 => ?_⟩
        rcases q1 with q1 | ⟨p', q1, -⟩
        · exact hi.mpr q1
        · omega
      refine g_iload C (gd DX10_goesOn_0 4 rfl) 7 rfl ?_
      refine g_aload_n C (gd DX10_goesOn_0 5 rfl) 0 rfl rfl ?_
      refine g_iload_n C (gd DX10_goesOn_0 6 rfl) 1 rfl rfl ?_
      refine g_iconst (v := 0) C (gd DX10_goesOn_0 7 rfl) (by decide) ?_
      refine g_cV1 (ci := 10) C [_, _] mX10_at lm_TestJudgeModel_131 (by exact hm.1) rfl rfl (e_atH (k := 0) (x := r) hm (by omega) (by omega) rfl rfl) hfl (by decide) (by decide) (by omega) (by omega) rfl rfl (Nat.le_of_ble_eq_true rfl) (gd DX10_goesOn_0 8 rfl) ?_
      rw [hX, ha]
      refine g_icmp_ge C 147 (gd DX10_goesOn_0 9 rfl) (by decide) (fun c14 => ?_) (fun c14 => ?_)
      · exact absurd c14 (nI_ge (by omega) (by omega))
      · refine g_aload_n C (gd DX10_goesOn_0 10 rfl) 0 rfl rfl ?_
        refine g_iload_n C (gd DX10_goesOn_0 11 rfl) 1 rfl rfl ?_
        refine g_iconst (v := 2) C (gd DX10_goesOn_0 12 rfl) (by decide) ?_
        refine g_iload C (gd DX10_goesOn_0 13 rfl) 7 rfl ?_
        refine g_iadd C (gd DX10_goesOn_0 14 rfl) ?_
        refine g_cV1 (ci := 10) C [_, _] mX10_at lm_TestJudgeModel_131 (by exact hm.1) rfl rfl (e_atH (k := (2 + q)) (x := r) hm (by omega) (by omega) rfl (nx_add rfl rfl)) hfl (by decide) (by decide) (by omega) (by omega) rfl rfl (Nat.le_of_ble_eq_true rfl) (gd DX10_goesOn_0 15 rfl) ?_
        rw [hX]
        refine g_iload C (gd DX10_goesOn_0 16 rfl) 4 rfl ?_
        refine g_icmp_eq C 34 (gd DX10_goesOn_0 17 rfl) (by decide) (fun c28 => ?_) (fun c28 => ?_)
        · refine g_iload C (gd DX10_goesOn_0 19 rfl) 5 rfl ?_
          refine g_if_eq C 60 (gd DX10_goesOn_0 20 rfl) (by decide) (fun c36 => ?_) (fun c36 => ?_)
          · refine g_iconst (v := 0) C (gd DX10_goesOn_0 32 rfl) (by decide) ?_
            exact start c28 0 (Or.inl rfl) ⟨fun q1 => absurd q1 (by decide), fun q1 => absurd c36 q1.1⟩
          · refine g_aload_n C (gd DX10_goesOn_0 21 rfl) 0 rfl rfl ?_
            refine g_iload_n C (gd DX10_goesOn_0 22 rfl) 1 rfl rfl ?_
            refine g_bipush (v := 18) C (gd DX10_goesOn_0 23 rfl) (by decide) ?_
            refine g_iload C (gd DX10_goesOn_0 24 rfl) 7 rfl ?_
            refine g_iadd C (gd DX10_goesOn_0 25 rfl) ?_
            refine g_cV1 (ci := 10) C [_, _] mX10_at lm_TestJudgeModel_131 (by exact hm.1) rfl rfl (e_atH (k := (18 + q)) (x := r) hm (by omega) (by omega) rfl (nx_add rfl rfl)) hfl (by decide) (by decide) (by omega) (by omega) rfl rfl (Nat.le_of_ble_eq_true rfl) (gd DX10_goesOn_0 26 rfl) ?_
            rw [hX]
            refine g_iload_n C (gd DX10_goesOn_0 27 rfl) 3 rfl rfl ?_
            refine g_cS1 C [_, _] mX10_has lm_TestJudgeModel_144 (e_m_has _ _) hfl (by decide) (by decide) (by omega) (by omega) rfl rfl (Nat.le_of_ble_eq_true rfl) (gd DX10_goesOn_0 28 rfl) ?_
            by_cases hc : hasB (X (18 + q)) atom
            · rw [b1_t (show X (18 + q) >>> (atom &&& 31) &&& 1 = 1 from hc)]
              refine g_if_eq C 60 (gd DX10_goesOn_0 29 rfl) (by decide) (fun c53 => ?_) (fun c53 => ?_)
              · exact absurd c53 (by decide)
              · refine g_iconst (v := 1) C (gd DX10_goesOn_0 30 rfl) (by decide) ?_
                refine g_goto (tgt := 61) C (gd DX10_goesOn_0 31 rfl) (by decide) ?_
                exact start c28 1 (Or.inr rfl) ⟨fun _ => ⟨c36, hc⟩, fun _ => rfl⟩
            · rw [b1_f (show ¬ X (18 + q) >>> (atom &&& 31) &&& 1 = 1 from hc)]
              refine g_if_eq C 60 (gd DX10_goesOn_0 29 rfl) (by decide) (fun c53 => ?_) (fun c53 => ?_)
              · refine g_iconst (v := 0) C (gd DX10_goesOn_0 32 rfl) (by decide) ?_
                exact start c28 0 (Or.inl rfl) ⟨fun q1 => absurd q1 (by decide), fun q1 => absurd q1.2 hc⟩
              · exact absurd rfl c53
        · refine g_goto (tgt := 141) C (gd DX10_goesOn_0 18 rfl) (by decide) ?_
          exact step _ (by rw [goF_f (fun z1 => c28 z1.1)]; simp)
  refine g_iconst (v := 0) C (gd DX10_goesOn_0 0 rfl) (by decide) ?_
  refine g_istore (lv' := [(0, _), (1, _), (2, _), (3, _), (4, _), (5, _), (6, _)]) C (gd DX10_goesOn_0 1 rfl) [1, 2, 3, 4, 5, 6, 0] (by decide) rfl ?_
  refine g_iconst (v := 0) C (gd DX10_goesOn_0 2 rfl) (by decide) ?_
  refine g_istore (lv' := [(0, _), (1, _), (2, _), (3, _), (4, _), (5, _), (6, _), (7, _)]) C (gd DX10_goesOn_0 3 rfl) [1, 2, 3, 4, 5, 6, 7, 0] (by decide) rfl ?_
  exact outer a 0 (by omega)
theorem e_m_atoms (hm : mSh m h) : EvF w 0 0 0 yX10_atoms cX10_atoms 1 (some .int) [.ref m] h (some (.int (atF (hI h m 2)))) h := by
  refine g_start (by decide) (Nat.le_of_ble_eq_true rfl) [(0, _)] rfl (fun z hfl C => ?_)
  refine g_iconst (v := 1) C (gd DX10_atoms_0 0 rfl) (by decide) ?_
  refine g_aload_n C (gd DX10_atoms_0 1 rfl) 0 rfl rfl ?_
  refine g_geti (ci := 10) (k := 2) C rfl (by decide) rfl lf_TestJudgeModel_337 hm.1 (gd DX10_atoms_0 2 rfl) ?_
  refine g_ishl C (gd DX10_atoms_0 3 rfl) ?_
  exact g_iret C (by omega) (by omega) ⟨rfl, rfl⟩ (gd DX10_atoms_0 4 rfl)
theorem e_m_allAtoms (hm : mSh m h) : EvF w 1 0 0 yX10_allAtoms cX10_allAtoms 1 (some .int) [.ref m] h (some (.int (allF (hI h m 2)))) h := by
  refine g_start (by decide) (Nat.le_of_ble_eq_true rfl) [(0, _)] rfl (fun z hfl C => ?_)
  refine g_iconst (v := 1) C (gd DX10_allAtoms_0 0 rfl) (by decide) ?_
  refine g_aload_n C (gd DX10_allAtoms_0 1 rfl) 0 rfl rfl ?_
  refine g_cV1 (ci := 10) C [] mX10_atoms lm_TestJudgeModel_352 (by exact hm.1) rfl rfl (e_m_atoms (by exact hm)) hfl (by decide) (by decide) (by omega) (by omega) rfl rfl (Nat.le_of_ble_eq_true rfl) (gd DX10_allAtoms_0 2 rfl) ?_
  refine g_ishl C (gd DX10_allAtoms_0 3 rfl) ?_
  refine g_iconst (v := 1) C (gd DX10_allAtoms_0 4 rfl) (by decide) ?_
  refine g_isub C (gd DX10_allAtoms_0 5 rfl) ?_
  exact g_iret C (by omega) (by omega) ⟨rfl, rfl⟩ (gd DX10_allAtoms_0 6 rfl)
end M7
