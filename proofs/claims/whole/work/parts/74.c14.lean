/-! Search: addWays, goOnAll, countShared -/
theorem wlL_app {A : Nat → Int64} {c : Int64 → Int64} {L M : List (Int64 × Nat)} (hz : ∀ j, L.length ≤ j → j < 3845 → A j = 0) (hl : (L ++ M).length ≤ 3845) : wlL A c (L ++ M) = wlL A c L := by
  rw [List.length_append] at hl
  unfold wlL
  rw [List.length_append, smL_z M.length (fun i h1 h2 => by rw [hz i h1 (by omega)]; simp)]
  refine smL_cg _ fun i hi => ?_
  unfold kyL
  rw [List.getElem?_append_left hi]
theorem kyL_app {L M : List (Int64 × Nat)} {j : Nat} (hj : j < L.length) : kyL (L ++ M) j = kyL L j := by
  unfold kyL
  rw [List.getElem?_append_left hj]
/-- ways of one state's letters before k, weighed -/
noncomputable def gWk (sc : Int64 → Nat → Option Int64) (c : Int64 → Int64) (key : Int64) (k : Nat) : Int64 := smL (fun t => match sc key t with | none => 0 | some k' => c k') k
theorem gWn_s (sc : Int64 → Nat → Option Int64) (c : Int64 → Int64) : ∀ i key, gWn sc (gW sc c) i key = gWn sc c (i + 1) key := by
  intro i
  induction i with
  | zero => intro key; rfl
  | succ i ih =>
    intro key
    show gW sc (gWn sc (gW sc c) i) key = gW sc (gWn sc c (i + 1)) key
    rw [show gWn sc (gW sc c) i = gWn sc c (i + 1) from funext ih]
section C14
variable {w : gD} {s : Nat} {h : HS}
theorem e_s_addWays (hs : sSh s h) {sc : Int64 → Nat → Option Int64} {key : Int64} {L : List (Int64 × Nat)} {A B : Nat → Int64} {F BH NU SI CA : Nat → Int32} (bh : bhI sc key L BH 24) (hl : L.length ≤ 3845) (hz : ∀ j, L.length ≤ j → j < 3845 → B j = 0) (x : Int64) :
    Ev w 0 0 0 yX5_addWays cX5_addWays 5 none [.ref s, .long x] (hS s (hWL s h A B) F BH NU SI CA) (fun r' h' => r' = none ∧ ∃ B', h' = hS s (hWL s h A B') F BH NU SI CA ∧ (∀ c, wlL B' c L = wlL B c L + x * gW sc c key) ∧ ∀ j, L.length ≤ j → j < 3845 → B' j = 0) := by
  refine g_start (by decide) (Nat.le_of_ble_eq_true rfl) [(0, _), (1, _)] rfl (fun z hfl C => ?_)
  have loop : ∀ y k B', k + y = 24 → (∀ c, wlL B' c L = wlL B c L + x * gWk sc c key k) → (∀ j, L.length ≤ j → j < 3845 → B' j = 0) → GW z w 5 (gQ z w 0 0 (fun r' h'' => r' = none ∧ ∃ B', h'' = hS s (hWL s h A B') F BH NU SI CA ∧ (∀ c, wlL B' c L = wlL B c L + x * gW sc c key) ∧ ∀ j, L.length ≤ j → j < 3845 → B' j = 0)) 0 0 2 [(0, .ref s), (1, .long x), (3, .int (nI k))] [] (hS s (hWL s h A B') F BH NU SI CA) := by
    intro y
    induction y with
    | zero =>
      intro k B' hk hB hz'
      have e : k = 24 := by omega
      subst e
      refine g_iload_n C (gd DX5_addWays_0 2 rfl) 2 rfl rfl ?_
      refine g_bipush (v := 24) C (gd DX5_addWays_0 3 rfl) (by decide) ?_
      refine g_icmp_ge C 46 (gd DX5_addWays_0 4 rfl) (by decide) (fun c5 => ?_) (fun c5 => ?_)
      · exact g_vret C (by omega) (by omega) ⟨rfl, B', rfl, hB, hz'⟩ (gd DX5_addWays_0 25 rfl)
      · exact absurd (nI_le (a := 24) (b := 24) (by omega) (by omega)) c5
    | succ y ih =>
      intro k B' hk hB hz'
      have nx : ∀ v B2, (∀ c, wlL B2 c L = wlL B c L + x * gWk sc c key (k + 1)) → (∀ j, L.length ≤ j → j < 3845 → B2 j = 0) → GW z w 5 (gQ z w 0 0 (fun r' h'' => r' = none ∧ ∃ B', h'' = hS s (hWL s h A B') F BH NU SI CA ∧ (∀ c, wlL B' c L = wlL B c L + x * gW sc c key) ∧ ∀ j, L.length ≤ j → j < 3845 → B' j = 0)) 0 0 40 [(0, .ref s), (1, .long x), (3, .int (nI k)), (4, .int v)] [] (hS s (hWL s h A B2) F BH NU SI CA) := by
        intro v B2 g1 g2
        refine g_iinc (lv' := [(0, _), (1, _), (3, _), (4, _)]) C (gd DX5_addWays_0 23 rfl) 2 [1, 2, 0, 3] rfl rfl (by decide) rfl ?_
        refine g_goto (tgt := 2) C (gd DX5_addWays_0 24 rfl) (by decide) ?_
        refine GW.sub [0, 1, 2] rfl (Nat.le_refl _) (Nat.le_refl _) (lv' := [(0, _), (1, _), (3, _)]) ?_
        exact GW.cast (by rw [inc1]) rfl rfl (ih (k + 1) B2 (by omega) g1 g2)
      refine g_iload_n C (gd DX5_addWays_0 2 rfl) 2 rfl rfl ?_
      refine g_bipush (v := 24) C (gd DX5_addWays_0 3 rfl) (by decide) ?_
      refine g_icmp_ge C 46 (gd DX5_addWays_0 4 rfl) (by decide) (fun c5 => ?_) (fun c5 => ?_)
      · exact absurd c5 (nI_ge (a := k) (b := 24) (by omega) (by omega))
      · refine g_aload_n C (gd DX5_addWays_0 5 rfl) 0 rfl rfl ?_
        refine g_getr (ci := 5) (k := 2) C rfl (by decide) rfl lf_TestJudge_Search_20 hs.1 hs.2.1.1 (gd DX5_addWays_0 6 rfl) ?_
        refine g_iload_n C (gd DX5_addWays_0 7 rfl) 2 rfl rfl ?_
        refine g_iaj (j := k) C hs.2.1.2.1 hs.2.1.2.2 (by first | decide | omega) rfl (by omega) (gd DX5_addWays_0 8 rfl) ?_
        rw [hS_1]
        rcases (bh k (by omega)).2 (by omega) with ⟨h1, h2⟩ | ⟨k', j, v, h1, h2, h3⟩
        · rw [h2]
          refine g_istore (lv' := [(0, _), (1, _), (3, _), (4, _)]) C (gd DX5_addWays_0 9 rfl) [1, 2, 3, 0] (by decide) rfl ?_
          refine g_iload C (gd DX5_addWays_0 10 rfl) 3 rfl ?_
          refine g_if_lt C 40 (gd DX5_addWays_0 11 rfl) (by decide) (fun c18 => ?_) (fun c18 => ?_)
          · refine nx _ B' (fun c => ?_) hz'
            rw [hB c, gWk, gWk, smL, h1]
            simp
          · exact absurd (by decide) c18
        · have hjl := (List.getElem?_eq_some_iff.mp h2).1
          rw [h3]
          refine g_istore (lv' := [(0, _), (1, _), (3, _), (4, _)]) C (gd DX5_addWays_0 9 rfl) [1, 2, 3, 0] (by decide) rfl ?_
          refine g_iload C (gd DX5_addWays_0 10 rfl) 3 rfl ?_
          refine g_if_lt C 40 (gd DX5_addWays_0 11 rfl) (by decide) (fun c18 => ?_) (fun c18 => ?_)
          · exact absurd c18 (nI_nn (by omega))
          · refine g_iload C (gd DX5_addWays_0 12 rfl) 3 rfl ?_
            refine g_sipush (v := 3845) C (gd DX5_addWays_0 13 rfl) (by decide) ?_
            refine g_icmp_ge C 40 (gd DX5_addWays_0 14 rfl) (by decide) (fun c26 => ?_) (fun c26 => ?_)
            · exact absurd c26 (nI_ge (a := j) (b := 3845) (by omega) (by omega))
            · refine g_aload_n C (gd DX5_addWays_0 15 rfl) 0 rfl rfl ?_
              refine g_getr (ci := 5) (k := 19) C rfl (by decide) rfl lf_TestJudge_Search_75 hs.1 hs.2.2.2.2.2.2.2.2.2.1 (gd DX5_addWays_0 16 rfl) ?_
              refine g_iload C (gd DX5_addWays_0 17 rfl) 3 rfl ?_
              refine g_dup2 C (gd DX5_addWays_0 18 rfl) rfl rfl ?_
              refine g_laj (j := j) C hs.2.2.2.2.2.2.2.2.2.2.1 hs.2.2.2.2.2.2.2.2.2.2.2 (by first | decide | omega) rfl (by omega) (gd DX5_addWays_0 19 rfl) ?_
              rw [show hL (hS s (hWL s h A B') F BH NU SI CA) (s + 18) j = B' j from congrFun (hWL_18 (h := h)) j]
              refine g_lload_n C (gd DX5_addWays_0 20 rfl) 1 rfl rfl ?_
              refine g_ladd C (gd DX5_addWays_0 21 rfl) ?_
              refine g_lsj (j := j) C hs.2.2.2.2.2.2.2.2.2.2.1 hs.2.2.2.2.2.2.2.2.2.2.2 (by first | decide | omega) rfl (by omega) (gd DX5_addWays_0 22 rfl) ?_
              rw [hS_l18]
              refine nx _ _ (fun c => ?_) (fun i hi hi2 => by rw [vp_updL, if_neg (by omega)]; exact hz' i hi hi2)
              unfold wlL
              rw [smL_upd (fun i => c (kyL L i)) (c := c k') (by show c (kyL L j) = _; rw [kyL_at h2]) L.length, if_pos hjl]
              have := hB c
              unfold wlL at this
              rw [this, gWk, gWk, smL, h1, Int64.mul_add, Int64.add_assoc]
  refine g_iconst (v := 0) C (gd DX5_addWays_0 0 rfl) (by decide) ?_
  refine g_istore_n (lv' := [(0, _), (1, _), (3, _)]) C (gd DX5_addWays_0 1 rfl) [1, 2, 0] rfl (by decide) rfl ?_
  exact loop 24 0 B rfl (fun c => by rw [gWk, smL]; simp) hz
/-- while a length more is gone: the list, the ways so far, later ones -/
def goA (P : kP) (L0 : List (Int64 × Nat)) (A : Nat → Int64) (i : Nat) (L : List (Int64 × Nat)) (B : Nat → Int64) : Prop := (∃ M, L = L0 ++ M) ∧ kOk P L ∧ (∀ (j : Nat) (q : Int64 × Nat), L[j]? = some q → kWs P q.1) ∧ (∀ j, L.length ≤ j → j < 3845 → B j = 0) ∧ ∀ c, wlL B c L = smL (fun j => A j * gW (kSg P 1) c (kyL L0 j)) i
theorem e_s_goOnAll (hs : sSh s h) {P : kP} (rd : sRd P s h) (h5 : P.2.2.2.2.2.1 ≤ 5 ∧ P.2.2.2.2.2.2.1 ≤ 5) {nt na : Nat} {L : List (Int64 × Nat)} (ok : kOk P L) (hw : ∀ (j : Nat) (q : Int64 × Nat), L[j]? = some q → kWs P q.1) {A : Nat → Int64} {F BH NU SI CA : Nat → Int32} (fl : sFl P nt na F) (q : sQ L F NU SI CA) {B : Nat → Int64} (hB : ∀ j, j < 3845 → B j = 0) :
    Ev w 4 0 0 yX5_goOnAll cX5_goOnAll 3 none [.ref s] (hS s (hWL s h A B) F BH NU SI CA) (fun r' h' => r' = none ∧ ∃ L' A' B' F' BH' NU' SI' CA', h' = hS s (hWL s h A' B') F' BH' NU' SI' CA' ∧ kOk P L' ∧ (∀ (j : Nat) (q : Int64 × Nat), L'[j]? = some q → kWs P q.1) ∧ sFl P nt na F' ∧ sQ L' F' NU' SI' CA' ∧ (∀ j, j < 3845 → B' j = 0) ∧ ∀ c, wlL A' c L' = wlL A (gW (kSg P 1) c) L) := by
  refine g_start (by decide) (Nat.le_of_ble_eq_true rfl) [(0, _)] rfl (fun z hfl C => ?_)
  have l0 := kWs_len rd.1 h5 ok hw
  have second : ∀ L' B0 F' BH' NU' SI' CA', kOk P L' → (∀ (j : Nat) (q : Int64 × Nat), L'[j]? = some q → kWs P q.1) → sFl P nt na F' → sQ L' F' NU' SI' CA' → (∀ j, L'.length ≤ j → j < 3845 → B0 j = 0) → (∀ c, wlL B0 c L' = wlL A (gW (kSg P 1) c) L) → ∀ y i A' B', i + y = L'.length → (∀ j, j < i → A' j = B0 j ∧ B' j = 0) → (∀ j, i ≤ j → B' j = B0 j) → ∀ v, GW z w 3 (gQ z w 0 0 (fun r' h'' => r' = none ∧ ∃ L' A' B' F' BH' NU' SI' CA', h'' = hS s (hWL s h A' B') F' BH' NU' SI' CA' ∧ kOk P L' ∧ (∀ (j : Nat) (q : Int64 × Nat), L'[j]? = some q → kWs P q.1) ∧ sFl P nt na F' ∧ sQ L' F' NU' SI' CA' ∧ (∀ j, j < 3845 → B' j = 0) ∧ ∀ c, wlL A' c L' = wlL A (gW (kSg P 1) c) L)) 0 0 59 [(0, .ref s), (1, .int v), (2, .int (nI i))] [] (hS s (hWL s h A' B') F' BH' NU' SI' CA') := by
    intro L' B0 F' BH' NU' SI' CA' ok' hw' fl' q' hz' hc' y
    have l1 := kWs_len rd.1 h5 ok' hw'
    have out : ∀ A' B' v i, i = L'.length → (∀ j, j < i → A' j = B0 j ∧ B' j = 0) → (∀ j, i ≤ j → B' j = B0 j) → GW z w 3 (gQ z w 0 0 (fun r' h'' => r' = none ∧ ∃ L' A' B' F' BH' NU' SI' CA', h'' = hS s (hWL s h A' B') F' BH' NU' SI' CA' ∧ kOk P L' ∧ (∀ (j : Nat) (q : Int64 × Nat), L'[j]? = some q → kWs P q.1) ∧ sFl P nt na F' ∧ sQ L' F' NU' SI' CA' ∧ (∀ j, j < 3845 → B' j = 0) ∧ ∀ c, wlL A' c L' = wlL A (gW (kSg P 1) c) L)) 0 0 99 [(0, .ref s), (1, .int v), (2, .int (nI i))] [] (hS s (hWL s h A' B') F' BH' NU' SI' CA') := by
      intro A' B' v i ei hA hB2
      refine g_vret C (by omega) (by omega) ⟨rfl, L', A', B', F', BH', NU', SI', CA', rfl, ok', hw', fl', q', fun j hj => ?_, fun c => ?_⟩ (gd DX5_goOnAll_0 57 rfl)
      · by_cases e : j < i
        · exact (hA j e).2
        · rw [hB2 j (by omega)]; exact hz' j (by omega) hj
      · rw [← hc' c]
        unfold wlL
        exact smL_cg _ fun j hj => by rw [(hA j (by omega)).1]
    induction y with
    | zero =>
      intro i A' B' hi hA hB2 v
      refine g_iload_n C (gd DX5_goOnAll_0 35 rfl) 2 rfl rfl ?_
      refine g_sipush (v := 3845) C (gd DX5_goOnAll_0 36 rfl) (by decide) ?_
      refine g_icmp_ge C 99 (gd DX5_goOnAll_0 37 rfl) (by decide) (fun c63 => ?_) (fun c63 => ?_)
      · exact out A' B' v i (by omega) hA hB2
      · refine g_iload_n C (gd DX5_goOnAll_0 38 rfl) 2 rfl rfl ?_
        refine g_aload_n C (gd DX5_goOnAll_0 39 rfl) 0 rfl rfl ?_
        refine g_geti (ci := 5) (k := 0) C rfl (by decide) rfl lf_TestJudge_Search_13 hs.1 (gd DX5_goOnAll_0 40 rfl) ?_
        rw [hS_0, q'.1]
        refine g_icmp_ge C 99 (gd DX5_goOnAll_0 41 rfl) (by decide) (fun c71 => ?_) (fun c71 => ?_)
        · exact out A' B' v i (by omega) hA hB2
        · exact absurd (nI_le (by omega) (by omega)) c71
    | succ y ih =>
      intro i A' B' hi hA hB2 v
      refine g_iload_n C (gd DX5_goOnAll_0 35 rfl) 2 rfl rfl ?_
      refine g_sipush (v := 3845) C (gd DX5_goOnAll_0 36 rfl) (by decide) ?_
      refine g_icmp_ge C 99 (gd DX5_goOnAll_0 37 rfl) (by decide) (fun c63 => ?_) (fun c63 => ?_)
      · exact absurd c63 (nI_ge (a := i) (b := 3845) (by omega) (by omega))
      · refine g_iload_n C (gd DX5_goOnAll_0 38 rfl) 2 rfl rfl ?_
        refine g_aload_n C (gd DX5_goOnAll_0 39 rfl) 0 rfl rfl ?_
        refine g_geti (ci := 5) (k := 0) C rfl (by decide) rfl lf_TestJudge_Search_13 hs.1 (gd DX5_goOnAll_0 40 rfl) ?_
        rw [hS_0, q'.1]
        refine g_icmp_ge C 99 (gd DX5_goOnAll_0 41 rfl) (by decide) (fun c71 => ?_) (fun c71 => ?_)
        · exact absurd c71 (nI_ge (by omega) (by omega))
        · refine g_aload_n C (gd DX5_goOnAll_0 42 rfl) 0 rfl rfl ?_
          refine g_getr (ci := 5) (k := 18) C rfl (by decide) rfl lf_TestJudge_Search_71 hs.1 hs.2.2.2.2.2.2.2.2.1.1 (gd DX5_goOnAll_0 43 rfl) ?_
          refine g_iload_n C (gd DX5_goOnAll_0 44 rfl) 2 rfl rfl ?_
          refine g_aload_n C (gd DX5_goOnAll_0 45 rfl) 0 rfl rfl ?_
          refine g_getr (ci := 5) (k := 19) C rfl (by decide) rfl lf_TestJudge_Search_75 hs.1 hs.2.2.2.2.2.2.2.2.2.1 (gd DX5_goOnAll_0 46 rfl) ?_
          refine g_iload_n C (gd DX5_goOnAll_0 47 rfl) 2 rfl rfl ?_
          refine g_laj (j := i) C hs.2.2.2.2.2.2.2.2.2.2.1 hs.2.2.2.2.2.2.2.2.2.2.2 (by first | decide | omega) rfl (by omega) (gd DX5_goOnAll_0 48 rfl) ?_
          rw [show hL (hS s (hWL s h A' B') F' BH' NU' SI' CA') (s + 18) i = B' i from congrFun (hWL_18 (h := h)) i]
          refine g_lsj (j := i) C hs.2.2.2.2.2.2.2.2.1.2.1 hs.2.2.2.2.2.2.2.2.1.2.2 (by first | decide | omega) rfl (by omega) (gd DX5_goOnAll_0 49 rfl) ?_
          rw [hS_l17]
          refine g_aload_n C (gd DX5_goOnAll_0 50 rfl) 0 rfl rfl ?_
          refine g_getr (ci := 5) (k := 19) C rfl (by decide) rfl lf_TestJudge_Search_75 hs.1 hs.2.2.2.2.2.2.2.2.2.1 (gd DX5_goOnAll_0 51 rfl) ?_
          refine g_iload_n C (gd DX5_goOnAll_0 52 rfl) 2 rfl rfl ?_
          refine g_lconst (v := 0) C (gd DX5_goOnAll_0 53 rfl) (by decide) ?_
          refine g_lsj (j := i) C hs.2.2.2.2.2.2.2.2.2.2.1 hs.2.2.2.2.2.2.2.2.2.2.2 (by first | decide | omega) rfl (by omega) (gd DX5_goOnAll_0 54 rfl) ?_
          rw [hS_l18]
          refine g_iinc (lv' := [(0, _), (1, _), (2, _)]) C (gd DX5_goOnAll_0 55 rfl) 2 [1, 2, 0] rfl rfl (by decide) rfl ?_
          refine g_goto (tgt := 59) C (gd DX5_goOnAll_0 56 rfl) (by decide) ?_
          refine GW.cast (by rw [inc1]) rfl rfl (ih (i + 1) _ _ (by omega) (fun j hj => ?_) (fun j hj => ?_) v)
          · unfold vp_updL
            by_cases e : j = i
            · subst e; rw [if_pos rfl, if_pos rfl]; exact ⟨hB2 j (by omega), rfl⟩
            · rw [if_neg e, if_neg e]; exact hA j (by omega)
          · rw [vp_updL, if_neg (by omega)]; exact hB2 j (by omega)
  have mid : ∀ L' B' F' BH' NU' SI' CA' v2, goA P L A L.length L' B' → sFl P nt na F' → sQ L' F' NU' SI' CA' → GW z w 3 (gQ z w 0 0 (fun r' h'' => r' = none ∧ ∃ L' A' B' F' BH' NU' SI' CA', h'' = hS s (hWL s h A' B') F' BH' NU' SI' CA' ∧ kOk P L' ∧ (∀ (j : Nat) (q : Int64 × Nat), L'[j]? = some q → kWs P q.1) ∧ sFl P nt na F' ∧ sQ L' F' NU' SI' CA' ∧ (∀ j, j < 3845 → B' j = 0) ∧ ∀ c, wlL A' c L' = wlL A (gW (kSg P 1) c) L)) 0 0 57 [(0, .ref s), (1, .int (nI L.length)), (2, .int v2)] [] (hS s (hWL s h A B') F' BH' NU' SI' CA') := by
    intro L' B' F' BH' NU' SI' CA' v2 g fl' q'
    refine g_iconst (v := 0) C (gd DX5_goOnAll_0 33 rfl) (by decide) ?_
    refine g_istore_n (lv' := [(0, _), (1, _), (2, _)]) C (gd DX5_goOnAll_0 34 rfl) [1, 2, 0] rfl (by decide) rfl ?_
    exact second L' B' F' BH' NU' SI' CA' g.2.1 g.2.2.1 fl' q' (fun j hj hj2 => g.2.2.2.1 j hj hj2) g.2.2.2.2 L'.length 0 A B' (by omega) (fun j hj => by omega) (fun _ _ => rfl) _
  have first : ∀ y i L' B' F' BH' NU' SI' CA', i + y = L.length → goA P L A i L' B' → sFl P nt na F' → sQ L' F' NU' SI' CA' → GW z w 3 (gQ z w 0 0 (fun r' h'' => r' = none ∧ ∃ L' A' B' F' BH' NU' SI' CA', h'' = hS s (hWL s h A' B') F' BH' NU' SI' CA' ∧ kOk P L' ∧ (∀ (j : Nat) (q : Int64 × Nat), L'[j]? = some q → kWs P q.1) ∧ sFl P nt na F' ∧ sQ L' F' NU' SI' CA' ∧ (∀ j, j < 3845 → B' j = 0) ∧ ∀ c, wlL A' c L' = wlL A (gW (kSg P 1) c) L)) 0 0 7 [(0, .ref s), (1, .int (nI L.length)), (2, .int (nI i))] [] (hS s (hWL s h A B') F' BH' NU' SI' CA') := by
    intro y
    induction y with
    | zero =>
      intro i L' B' F' BH' NU' SI' CA' hi g fl' q'
      have e : i = L.length := by omega
      rw [e] at g
      refine g_iload_n C (gd DX5_goOnAll_0 5 rfl) 2 rfl rfl ?_
      refine g_sipush (v := 3845) C (gd DX5_goOnAll_0 6 rfl) (by decide) ?_
      refine g_icmp_ge C 57 (gd DX5_goOnAll_0 7 rfl) (by decide) (fun c11 => ?_) (fun c11 => ?_)
      · exact mid L' B' F' BH' NU' SI' CA' _ g fl' q'
      · refine g_iload_n C (gd DX5_goOnAll_0 8 rfl) 2 rfl rfl ?_
        refine g_iload_n C (gd DX5_goOnAll_0 9 rfl) 1 rfl rfl ?_
        refine g_icmp_ge C 57 (gd DX5_goOnAll_0 10 rfl) (by decide) (fun c16 => ?_) (fun c16 => ?_)
        · exact mid L' B' F' BH' NU' SI' CA' _ g fl' q'
        · exact absurd (nI_le (by omega) (by omega)) c16
    | succ y ih =>
      intro i L' B' F' BH' NU' SI' CA' hi g fl' q'
      obtain ⟨⟨M, hM⟩, ok', hw', hz', hc'⟩ := g
      have l1 := kWs_len rd.1 h5 ok' hw'
      have hil : i < L.length := by omega
      obtain ⟨⟨key, v⟩, hkv⟩ : ∃ p, L[i]? = some p := ⟨_, List.getElem?_eq_getElem hil⟩
      have hkv' : L'[i]? = some (key, v) := by rw [hM, List.getElem?_append_left hil]; exact hkv
      have nx : ∀ L2 B2 F2 BH2 NU2 SI2 CA2, goA P L A (i + 1) L2 B2 → sFl P nt na F2 → sQ L2 F2 NU2 SI2 CA2 → GW z w 3 (gQ z w 0 0 (fun r' h'' => r' = none ∧ ∃ L' A' B' F' BH' NU' SI' CA', h'' = hS s (hWL s h A' B') F' BH' NU' SI' CA' ∧ kOk P L' ∧ (∀ (j : Nat) (q : Int64 × Nat), L'[j]? = some q → kWs P q.1) ∧ sFl P nt na F' ∧ sQ L' F' NU' SI' CA' ∧ (∀ j, j < 3845 → B' j = 0) ∧ ∀ c, wlL A' c L' = wlL A (gW (kSg P 1) c) L)) 0 0 51 [(0, .ref s), (1, .int (nI L.length)), (2, .int (nI i))] [] (hS s (hWL s h A B2) F2 BH2 NU2 SI2 CA2) := by
        intro L2 B2 F2 BH2 NU2 SI2 CA2 g1 g2 g3
        refine g_iinc (lv' := [(0, _), (1, _), (2, _)]) C (gd DX5_goOnAll_0 31 rfl) 2 [1, 2, 0] rfl rfl (by decide) rfl ?_
        refine g_goto (tgt := 7) C (gd DX5_goOnAll_0 32 rfl) (by decide) ?_
        exact GW.cast (by rw [inc1]) rfl rfl (ih (i + 1) L2 B2 F2 BH2 NU2 SI2 CA2 (by omega) g1 g2 g3)
      refine g_iload_n C (gd DX5_goOnAll_0 5 rfl) 2 rfl rfl ?_
      refine g_sipush (v := 3845) C (gd DX5_goOnAll_0 6 rfl) (by decide) ?_
      refine g_icmp_ge C 57 (gd DX5_goOnAll_0 7 rfl) (by decide) (fun c11 => ?_) (fun c11 => ?_)
      · exact absurd c11 (nI_ge (a := i) (b := 3845) (by omega) (by omega))
      · refine g_iload_n C (gd DX5_goOnAll_0 8 rfl) 2 rfl rfl ?_
        refine g_iload_n C (gd DX5_goOnAll_0 9 rfl) 1 rfl rfl ?_
        refine g_icmp_ge C 57 (gd DX5_goOnAll_0 10 rfl) (by decide) (fun c16 => ?_) (fun c16 => ?_)
        · exact absurd c16 (nI_ge (by omega) (by omega))
        · refine g_aload_n C (gd DX5_goOnAll_0 11 rfl) 0 rfl rfl ?_
          refine g_getr (ci := 5) (k := 18) C rfl (by decide) rfl lf_TestJudge_Search_71 hs.1 hs.2.2.2.2.2.2.2.2.1.1 (gd DX5_goOnAll_0 12 rfl) ?_
          refine g_iload_n C (gd DX5_goOnAll_0 13 rfl) 2 rfl rfl ?_
          refine g_laj (j := i) C hs.2.2.2.2.2.2.2.2.1.2.1 hs.2.2.2.2.2.2.2.2.1.2.2 (by first | decide | omega) rfl (by omega) (gd DX5_goOnAll_0 14 rfl) ?_
          rw [show hL (hS s (hWL s h A B') F' BH' NU' SI' CA') (s + 17) i = A i from congrFun (hWL_17 (h := h)) i]
          refine g_lconst (v := 0) C (gd DX5_goOnAll_0 15 rfl) (by decide) ?_
          refine g_lcmp C (gd DX5_goOnAll_0 16 rfl) ?_
          refine g_if_eq C 51 (gd DX5_goOnAll_0 17 rfl) (by decide) (fun c27 => ?_) (fun c27 => ?_)
          · have hA0 : A i = 0 := lcmp_eq.mp c27
            refine nx L' B' F' BH' NU' SI' CA' ⟨⟨M, hM⟩, ok', hw', hz', fun c => ?_⟩ fl' q'
            rw [hc' c, smL, hA0]
            simp
          · have q2 : sQ L' (lkS P key F') NU' SI' CA' := ⟨q'.1, q'.2⟩
            have fl2 : sFl P nt na (lkS P key F') := ⟨fl'.1, fl'.2.1, fl'.2.2.1, fl'.2.2.2.1, fl'.2.2.2.2.1, fl'.2.2.2.2.2⟩
            have hkw : kW P key := ok'.1 i _ hkv'
            refine g_aload_n C (gd DX5_goOnAll_0 18 rfl) 0 rfl rfl ?_
            refine g_iload_n C (gd DX5_goOnAll_0 19 rfl) 2 rfl rfl ?_
            refine g_cV0 (v := .null) (ci := 5) C [_] mX5_look lm_TestJudge_Search_121 (by exact hs.1) rfl rfl (e_s_look (h := hWL s h A B') (by exact hs) (by exact rd) ok' fl' q' hkv' (by omega)) hfl (by decide) (by decide) (by omega) (by omega) rfl rfl (Nat.le_of_ble_eq_true rfl) (gd DX5_goOnAll_0 20 rfl) ?_
            refine g_aload_n C (gd DX5_goOnAll_0 21 rfl) 0 rfl rfl ?_
            refine g_iload_n C (gd DX5_goOnAll_0 22 rfl) 2 rfl rfl ?_
            refine g_iconst (v := 1) C (gd DX5_goOnAll_0 23 rfl) (by decide) ?_
            refine g_callV (ci := 5) C [_, _] mX5_goOn lm_TestJudge_Search_130 (by exact hs.1) rfl rfl (e_s_goOn (h := hWL s h A B') (F := lkS P key F') (key := key) (b := 1) (i := i) (by exact hs) (by exact rd) ok' fl2 hkw rfl rfl rfl rfl (Or.inr rfl) q2) hfl (by decide) (by decide) (by omega) (by omega) rfl rfl (Nat.le_of_ble_eq_true rfl) (gd DX5_goOnAll_0 24 rfl) (fun r h2 hp => ?_)
            obtain ⟨rfl, F2, BH2, NU2, SI2, CA2, rfl, g1, g2, g3⟩ := hp
            obtain ⟨w1, M2, w2⟩ := gst_wf rd.1 (key := key) (i := i) ok' hw' 24 (by omega)
            have ok2 := gst_ok (i := i) ok' (fun t k2 _ hk2 => kSg_W (b := 1) (key := key) rd.1 hk2) 24 (by omega)
            have l2 := kWs_len rd.1 h5 ok2 w1
            show GW z w 3 _ 0 0 _ _ [] _
            refine g_aload_n C (gd DX5_goOnAll_0 25 rfl) 0 rfl rfl ?_
            refine g_aload_n C (gd DX5_goOnAll_0 26 rfl) 0 rfl rfl ?_
            refine g_getr (ci := 5) (k := 18) C rfl (by decide) rfl lf_TestJudge_Search_71 hs.1 hs.2.2.2.2.2.2.2.2.1.1 (gd DX5_goOnAll_0 27 rfl) ?_
            refine g_iload_n C (gd DX5_goOnAll_0 28 rfl) 2 rfl rfl ?_
            refine g_laj (j := i) C hs.2.2.2.2.2.2.2.2.1.2.1 hs.2.2.2.2.2.2.2.2.1.2.2 (by first | decide | omega) rfl (by omega) (gd DX5_goOnAll_0 29 rfl) ?_
            rw [show hL (hS s (hWL s h A B') F2 BH2 NU2 SI2 CA2) (s + 17) i = A i from congrFun (hWL_17 (h := h)) i]
            refine g_callV (ci := 5) C [.long _] mX5_addWays lm_TestJudge_Search_143 (by exact hs.1) rfl rfl (e_s_addWays hs g2 l2 (fun j hj hj2 => hz' j (by rw [w2, List.length_append] at hj; omega) hj2) _) hfl (by decide) (by decide) (by omega) (by omega) rfl rfl (Nat.le_of_ble_eq_true rfl) (gd DX5_goOnAll_0 30 rfl) (fun r h2 hp => ?_)
            obtain ⟨rfl, B2, rfl, b1, b2⟩ := hp
            show GW z w 3 _ 0 0 _ _ [] _
            refine nx _ B2 F2 BH2 NU2 SI2 CA2 ⟨⟨M ++ M2, by rw [w2, hM, List.append_assoc]⟩, ok2, w1, b2, fun c => ?_⟩ ⟨fl'.1, fl'.2.1, fl'.2.2.1, fl'.2.2.2.1, (g3 7 (by omega)).trans fl2.2.2.2.2.1, (g3 8 (by omega)).trans fl2.2.2.2.2.2⟩ g1
            rw [b1 c]
            have e1 : wlL B' c (gst (kSg P 1) key i L' 24) = wlL B' c L' := by rw [w2]; exact wlL_app hz' (by rw [← w2]; exact l2)
            rw [e1, hc' c, smL, kyL_at hkv]
  refine g_aload_n C (gd DX5_goOnAll_0 0 rfl) 0 rfl rfl ?_
  refine g_geti (ci := 5) (k := 0) C rfl (by decide) rfl lf_TestJudge_Search_13 hs.1 (gd DX5_goOnAll_0 1 rfl) ?_
  rw [hS_0, q.1]
  refine g_istore_n (lv' := [(0, _), (1, _)]) C (gd DX5_goOnAll_0 2 rfl) [1, 0] rfl (by decide) rfl ?_
  refine g_iconst (v := 0) C (gd DX5_goOnAll_0 3 rfl) (by decide) ?_
  refine g_istore_n (lv' := [(0, _), (1, _), (2, _)]) C (gd DX5_goOnAll_0 4 rfl) [1, 2, 0] rfl (by decide) rfl ?_
  exact first L.length 0 L B F BH NU SI CA (by omega) ⟨⟨[], by simp⟩, ok, hw, fun j _ hj => hB j hj, fun c => by rw [smL, ← smL_0 L.length]; exact smL_cg _ fun j hj => by rw [hB j (by omega)]; simp⟩ fl q
/-- how many strings of a length both have, from a key on -/
noncomputable def cE (P : kP) (key : Int64) : Int64 := (bitN (kE1 P key &&& kE2 P key)).toInt64
theorem e_s_countShared (hs : sSh s h) {P : kP} (rd : sRd P s h) (h5 : P.2.2.2.2.2.1 ≤ 5 ∧ P.2.2.2.2.2.2.1 ≤ 5) {nt na n : Nat} {A : Nat → Int64} {F BH NU SI CA : Nat → Int32} (fl : sFl P nt na F) (q : sQ [(BEG, 0)] F NU SI CA) {B : Nat → Int64} (hB : ∀ j, j < 3845 → B j = 0) (hn : n < 100000) :
    Ev w 5 0 0 yX5_countShared cX5_countShared 5 (some .long) [.ref s, .int (nI n)] (hS s (hWL s h A B) F BH NU SI CA) (fun r' h' => r' = some (.long (gWn (kSg P 1) (cE P) n BEG)) ∧ ∃ L' A' B' F' BH' NU' SI' CA', h' = hS s (hWL s h A' B') F' BH' NU' SI' CA' ∧ kOk P L' ∧ sQ L' F' NU' SI' CA' ∧ ∀ j, j < 3845 → B' j = 0) := by
  refine g_start (by decide) (Nat.le_of_ble_eq_true rfl) [(0, _), (1, _)] rfl (fun z hfl C => ?_)
  have last : ∀ L' A' B', kOk P L' → (∀ (j : Nat) (q : Int64 × Nat), L'[j]? = some q → kWs P q.1) → (∀ j, j < 3845 → B' j = 0) → wlL A' (cE P) L' = gWn (kSg P 1) (cE P) n BEG → ∀ y i F' BH' NU' SI' CA', i + y = L'.length → sFl P nt na F' → sQ L' F' NU' SI' CA' → GW z w 5 (gQ z w 0 0 (fun r' h'' => r' = some (.long (gWn (kSg P 1) (cE P) n BEG)) ∧ ∃ L' A' B' F' BH' NU' SI' CA', h'' = hS s (hWL s h A' B') F' BH' NU' SI' CA' ∧ kOk P L' ∧ sQ L' F' NU' SI' CA' ∧ ∀ j, j < 3845 → B' j = 0)) 0 0 29 [(0, .ref s), (1, .int (nI n)), (2, .long (smL (fun j => A' j * cE P (kyL L' j)) i)), (4, .int (nI i))] [] (hS s (hWL s h A' B') F' BH' NU' SI' CA') := by
    intro L' A' B' ok' hw' hB' hc' y
    have l1 := kWs_len rd.1 h5 ok' hw'
    induction y with
    | zero =>
      intro i F' BH' NU' SI' CA' hi fl' q'
      have e : i = L'.length := by omega
      have out : GW z w 5 (gQ z w 0 0 (fun r' h'' => r' = some (.long (gWn (kSg P 1) (cE P) n BEG)) ∧ ∃ L' A' B' F' BH' NU' SI' CA', h'' = hS s (hWL s h A' B') F' BH' NU' SI' CA' ∧ kOk P L' ∧ sQ L' F' NU' SI' CA' ∧ ∀ j, j < 3845 → B' j = 0)) 0 0 82 [(0, .ref s), (1, .int (nI n)), (2, .long (smL (fun j => A' j * cE P (kyL L' j)) i)), (4, .int (nI i))] [] (hS s (hWL s h A' B') F' BH' NU' SI' CA') := by
        refine g_lload_n C (gd DX5_countShared_0 45 rfl) 2 rfl rfl ?_
        exact g_lret C (by omega) (by omega) ⟨by rw [← hc', e]; rfl, L', A', B', F', BH', NU', SI', CA', rfl, ok', q', hB'⟩ (gd DX5_countShared_0 46 rfl)
      refine g_iload C (gd DX5_countShared_0 18 rfl) 3 rfl ?_
      refine g_sipush (v := 3845) C (gd DX5_countShared_0 19 rfl) (by decide) ?_
      refine g_icmp_ge C 82 (gd DX5_countShared_0 20 rfl) (by decide) (fun c34 => ?_) (fun c34 => ?_)
      · exact out
      · refine g_iload C (gd DX5_countShared_0 21 rfl) 3 rfl ?_
        refine g_aload_n C (gd DX5_countShared_0 22 rfl) 0 rfl rfl ?_
        refine g_geti (ci := 5) (k := 0) C rfl (by decide) rfl lf_TestJudge_Search_13 hs.1 (gd DX5_countShared_0 23 rfl) ?_
        rw [hS_0, q'.1]
        refine g_icmp_ge C 82 (gd DX5_countShared_0 24 rfl) (by decide) (fun c43 => ?_) (fun c43 => ?_)
        · exact out
        · exact absurd (nI_le (by omega) (by omega)) c43
    | succ y ih =>
      intro i F' BH' NU' SI' CA' hi fl' q'
      obtain ⟨⟨key, v⟩, hkv⟩ : ∃ p, L'[i]? = some p := ⟨_, List.getElem?_eq_getElem (by omega : i < L'.length)⟩
      obtain ⟨x, hx, ex⟩ := kGd_n8 fl'.1 fl'.2.2.1 (endF P.2.2.1 (kMi key) (if kbg key = 0 then 0 else P.2.2.1 1) P.2.2.2.2.2.1 &&& kGd P key &&& endF P.2.2.2.1 (kIt key) (if kbg key = 0 then 0 else P.2.2.2.1 1) P.2.2.2.2.2.2.1) key
      have ee : kE1 P key &&& kE2 P key = nI x := by
        unfold kE1 kE2
        rw [← ex, ← Int32.and_assoc]
      refine g_iload C (gd DX5_countShared_0 18 rfl) 3 rfl ?_
      refine g_sipush (v := 3845) C (gd DX5_countShared_0 19 rfl) (by decide) ?_
      refine g_icmp_ge C 82 (gd DX5_countShared_0 20 rfl) (by decide) (fun c34 => ?_) (fun c34 => ?_)
      · exact absurd c34 (nI_ge (a := i) (b := 3845) (by omega) (by omega))
      · refine g_iload C (gd DX5_countShared_0 21 rfl) 3 rfl ?_
        refine g_aload_n C (gd DX5_countShared_0 22 rfl) 0 rfl rfl ?_
        refine g_geti (ci := 5) (k := 0) C rfl (by decide) rfl lf_TestJudge_Search_13 hs.1 (gd DX5_countShared_0 23 rfl) ?_
        rw [hS_0, q'.1]
        refine g_icmp_ge C 82 (gd DX5_countShared_0 24 rfl) (by decide) (fun c43 => ?_) (fun c43 => ?_)
        · exact absurd c43 (nI_ge (by omega) (by omega))
        · refine g_aload_n C (gd DX5_countShared_0 25 rfl) 0 rfl rfl ?_
          refine g_iload C (gd DX5_countShared_0 26 rfl) 3 rfl ?_
          refine g_cV0 (v := .null) (ci := 5) C [_] mX5_look lm_TestJudge_Search_121 (by exact hs.1) rfl rfl (e_s_look (h := hWL s h A' B') (by exact hs) (by exact rd) ok' fl' q' hkv (by omega)) hfl (by decide) (by decide) (by omega) (by omega) rfl rfl (Nat.le_of_ble_eq_true rfl) (gd DX5_countShared_0 27 rfl) ?_
          refine g_lload_n C (gd DX5_countShared_0 28 rfl) 2 rfl rfl ?_
          refine g_aload_n C (gd DX5_countShared_0 29 rfl) 0 rfl rfl ?_
          refine g_getr (ci := 5) (k := 18) C rfl (by decide) rfl lf_TestJudge_Search_71 hs.1 hs.2.2.2.2.2.2.2.2.1.1 (gd DX5_countShared_0 30 rfl) ?_
          refine g_iload C (gd DX5_countShared_0 31 rfl) 3 rfl ?_
          refine g_laj (j := i) C hs.2.2.2.2.2.2.2.2.1.2.1 hs.2.2.2.2.2.2.2.2.1.2.2 (by first | decide | omega) rfl (by omega) (gd DX5_countShared_0 32 rfl) ?_
          rw [show hL (hS s (hWL s h A' B') (lkS P key F') BH' NU' SI' CA') (s + 17) i = A' i from congrFun (hWL_17 (h := h)) i]
          refine g_aload_n C (gd DX5_countShared_0 33 rfl) 0 rfl rfl ?_
          refine g_geti (ci := 5) (k := 1) C rfl (by decide) rfl lf_TestJudge_Search_17 hs.1 (gd DX5_countShared_0 34 rfl) ?_
          refine g_aload_n C (gd DX5_countShared_0 35 rfl) 0 rfl rfl ?_
          refine g_geti (ci := 5) (k := 3) C rfl (by decide) rfl lf_TestJudge_Search_24 hs.1 (gd DX5_countShared_0 36 rfl) ?_
          rw [hS_0]
          rw [show lkS P key F' 1 = kE1 P key from rfl, show lkS P key F' 3 = kE2 P key from rfl]
          refine g_iand C (gd DX5_countShared_0 37 rfl) ?_
          refine g_cS1 C [_] mJ6_bitCount_0f7a4 lm_TestJudge_Search_140 (e_bitCount _) hfl (by decide) (by decide) (by omega) (by omega) rfl rfl (Nat.le_of_ble_eq_true rfl) (gd DX5_countShared_0 38 rfl) ?_
          rw [ee, bcF_n x hx]
          refine g_i2l C (gd DX5_countShared_0 39 rfl) ?_
          refine g_lmul C (gd DX5_countShared_0 40 rfl) ?_
          refine g_ladd C (gd DX5_countShared_0 41 rfl) ?_
          refine g_lstore_n (lv' := [(0, _), (1, _), (2, _), (4, _)]) C (gd DX5_countShared_0 42 rfl) [1, 2, 0, 3] rfl (by decide) rfl ?_
          refine g_iinc (lv' := [(0, _), (1, _), (2, _), (4, _)]) C (gd DX5_countShared_0 43 rfl) 3 [1, 2, 3, 0] rfl rfl (by decide) rfl ?_
          refine g_goto (tgt := 29) C (gd DX5_countShared_0 44 rfl) (by decide) ?_
          refine GW.cast ?_ rfl rfl (ih (i + 1) (lkS P key F') BH' NU' SI' CA' (by omega) ⟨fl'.1, fl'.2.1, fl'.2.2.1, fl'.2.2.2.1, fl'.2.2.2.2.1, fl'.2.2.2.2.2⟩ ⟨q'.1, q'.2⟩)
          rw [inc1, smL, kyL_at hkv, cE, ee]
  have loop : ∀ y i L' A' B' F' BH' NU' SI' CA', i + y = n → kOk P L' → (∀ (j : Nat) (q : Int64 × Nat), L'[j]? = some q → kWs P q.1) → (∀ j, j < 3845 → B' j = 0) → (∀ c, wlL A' c L' = gWn (kSg P 1) c i BEG) → sFl P nt na F' → sQ L' F' NU' SI' CA' → GW z w 5 (gQ z w 0 0 (fun r' h'' => r' = some (.long (gWn (kSg P 1) (cE P) n BEG)) ∧ ∃ L' A' B' F' BH' NU' SI' CA', h'' = hS s (hWL s h A' B') F' BH' NU' SI' CA' ∧ kOk P L' ∧ sQ L' F' NU' SI' CA' ∧ ∀ j, j < 3845 → B' j = 0)) 0 0 9 [(0, .ref s), (1, .int (nI n)), (2, .int (nI i))] [] (hS s (hWL s h A' B') F' BH' NU' SI' CA') := by
    intro y
    induction y with
    | zero =>
      intro i L' A' B' F' BH' NU' SI' CA' hi ok' hw' hB' hc' fl' q'
      have e : i = n := by omega
      refine g_iload_n C (gd DX5_countShared_0 7 rfl) 2 rfl rfl ?_
      refine g_iload_n C (gd DX5_countShared_0 8 rfl) 1 rfl rfl ?_
      refine g_icmp_ge C 24 (gd DX5_countShared_0 9 rfl) (by decide) (fun c11 => ?_) (fun c11 => ?_)
      · refine g_lconst (v := 0) C (gd DX5_countShared_0 14 rfl) (by decide) ?_
        refine g_lstore_n (lv' := [(0, _), (1, _), (2, _)]) C (gd DX5_countShared_0 15 rfl) [1, 2, 0] rfl (by decide) rfl ?_
        refine g_iconst (v := 0) C (gd DX5_countShared_0 16 rfl) (by decide) ?_
        refine g_istore (lv' := [(0, _), (1, _), (2, _), (4, _)]) C (gd DX5_countShared_0 17 rfl) [1, 2, 3, 0] (by decide) rfl ?_
        exact last L' A' B' ok' hw' hB' (by rw [hc', e]) L'.length 0 F' BH' NU' SI' CA' (by omega) fl' q'
      · exact absurd (nI_le (by omega) (by omega)) c11
    | succ y ih =>
      intro i L' A' B' F' BH' NU' SI' CA' hi ok' hw' hB' hc' fl' q'
      refine g_iload_n C (gd DX5_countShared_0 7 rfl) 2 rfl rfl ?_
      refine g_iload_n C (gd DX5_countShared_0 8 rfl) 1 rfl rfl ?_
      refine g_icmp_ge C 24 (gd DX5_countShared_0 9 rfl) (by decide) (fun c11 => ?_) (fun c11 => ?_)
      · exact absurd c11 (nI_ge (by omega) (by omega))
      · refine g_aload_n C (gd DX5_countShared_0 10 rfl) 0 rfl rfl ?_
        refine g_callV (ci := 5) C [] mX5_goOnAll lm_TestJudge_Search_137 (by exact hs.1) rfl rfl (e_s_goOnAll hs rd h5 ok' hw' fl' q' hB') hfl (by decide) (by decide) (by omega) (by omega) rfl rfl (Nat.le_of_ble_eq_true rfl) (gd DX5_countShared_0 11 rfl) (fun r h2 hp => ?_)
        obtain ⟨rfl, L2, A2, B2, F2, BH2, NU2, SI2, CA2, rfl, g1, g2, g3, g4, g5, g6⟩ := hp
        show GW z w 5 _ 0 0 _ _ [] _
        refine g_iinc (lv' := [(0, _), (1, _), (2, _)]) C (gd DX5_countShared_0 12 rfl) 2 [1, 2, 0] rfl rfl (by decide) rfl ?_
        refine g_goto (tgt := 9) C (gd DX5_countShared_0 13 rfl) (by decide) ?_
        refine GW.cast (by rw [inc1]) rfl rfl (ih (i + 1) L2 A2 B2 F2 BH2 NU2 SI2 CA2 (by omega) g1 g2 g5 (fun c => ?_) g3 g4)
        rw [g6 c, hc', gWn_s]
  refine g_aload_n C (gd DX5_countShared_0 0 rfl) 0 rfl rfl ?_
  refine g_getr (ci := 5) (k := 18) C rfl (by decide) rfl lf_TestJudge_Search_71 hs.1 hs.2.2.2.2.2.2.2.2.1.1 (gd DX5_countShared_0 1 rfl) ?_
  refine g_iconst (v := 0) C (gd DX5_countShared_0 2 rfl) (by decide) ?_
  refine g_lconst (v := 1) C (gd DX5_countShared_0 3 rfl) (by decide) ?_
  refine g_lsj (j := 0) C hs.2.2.2.2.2.2.2.2.1.2.1 hs.2.2.2.2.2.2.2.2.1.2.2 (by first | decide | omega) rfl (by decide) (gd DX5_countShared_0 4 rfl) ?_
  rw [hS_l17]
  refine g_iconst (v := 0) C (gd DX5_countShared_0 5 rfl) (by decide) ?_
  refine g_istore_n (lv' := [(0, _), (1, _), (2, _)]) C (gd DX5_countShared_0 6 rfl) [1, 2, 0] rfl (by decide) rfl ?_
  refine loop n 0 [(BEG, 0)] _ B F BH NU SI CA (by omega) ⟨fun j p hp => ?_, fun i j p p' hp hp' _ => ?_⟩ (fun j p hp => ?_) hB (fun c => ?_) fl q
  · have := (List.getElem?_eq_some_iff.mp hp).1
    simp at this
    subst this
    simp at hp
    rw [← hp]; exact Or.inl rfl
  · have h1 := (List.getElem?_eq_some_iff.mp hp).1
    have h2 := (List.getElem?_eq_some_iff.mp hp').1
    simp at h1 h2
    omega
  · have := (List.getElem?_eq_some_iff.mp hp).1
    simp at this
    subst this
    simp at hp
    rw [← hp]; exact Or.inl rfl
  · show smL _ 1 = _
    rw [smL, smL, vp_updL, if_pos rfl, Int64.zero_add, Int64.one_mul]
    rfl
end C14
