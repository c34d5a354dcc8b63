/-! behind: the ends behind an atom or more -/
theorem gr_of {L L' : List Nat} (h : L' = L ∨ ∃ x, L' = L ++ [x]) : ∃ X, L' = L ++ X := by
  rcases h with e | ⟨x, e⟩
  · exact ⟨[], by rw [e, List.append_nil]⟩
  · exact ⟨[x], e⟩
/-- the first i of the line are worked off -/
def bCl (go : Nat → Int32) (N : Nat) (L : List Nat) (i : Nat) : Prop := ∀ (a x : Nat), a < i → L[a]? = some x → ∀ k, k < 24 → ∀ t, go (24 * x + k) = nI t → t < N → t ∈ L
theorem bCl.gr {go : Nat → Int32} {N i : Nat} {L X : List Nat} (c : bCl go N L i) (hi : i ≤ L.length) : bCl go N (L ++ X) i := by
  intro a x ha hx k hk t e ht
  rw [List.getElem?_append_left (by omega)] at hx
  exact List.mem_append.mpr (Or.inl (c a x ha hx k hk t e ht))
theorem bRc_lt {go : Nat → Int32} {s : Int32} {N : Nat} (hN : N ≤ 16400) (hgo : ∀ e, e < 24 * N → go e = -1 ∨ ∃ j, j < N ∧ go e = nI j) (hN1 : 0 < N) : ∀ d u, u < 16400 → bRc go s d u → u < N := by
  have one : ∀ e u, e < 24 * N → u < 16400 → go e = nI u → u < N := fun e u he hu q => by
    rcases hgo e he with q1 | ⟨j, hj, q1⟩
    · exact absurd (q.symm.trans q1) (nI_m1 (by omega))
    · have := (nI_eq (by omega) (by omega)).mp (q.symm.trans q1)
      omega
  intro d
  induction d with
  | zero =>
    intro u hu h
    obtain ⟨k, hk, -, e⟩ := h
    exact one k u (by omega) hu e
  | succ d ih =>
    intro u hu h
    rcases h with h | ⟨x, k, hk, hx, h, e⟩
    · exact ih u hu h
    · have := ih x hx h
      exact one (24 * x + k) u (by omega) hu e
theorem b_all {go : Nat → Int32} {s : Int32} {N : Nat} {L : List Nat} (hN : N ≤ 16400) (hgo : ∀ e, e < 24 * N → go e = -1 ∨ ∃ j, j < N ∧ go e = nI j) (hN1 : 0 < N) (hf : ∀ k, k < 24 → hasB s (nI (k / 3)) → ∀ t, go k = nI t → t < N → t ∈ L) (hc : bCl go N L L.length) : ∀ d t, t < N → bRc go s d t → t ∈ L := by
  intro d
  induction d with
  | zero =>
    intro t ht h
    obtain ⟨k, hk, hb, e⟩ := h
    exact hf k hk hb t e ht
  | succ d ih =>
    intro t ht h
    rcases h with h | ⟨u, k, hk, hu, h, e⟩
    · exact ih t ht h
    · have hu2 := bRc_lt hN hgo hN1 d u hu h
      obtain ⟨a, ha⟩ := List.getElem?_of_mem (ih u hu2 h)
      exact hc a u (List.getElem?_eq_some_iff.mp ha).1 ha k hk t e ht
section M24
variable {w : gD} {m : Nat} {h : HS}
theorem e_m_behind (hm : mSh m h) {N : Nat} (g : GOk m h N) (hN1 : 0 < N) (s : Int32) :
    Ev w 1 0 0 yX10_behind cX10_behind 6 (some .int) [.ref m, .int s] h (fun r' h' => ∃ MT LN, ∃ L : List Nat, h' = hB2 m h MT LN ∧ (∀ t, t ∈ L ↔ t < N ∧ ∃ d, bRc (hI h (m + 7)) s d t) ∧ r' = some (.int (L.foldl (fun a t => a ||| hI h (m + 8) t) (hI h (m + 8) 0 &&& s)))) := by
  refine g_start (by decide) (Nat.le_of_ble_eq_true rfl) [(0, _), (1, _)] rfl (fun z hfl C => ?_)
  have hg1 := g.1
  generalize hf : (fun (a : Int32) (t : Nat) => a ||| hI h (m + 8) t) = f
  generalize ha0 : hI h (m + 8) 0 &&& s = a0
  have fS : ∀ a t, a ||| hI h (m + 8) t = f a t := fun a t => by rw [← hf]
  have work : ∀ n i MT LN (L : List Nat), N + 1 ≤ i + n → i ≤ L.length → bI (hI h (m + 7)) s N MT LN L → bCl (hI h (m + 7)) N L i → (∀ k, k < 24 → hasB s (nI (k / 3)) → ∀ t, hI h (m + 7) k = nI t → t < N → t ∈ L) → GW z w 6 (gQ z w 0 0 (fun r' h'' => ∃ MT LN, ∃ L : List Nat, h'' = hB2 m h MT LN ∧ (∀ t, t ∈ L ↔ t < N ∧ ∃ d, bRc (hI h (m + 7)) s d t) ∧ r' = some (.int (L.foldl f a0)))) 0 0 76 [(0, .ref m), (1, .int s), (2, .int ((L.take i).foldl f a0)), (3, .int (nI L.length)), (4, .int (nI i))] [] (hB2 m h MT LN) := by
    intro n
    induction n with
    | zero => intro i MT LN L hn hi hI0; have := hI0.len; omega
    | succ n ih =>
      intro i MT LN L hn hi hI0 hc hfi
      have hlen := hI0.len
      refine g_iload C (gd DX10_behind_0 43 rfl) 4 rfl ?_
      refine g_iload_n C (gd DX10_behind_0 44 rfl) 3 rfl rfl ?_
      refine g_icmp_ge C 134 (gd DX10_behind_0 45 rfl) (by decide) (fun c79 => ?_) (fun c79 => ?_)
      · have e : i = L.length := by have := ge_t c79 (by omega) (by omega); omega
        subst e
        rw [List.take_length]
        refine g_iload_n C (gd DX10_behind_1 14 rfl) 2 rfl rfl ?_
        exact g_iret C (by omega) (by omega) ⟨MT, LN, L, rfl, fun t => ⟨fun q => ⟨by obtain ⟨a, ha⟩ := List.getElem?_of_mem q; exact (hI0.2.1 a t ha).1, hI0.2.2.2 t q⟩, fun q => by obtain ⟨q1, d, q2⟩ := q; exact b_all hg1 g.2.2 hN1 hfi hc d t q1 q2⟩, rfl⟩ (gd DX10_behind_1 15 rfl)
      · have hlt : i < L.length := ge_f c79 (by omega) (by omega)
        obtain ⟨x, hx⟩ : ∃ x, L[i]? = some x := ⟨L[i], List.getElem?_eq_getElem hlt⟩
        have hx1 := hI0.2.1 i x hx
        have inner : ∀ y k MT LN (L : List Nat), k + y = 24 → L[i]? = some x → bI (hI h (m + 7)) s N MT LN L → bCl (hI h (m + 7)) N L i → (∀ k, k < 24 → hasB s (nI (k / 3)) → ∀ t, hI h (m + 7) k = nI t → t < N → t ∈ L) → (∀ k', k' < k → ∀ t, hI h (m + 7) (24 * x + k') = nI t → t < N → t ∈ L) → GW z w 6 (gQ z w 0 0 (fun r' h'' => ∃ MT LN, ∃ L : List Nat, h'' = hB2 m h MT LN ∧ (∀ t, t ∈ L ↔ t < N ∧ ∃ d, bRc (hI h (m + 7)) s d t) ∧ r' = some (.int (L.foldl f a0)))) 0 0 100 [(0, .ref m), (1, .int s), (2, .int ((L.take (i + 1)).foldl f a0)), (3, .int (nI L.length)), (4, .int (nI i)), (5, .int (nI k))] [] (hB2 m h MT LN) := by
          intro y
          induction y with
          | zero =>
            intro k MT LN L hk hx hI0 hc hfi hkk
            have hlt := (List.getElem?_eq_some_iff.mp hx).1
            refine g_iload C (gd DX10_behind_0 58 rfl) 5 rfl ?_
            refine g_bipush (v := 24) C (gd DX10_behind_0 59 rfl) (by decide) ?_
            refine g_icmp_ge C 128 (gd DX10_behind_1 0 rfl) (by decide) (fun c104 => ?_) (fun c104 => ?_)
            · refine g_iinc (lv' := [(0, _), (1, _), (2, _), (3, _), (4, _), (5, _)]) C (gd DX10_behind_1 12 rfl) 4 [1, 2, 3, 4, 0, 5] rfl rfl (by decide) rfl ?_
              refine g_goto (tgt := 76) C (gd DX10_behind_1 13 rfl) (by decide) ?_
              refine GW.sub [0, 1, 2, 3, 4] rfl (Nat.le_refl _) (Nat.le_refl _) (lv' := [(0, _), (1, _), (2, _), (3, _), (4, _)]) ?_
              refine GW.cast (by rw [inc1]) rfl rfl (ih (i + 1) MT LN L (by omega) (by omega) hI0 (fun a x' ha hx' k' hk' t e ht => ?_) hfi)
              by_cases ea : a = i
              · subst ea
                have : x' = x := Option.some.inj (hx'.symm.trans hx)
                subst this
                exact hkk k' (by omega) t e ht
              · exact hc a x' (by omega) hx' k' hk' t e ht
            · exact absurd (nI_le (a := 24) (b := k) (by omega) (by omega)) c104
          | succ y ihy =>
            intro k MT LN L hk hx hI0 hc hfi hkk
            have hlt := (List.getElem?_eq_some_iff.mp hx).1
            have hlen := hI0.len
            have hx1 := hI0.2.1 i x hx
            refine g_iload C (gd DX10_behind_0 58 rfl) 5 rfl ?_
            refine g_bipush (v := 24) C (gd DX10_behind_0 59 rfl) (by decide) ?_
            refine g_icmp_ge C 128 (gd DX10_behind_1 0 rfl) (by decide) (fun c104 => ?_) (fun c104 => ?_)
            · exact absurd c104 (nI_ge (a := k) (b := 24) (by omega) (by omega))
            · refine g_aload_n C (gd DX10_behind_1 1 rfl) 0 rfl rfl ?_
              refine g_aload_n C (gd DX10_behind_1 2 rfl) 0 rfl rfl ?_
              refine g_getr (ci := 10) (k := 48) C rfl (by decide) rfl lf_TestJudgeModel_78 hm.1 (hm.2 48 19 12 16500 rfl).1 (gd DX10_behind_1 3 rfl) ?_
              refine g_iload C (gd DX10_behind_1 4 rfl) 4 rfl ?_
              refine g_iaj (j := i) C (hm.2 48 19 12 16500 rfl).2.1 (hm.2 48 19 12 16500 rfl).2.2 (by decide) rfl (by omega) (gd DX10_behind_1 5 rfl) ?_
              rw [hB2_19, hx1.2]
              refine g_iload C (gd DX10_behind_1 6 rfl) 5 rfl ?_
              refine g_iload_n C (gd DX10_behind_1 7 rfl) 3 rfl rfl ?_
              refine g_callV (ci := 10) C [_, _, _] mX10_reaches lm_TestJudgeModel_475 (by exact hm.1) rfl rfl (e_m_reaches (h := h) (by exact hm) g hx1.1 (by omega : k < 24) hI0 (fun t e ht => by obtain ⟨d, q⟩ := hI0.2.2.2 x (List.mem_of_getElem? hx); exact ⟨d + 1, Or.inr ⟨x, k, by omega, by omega, q, e⟩⟩)) hfl (by decide) (by decide) (by omega) (by omega) rfl rfl (Nat.le_of_ble_eq_true rfl) (gd DX10_behind_1 8 rfl) (fun r h2 hp => ?_)
              obtain ⟨MT', LN', L', rfl, rfl, hI1, hgr, hmm⟩ := hp
              obtain ⟨X, rfl⟩ := gr_of hgr
              show GW z w 6 _ 0 0 _ _ [.int (nI (L ++ X).length)] _
              refine g_istore_n (lv' := [(0, _), (1, _), (2, _), (3, _), (4, _), (5, _)]) C (gd DX10_behind_1 9 rfl) [1, 2, 3, 0, 4, 5] rfl (by decide) rfl ?_
              refine g_iinc (lv' := [(0, _), (1, _), (2, _), (3, _), (4, _), (5, _)]) C (gd DX10_behind_1 10 rfl) 5 [1, 2, 3, 4, 5, 0] rfl rfl (by decide) rfl ?_
              refine g_goto (tgt := 100) C (gd DX10_behind_1 11 rfl) (by decide) ?_
              refine GW.cast (by rw [inc1, List.take_append_of_le_length (by omega)]) rfl rfl (ihy (k + 1) MT' LN' (L ++ X) (by omega) (by rw [List.getElem?_append_left hlt]; exact hx) hI1 (hc.gr (by omega)) (fun k' hk' hb t e ht => List.mem_append.mpr (Or.inl (hfi k' hk' hb t e ht))) (fun k' hk' t e ht => ?_))
              by_cases ek : k' = k
              · subst ek; exact hmm t e ht
              · exact List.mem_append.mpr (Or.inl (hkk k' (by omega) t e ht))
        refine g_iload_n C (gd DX10_behind_0 46 rfl) 2 rfl rfl ?_
        refine g_aload_n C (gd DX10_behind_0 47 rfl) 0 rfl rfl ?_
        refine g_getr (ci := 10) (k := 36) C rfl (by decide) rfl lf_TestJudgeModel_44 hm.1 (hm.2 36 8 12 16500 rfl).1 (gd DX10_behind_0 48 rfl) ?_
        refine g_aload_n C (gd DX10_behind_0 49 rfl) 0 rfl rfl ?_
        refine g_getr (ci := 10) (k := 48) C rfl (by decide) rfl lf_TestJudgeModel_78 hm.1 (hm.2 48 19 12 16500 rfl).1 (gd DX10_behind_0 50 rfl) ?_
        refine g_iload C (gd DX10_behind_0 51 rfl) 4 rfl ?_
        refine g_iaj (j := i) C (hm.2 48 19 12 16500 rfl).2.1 (hm.2 48 19 12 16500 rfl).2.2 (by decide) rfl (by omega) (gd DX10_behind_0 52 rfl) ?_
        rw [hB2_19, hx1.2]
        refine g_iaj (j := x) C (hm.2 36 8 12 16500 rfl).2.1 (hm.2 36 8 12 16500 rfl).2.2 (by decide) rfl (by omega) (gd DX10_behind_0 53 rfl) ?_
        rw [hB2_ne (by omega) (by omega)]
        refine g_ior C (gd DX10_behind_0 54 rfl) ?_
        rw [fS]
        refine g_istore_n (lv' := [(0, _), (1, _), (2, _), (3, _), (4, _)]) C (gd DX10_behind_0 55 rfl) [1, 2, 0, 3, 4] rfl (by decide) rfl ?_
        refine g_iconst (v := 0) C (gd DX10_behind_0 56 rfl) (by decide) ?_
        refine g_istore (lv' := [(0, _), (1, _), (2, _), (3, _), (4, _), (5, _)]) C (gd DX10_behind_0 57 rfl) [1, 2, 3, 4, 5, 0] (by decide) rfl ?_
        refine GW.cast ?_ rfl rfl (inner 24 0 MT LN L (by omega) hx hI0 hc hfi (fun k' hk' => by omega))
        rw [List.take_succ, hx, List.foldl_append]
        rfl
  have first : ∀ y k MT LN (L : List Nat), k + y = 24 → bI (hI h (m + 7)) s N MT LN L → (∀ k', k' < k → hasB s (nI (k' / 3)) → ∀ t, hI h (m + 7) k' = nI t → t < N → t ∈ L) → GW z w 6 (gQ z w 0 0 (fun r' h'' => ∃ MT LN, ∃ L : List Nat, h'' = hB2 m h MT LN ∧ (∀ t, t ∈ L ↔ t < N ∧ ∃ d, bRc (hI h (m + 7)) s d t) ∧ r' = some (.int (L.foldl f a0)))) 0 0 40 [(0, .ref m), (1, .int s), (2, .int a0), (3, .int (nI L.length)), (4, .int (nI k))] [] (hB2 m h MT LN) := by
    intro y
    induction y with
    | zero =>
      intro k MT LN L hk hI0 hfi
      refine g_iload C (gd DX10_behind_0 24 rfl) 4 rfl ?_
      refine g_bipush (v := 24) C (gd DX10_behind_0 25 rfl) (by decide) ?_
      refine g_icmp_ge C 73 (gd DX10_behind_0 26 rfl) (by decide) (fun c44 => ?_) (fun c44 => ?_)
      · refine g_iconst (v := 0) C (gd DX10_behind_0 41 rfl) (by decide) ?_
        refine g_istore (lv' := [(0, _), (1, _), (2, _), (3, _), (4, _)]) C (gd DX10_behind_0 42 rfl) [1, 2, 3, 4, 0] (by decide) rfl ?_
        exact work (N + 1) 0 MT LN L (by omega) (Nat.zero_le _) hI0 (fun a x ha => by omega) (fun k' hk' => hfi k' (by omega))
      · exact absurd (nI_le (a := 24) (b := k) (by omega) (by omega)) c44
    | succ y ihy =>
      intro k MT LN L hk hI0 hfi
      have hlen := hI0.len
      refine g_iload C (gd DX10_behind_0 24 rfl) 4 rfl ?_
      refine g_bipush (v := 24) C (gd DX10_behind_0 25 rfl) (by decide) ?_
      refine g_icmp_ge C 73 (gd DX10_behind_0 26 rfl) (by decide) (fun c44 => ?_) (fun c44 => ?_)
      · exact absurd c44 (nI_ge (a := k) (b := 24) (by omega) (by omega))
      · refine g_iload_n C (gd DX10_behind_0 27 rfl) 1 rfl rfl ?_
        refine g_iload C (gd DX10_behind_0 28 rfl) 4 rfl ?_
        refine g_iconst (v := 3) C (gd DX10_behind_0 29 rfl) (by decide) ?_
        refine g_idiv C (gd DX10_behind_0 30 rfl) (by decide) ?_
        rw [show nI k / 3 = nI (k / 3) from nx_div (a := k) (b := 3) rfl rfl (by omega) (by decide) (by decide)]
        refine g_cS1 C [_, _] mX10_has lm_TestJudgeModel_144 (e_m_has _ _) hfl (by decide) (by decide) (by omega) (by omega) rfl rfl (Nat.le_of_ble_eq_true rfl) (gd DX10_behind_0 31 rfl) ?_
        by_cases hb : hasB s (nI (k / 3))
        · rw [b1_t (show s >>> (nI (k / 3) &&& 31) &&& 1 = 1 from hb)]
          refine g_if_eq C 67 (gd DX10_behind_0 32 rfl) (by decide) (fun c55 => ?_) (fun c55 => ?_)
          · exact absurd c55 (by decide)
          · refine g_aload_n C (gd DX10_behind_0 33 rfl) 0 rfl rfl ?_
            refine g_iconst (v := 0) C (gd DX10_behind_0 34 rfl) (by decide) ?_
            refine g_iload C (gd DX10_behind_0 35 rfl) 4 rfl ?_
            refine g_iload_n C (gd DX10_behind_0 36 rfl) 3 rfl rfl ?_
            refine g_callV (ci := 10) C [_, _, _] mX10_reaches lm_TestJudgeModel_475 (by exact hm.1) rfl rfl (e_m_reaches (h := h) (s := 0) (k := k) (by exact hm) g hN1 (by omega) hI0 (fun t e ht => ⟨0, k, by omega, hb, by rw [← e]; congr 1; omega⟩)) hfl (by decide) (by decide) (by omega) (by omega) rfl rfl (Nat.le_of_ble_eq_true rfl) (gd DX10_behind_0 37 rfl) (fun r h2 hp => ?_)
            obtain ⟨MT', LN', L', rfl, rfl, hI1, hgr, hmm⟩ := hp
            obtain ⟨X, rfl⟩ := gr_of hgr
            show GW z w 6 _ 0 0 _ _ [.int (nI (L ++ X).length)] _
            refine g_istore_n (lv' := [(0, _), (1, _), (2, _), (3, _), (4, _)]) C (gd DX10_behind_0 38 rfl) [1, 2, 3, 0, 4] rfl (by decide) rfl ?_
            refine g_iinc (lv' := [(0, _), (1, _), (2, _), (3, _), (4, _)]) C (gd DX10_behind_0 39 rfl) 4 [1, 2, 3, 4, 0] rfl rfl (by decide) rfl ?_
            refine g_goto (tgt := 40) C (gd DX10_behind_0 40 rfl) (by decide) ?_
            refine GW.cast (by rw [inc1]) rfl rfl (ihy (k + 1) MT' LN' (L ++ X) (by omega) hI1 (fun k' hk' hb' t e ht => ?_))
            by_cases ek : k' = k
            · subst ek; exact hmm t (by rw [show 24 * 0 + k' = k' by omega]; exact e) ht
            · exact List.mem_append.mpr (Or.inl (hfi k' (by omega) hb' t e ht))
        · rw [b1_f (show ¬ s >>> (nI (k / 3) &&& 31) &&& 1 = 1 from hb)]
          refine g_if_eq C 67 (gd DX10_behind_0 32 rfl) (by decide) (fun c55 => ?_) (fun c55 => ?_)
          · refine g_iinc (lv' := [(0, _), (1, _), (2, _), (3, _), (4, _)]) C (gd DX10_behind_0 39 rfl) 4 [1, 2, 3, 4, 0] rfl rfl (by decide) rfl ?_
            refine g_goto (tgt := 40) C (gd DX10_behind_0 40 rfl) (by decide) ?_
            refine GW.cast (by rw [inc1]) rfl rfl (ihy (k + 1) MT LN L (by omega) hI0 (fun k' hk' hb' t e ht => ?_))
            by_cases ek : k' = k
            · subst ek; exact absurd hb' hb
            · exact hfi k' (by omega) hb' t e ht
          · exact absurd rfl c55
  have zero : ∀ n k, k + n = N → GW z w 6 (gQ z w 0 0 (fun r' h'' => ∃ MT LN, ∃ L : List Nat, h'' = hB2 m h MT LN ∧ (∀ t, t ∈ L ↔ t < N ∧ ∃ d, bRc (hI h (m + 7)) s d t) ∧ r' = some (.int (L.foldl f a0)))) 0 0 14 [(0, .ref m), (1, .int s), (2, .int a0), (3, .int 0), (4, .int (nI k))] [] (hB2 m h (preF (fun _ => 0) (hI h (m + 25)) k) (hI h (m + 19))) := by
    intro n
    induction n with
    | zero =>
      intro k hkn
      refine g_iload C (gd DX10_behind_0 11 rfl) 4 rfl ?_
      refine g_aload_n C (gd DX10_behind_0 12 rfl) 0 rfl rfl ?_
      refine g_geti (ci := 10) (k := 42) C rfl (by decide) rfl lf_TestJudgeModel_357 hm.1 (gd DX10_behind_0 13 rfl) ?_
      rw [hB2_ne (by omega) (by omega), g.2.1]
      refine g_icmp_ge C 37 (gd DX10_behind_0 14 rfl) (by decide) (fun c20 => ?_) (fun c20 => ?_)
      · refine g_iconst (v := 0) C (gd DX10_behind_0 22 rfl) (by decide) ?_
        refine g_istore (lv' := [(0, _), (1, _), (2, _), (3, _), (4, _)]) C (gd DX10_behind_0 23 rfl) [1, 2, 3, 4, 0] (by decide) rfl ?_
        exact first 24 0 _ _ [] (by omega) ⟨fun t ht => Or.inr ⟨preF_lt (by omega), List.not_mem_nil⟩, fun i x hx => by simp at hx, fun i j x hx => by simp at hx, fun x hx => (List.not_mem_nil hx).elim⟩ (fun k' hk' => by omega)
      · exact absurd (nI_le (a := N) (b := k) (by omega) (by omega)) c20
    | succ n ih =>
      intro k hkn
      refine g_iload C (gd DX10_behind_0 11 rfl) 4 rfl ?_
      refine g_aload_n C (gd DX10_behind_0 12 rfl) 0 rfl rfl ?_
      refine g_geti (ci := 10) (k := 42) C rfl (by decide) rfl lf_TestJudgeModel_357 hm.1 (gd DX10_behind_0 13 rfl) ?_
      rw [hB2_ne (by omega) (by omega), g.2.1]
      refine g_icmp_ge C 37 (gd DX10_behind_0 14 rfl) (by decide) (fun c20 => ?_) (fun c20 => ?_)
      · exact absurd c20 (nI_ge (a := k) (b := N) (by omega) (by omega))
      · refine g_aload_n C (gd DX10_behind_0 15 rfl) 0 rfl rfl ?_
        refine g_getr (ci := 10) (k := 55) C rfl (by decide) rfl lf_TestJudgeModel_96 hm.1 (hm.2 55 25 15 16500 rfl).1 (gd DX10_behind_0 16 rfl) ?_
        refine g_iload C (gd DX10_behind_0 17 rfl) 4 rfl ?_
        refine g_iconst (v := 0) C (gd DX10_behind_0 18 rfl) (by decide) ?_
        refine g_zsj (j := k) C (hm.2 55 25 15 16500 rfl).2.1 (hm.2 55 25 15 16500 rfl).2.2 (by decide) rfl (by omega) (gd DX10_behind_0 19 rfl) ?_
        rw [nar_b (Or.inl rfl), hB2_i25]
        refine g_iinc (lv' := [(0, _), (1, _), (2, _), (3, _), (4, _)]) C (gd DX10_behind_0 20 rfl) 4 [1, 2, 3, 4, 0] rfl rfl (by decide) rfl ?_
        refine g_goto (tgt := 14) C (gd DX10_behind_0 21 rfl) (by decide) ?_
        exact GW.cast (by rw [inc1]) rfl (by rw [← preF_s]) (ih (k + 1) (by omega))
  refine g_aload_n C (gd DX10_behind_0 0 rfl) 0 rfl rfl ?_
  refine g_getr (ci := 10) (k := 36) C rfl (by decide) rfl lf_TestJudgeModel_44 hm.1 (hm.2 36 8 12 16500 rfl).1 (gd DX10_behind_0 1 rfl) ?_
  refine g_iconst (v := 0) C (gd DX10_behind_0 2 rfl) (by decide) ?_
  refine g_iaj (j := 0) C (hm.2 36 8 12 16500 rfl).2.1 (hm.2 36 8 12 16500 rfl).2.2 (by decide) rfl (by omega) (gd DX10_behind_0 3 rfl) ?_
  refine g_iload_n C (gd DX10_behind_0 4 rfl) 1 rfl rfl ?_
  refine g_iand C (gd DX10_behind_0 5 rfl) ?_
  rw [ha0]
  refine g_istore_n (lv' := [(0, _), (1, _), (2, _)]) C (gd DX10_behind_0 6 rfl) [1, 2, 0] rfl (by decide) rfl ?_
  refine g_iconst (v := 0) C (gd DX10_behind_0 7 rfl) (by decide) ?_
  refine g_istore_n (lv' := [(0, _), (1, _), (2, _), (3, _)]) C (gd DX10_behind_0 8 rfl) [1, 2, 3, 0] rfl (by decide) rfl ?_
  refine g_iconst (v := 0) C (gd DX10_behind_0 9 rfl) (by decide) ?_
  refine g_istore (lv' := [(0, _), (1, _), (2, _), (3, _), (4, _)]) C (gd DX10_behind_0 10 rfl) [1, 2, 3, 4, 0] (by decide) rfl ?_
  exact GW.cast rfl rfl (by rw [preF_0, hB2_self]) (zero N 0 (by omega))
end M24
