/-! Table: numberOf, numberRests -/
/-- the rests numbered so far: state and how far, in their order -/
def nbI (RR : List (Nat × Nat)) (ρ : Nat → Nat → Int32) : Prop := ρ 0 0 = nI RR.length ∧ (∀ (i : Nat) (q : Nat × Nat), RR[i]? = some q → q.1 < 125 ∧ ρ 10 i = nI q.1 ∧ ρ 2 i = nI q.2 ∧ ρ 9 q.1 = nI i) ∧ (∀ c, c < 125 → (∀ (i : Nat) (q : Nat × Nat), RR[i]? = some q → q.1 ≠ c) → ρ 9 c = -1) ∧ ∀ (i j : Nat) (p q : Nat × Nat), RR[i]? = some p → RR[j]? = some q → p.1 = q.1 → i = j
noncomputable def addR (RR : List (Nat × Nat)) (c f : Nat) : List (Nat × Nat) := @ite _ (∃ p, p ∈ RR ∧ p.1 = c) (Classical.propDecidable _) RR (RR ++ [(c, f)])
theorem nbI.lt {RR : List (Nat × Nat)} {ρ : Nat → Nat → Int32} (nb : nbI RR ρ) {c : Nat} (hc : c < 125) (hn : ¬ ∃ p, p ∈ RR ∧ p.1 = c) : RR.length < 125 := by
  have key := pigeon (fun i => if i < RR.length then ((RR[i]?).getD (0, 0)).1 else c) (RR.length + 1) 125 (fun i hi => ?_) (fun i j hi hj he => ?_)
  · omega
  · show (if i < RR.length then ((RR[i]?).getD (0, 0)).1 else c) < 125
    split
    · rename_i e
      rw [List.getElem?_eq_getElem e]
      exact (nb.2.1 i _ (List.getElem?_eq_getElem e)).1
    · exact hc
  · have he : (if i < RR.length then ((RR[i]?).getD (0, 0)).1 else c) = (if j < RR.length then ((RR[j]?).getD (0, 0)).1 else c) := he
    by_cases ei : i < RR.length <;> by_cases ej : j < RR.length
    · rw [if_pos ei, if_pos ej, List.getElem?_eq_getElem ei, List.getElem?_eq_getElem ej] at he
      exact nb.2.2.2 i j _ _ (List.getElem?_eq_getElem ei) (List.getElem?_eq_getElem ej) he
    · rw [if_pos ei, if_neg ej, List.getElem?_eq_getElem ei] at he
      exact absurd ⟨_, List.getElem_mem ei, he⟩ hn
    · rw [if_neg ei, if_pos ej, List.getElem?_eq_getElem ej] at he
      exact absurd ⟨_, List.getElem_mem ej, he.symm⟩ hn
    · omega
theorem app_get {α : Type} {L : List α} {x q : α} {j : Nat} (h : (L ++ [x])[j]? = some q) : L[j]? = some q ∨ (j = L.length ∧ q = x) := by
  by_cases e : j < L.length
  · rw [List.getElem?_append_left e] at h; exact Or.inl h
  · have h1 := (List.getElem?_eq_some_iff.mp h).1
    rw [List.length_append] at h1
    simp at h1
    have : j = L.length := by omega
    subst this
    rw [List.getElem?_append_right (Nat.le_refl _)] at h
    simp at h
    exact Or.inr ⟨rfl, h.symm⟩
/-- the rows with one more rest -/
def addρ (ρ : Nat → Nat → Int32) (n c f : Nat) : Nat → Nat → Int32 := rset (rset (rset (rset ρ 9 (upd (ρ 9) c (nI n))) 10 (upd (ρ 10) n (nI c))) 2 (upd (ρ 2) n (nI f))) 0 (upd (ρ 0) 0 (nI (n + 1)))
theorem addρ_o {ρ : Nat → Nat → Int32} {n c f a : Nat} (h : a ≠ 0) (h2 : a ≠ 2) (h9 : a ≠ 9) (h10 : a ≠ 10) : addρ ρ n c f a = ρ a := by
  unfold addρ
  rw [rset_ne h, rset_ne h2, rset_ne h10, rset_ne h9]
theorem addρ_0 {ρ : Nat → Nat → Int32} {n c f k : Nat} (h : k ≠ 0) : addρ ρ n c f 0 k = ρ 0 k := by
  unfold addρ
  rw [rset_eq, upd, if_neg h]
theorem nbI.add {RR : List (Nat × Nat)} {ρ : Nat → Nat → Int32} (nb : nbI RR ρ) {c f : Nat} (hc : c < 125) (hn : ¬ ∃ p, p ∈ RR ∧ p.1 = c) : nbI (RR ++ [(c, f)]) (addρ ρ RR.length c f) := by
  have hne : ∀ (i : Nat) (q : Nat × Nat), RR[i]? = some q → q.1 ≠ c := fun i q hq e => hn ⟨q, List.mem_of_getElem? hq, e⟩
  refine ⟨?_, fun i q hq => ?_, fun d hd hx => ?_, fun i j p q hp hq hpq => ?_⟩
  · unfold addρ
    rw [rset_eq, upd, if_pos rfl, List.length_append]
    rfl
  · unfold addρ
    rw [rset_ne (show 10 ≠ 0 by omega), rset_ne (show 10 ≠ 2 by omega), rset_eq, rset_ne (show 2 ≠ 0 by omega), rset_eq, rset_ne (show 9 ≠ 0 by omega), rset_ne (show 9 ≠ 2 by omega), rset_ne (show 9 ≠ 10 by omega), rset_eq]
    rcases app_get hq with x | ⟨x1, x2⟩
    · obtain ⟨y1, y2, y3, y4⟩ := nb.2.1 i q x
      have hl := (List.getElem?_eq_some_iff.mp x).1
      exact ⟨y1, by rw [upd, if_neg (by omega)]; exact y2, by rw [upd, if_neg (by omega)]; exact y3, by rw [upd, if_neg (hne i q x)]; exact y4⟩
    · subst x1; subst x2
      exact ⟨hc, by rw [upd, if_pos rfl], by rw [upd, if_pos rfl], by rw [upd, if_pos rfl]⟩
  · unfold addρ
    rw [rset_ne (show 9 ≠ 0 by omega), rset_ne (show 9 ≠ 2 by omega), rset_ne (show 9 ≠ 10 by omega), rset_eq]
    have h1 : c ≠ d := hx RR.length (c, f) (by rw [List.getElem?_append_right (Nat.le_refl _)]; simp)
    rw [upd, if_neg (fun x => h1 x.symm)]
    refine nb.2.2.1 d hd (fun i q hq => hx i q ?_)
    rw [List.getElem?_append_left (List.getElem?_eq_some_iff.mp hq).1]; exact hq
  · rcases app_get hp with x | ⟨x1, x2⟩ <;> rcases app_get hq with y | ⟨y1, y2⟩
    · exact nb.2.2.2 i j p q x y hpq
    · subst y2; exact absurd hpq (hne i p x)
    · subst x2; exact absurd hpq.symm (hne j q y)
    · omega
section C20
variable {w : gD} {t : Nat} {h : HS}
theorem e_t_numberOf (ht : tSh t h) {RR : List (Nat × Nat)} {ρ : Nat → Nat → Int32} (nb : nbI RR ρ) {c f : Nat} (hc : c < 125) : Ev w 0 0 0 yX6_numberOf cX6_numberOf 3 (some .int) [.ref t, .int (nI c), .int (nI f)] (tR t h ρ) (fun r' h' => ∃ (j : Nat) (q : Nat × Nat) (ρ' : Nat → Nat → Int32), r' = some (.int (nI j)) ∧ h' = tR t h ρ' ∧ nbI (addR RR c f) ρ' ∧ (addR RR c f)[j]? = some q ∧ q.1 = c ∧ (∀ a, a ≠ 0 → a ≠ 2 → a ≠ 9 → a ≠ 10 → ρ' a = ρ a) ∧ ∀ k, k ≠ 0 → ρ' 0 k = ρ 0 k) := by
  refine g_start (by decide) (Nat.le_of_ble_eq_true rfl) [(0, _), (1, _), (2, _)] rfl (fun z hfl C => ?_)
  have fin : ∀ (j : Nat) (q : Nat × Nat) ρ', nbI (addR RR c f) ρ' → (addR RR c f)[j]? = some q → q.1 = c → (∀ a, a ≠ 0 → a ≠ 2 → a ≠ 9 → a ≠ 10 → ρ' a = ρ a) → (∀ k, k ≠ 0 → ρ' 0 k = ρ 0 k) → GW z w 3 (gQ z w 0 0 (fun r' h'' => ∃ (j : Nat) (q : Nat × Nat) (ρ' : Nat → Nat → Int32), r' = some (.int (nI j)) ∧ h'' = tR t h ρ' ∧ nbI (addR RR c f) ρ' ∧ (addR RR c f)[j]? = some q ∧ q.1 = c ∧ (∀ a, a ≠ 0 → a ≠ 2 → a ≠ 9 → a ≠ 10 → ρ' a = ρ a) ∧ ∀ k, k ≠ 0 → ρ' 0 k = ρ 0 k)) 0 0 71 [(0, .ref t), (1, .int (nI c)), (2, .int (nI f))] [] (tR t h ρ') := by
    intro j q ρ' h1 h2 h3 h4 h5
    have hv := (h1.2.1 j q h2).2.2.2
    rw [h3] at hv
    refine g_aload_n C (gd DX6_numberOf_0 41 rfl) 0 rfl rfl ?_
    refine g_getr (ci := 6) (k := 12) C rfl (by decide) rfl lf_TestJudge_Table_50 ht.1 ht.2.2.2.2.2.2.2.2.2.1.1 (gd DX6_numberOf_0 42 rfl) ?_
    refine g_iload_n C (gd DX6_numberOf_0 43 rfl) 1 rfl rfl ?_
    refine g_iaj (j := c) C ht.2.2.2.2.2.2.2.2.2.1.2.1 ht.2.2.2.2.2.2.2.2.2.1.2.2 (by first | decide | omega) rfl (by omega) (gd DX6_numberOf_0 44 rfl) ?_
    rw [tR_at (by omega), hv]
    exact g_iret C (by omega) (by omega) ⟨j, q, ρ', rfl, rfl, h1, h2, h3, h4, h5⟩ (gd DX6_numberOf_0 45 rfl)
  refine g_iload_n C (gd DX6_numberOf_0 0 rfl) 1 rfl rfl ?_
  refine g_if_lt C 10 (gd DX6_numberOf_0 1 rfl) (by decide) (fun c1 => ?_) (fun c1 => ?_)
  · exact absurd c1 (nI_nn (by omega))
  refine g_iload_n C (gd DX6_numberOf_0 2 rfl) 1 rfl rfl ?_
  refine g_bipush (v := 125) C (gd DX6_numberOf_0 3 rfl) (by decide) ?_
  refine g_icmp_lt C 12 (gd DX6_numberOf_0 4 rfl) (by decide) (fun c7 => ?_) (fun c7 => ?_)
  rotate_left
  · exact absurd (nI_lt (a := c) (b := 125) hc (by omega)) c7
  by_cases hm : ∃ p, p ∈ RR ∧ p.1 = c
  · have ea : addR RR c f = RR := if_pos hm
    obtain ⟨p, hp, e⟩ := hm
    obtain ⟨j, hj⟩ := List.getElem?_of_mem hp
    have hv := (nb.2.1 j p hj).2.2.2
    rw [e] at hv
    have hjl := (List.getElem?_eq_some_iff.mp hj).1
    have hlen : RR.length ≤ 125 := pigeon (fun i => ((RR[i]?).getD (0, 0)).1) RR.length 125 (fun i hi => by
      show ((RR[i]?).getD (0, 0)).1 < 125
      rw [List.getElem?_eq_getElem hi]
      exact (nb.2.1 i _ (List.getElem?_eq_getElem hi)).1) (fun i k hi hk he => by
      have he : ((RR[i]?).getD (0, 0)).1 = ((RR[k]?).getD (0, 0)).1 := he
      rw [List.getElem?_eq_getElem hi, List.getElem?_eq_getElem hk] at he
      exact nb.2.2.2 i k _ _ (List.getElem?_eq_getElem hi) (List.getElem?_eq_getElem hk) he)
    refine g_aload_n C (gd DX6_numberOf_0 7 rfl) 0 rfl rfl ?_
    refine g_getr (ci := 6) (k := 12) C rfl (by decide) rfl lf_TestJudge_Table_50 ht.1 ht.2.2.2.2.2.2.2.2.2.1.1 (gd DX6_numberOf_0 8 rfl) ?_
    refine g_iload_n C (gd DX6_numberOf_0 9 rfl) 1 rfl rfl ?_
    refine g_iaj (j := c) C ht.2.2.2.2.2.2.2.2.2.1.2.1 ht.2.2.2.2.2.2.2.2.2.1.2.2 (by first | decide | omega) rfl (by omega) (gd DX6_numberOf_0 10 rfl) ?_
    rw [tR_at (by omega), hv]
    refine g_iconst (v := -1) C (gd DX6_numberOf_0 11 rfl) (by decide) ?_
    refine g_icmp_ne C 71 (gd DX6_numberOf_0 12 rfl) (by decide) (fun c19 => ?_) (fun c19 => ?_)
    · exact fin j p ρ (by rw [ea]; exact nb) (by rw [ea]; exact hj) e (fun _ _ _ _ _ => rfl) (fun _ _ => rfl)
    · exact absurd c19 (nI_neg1 (by omega))
  · have ea : addR RR c f = RR ++ [(c, f)] := if_neg hm
    have hlt := nb.lt hc hm
    have hv := nb.2.2.1 c hc (fun i q hq e => hm ⟨q, List.mem_of_getElem? hq, e⟩)
    refine g_aload_n C (gd DX6_numberOf_0 7 rfl) 0 rfl rfl ?_
    refine g_getr (ci := 6) (k := 12) C rfl (by decide) rfl lf_TestJudge_Table_50 ht.1 ht.2.2.2.2.2.2.2.2.2.1.1 (gd DX6_numberOf_0 8 rfl) ?_
    refine g_iload_n C (gd DX6_numberOf_0 9 rfl) 1 rfl rfl ?_
    refine g_iaj (j := c) C ht.2.2.2.2.2.2.2.2.2.1.2.1 ht.2.2.2.2.2.2.2.2.2.1.2.2 (by first | decide | omega) rfl (by omega) (gd DX6_numberOf_0 10 rfl) ?_
    rw [tR_at (by omega), hv]
    refine g_iconst (v := -1) C (gd DX6_numberOf_0 11 rfl) (by decide) ?_
    refine g_icmp_ne C 71 (gd DX6_numberOf_0 12 rfl) (by decide) (fun c19 => ?_) (fun c19 => ?_)
    · exact absurd rfl c19
    · refine g_aload_n C (gd DX6_numberOf_0 13 rfl) 0 rfl rfl ?_
      refine g_geti (ci := 6) (k := 0) C rfl (by decide) rfl lf_TestJudge_Table_9 ht.1 (gd DX6_numberOf_0 14 rfl) ?_
      rw [tR_0, nb.1]
      refine g_bipush (v := 125) C (gd DX6_numberOf_0 15 rfl) (by decide) ?_
      refine g_icmp_ge C 71 (gd DX6_numberOf_0 16 rfl) (by decide) (fun c28 => ?_) (fun c28 => ?_)
      · exact absurd c28 (nI_ge (a := RR.length) (b := 125) hlt (by omega))
      · refine g_aload_n C (gd DX6_numberOf_0 17 rfl) 0 rfl rfl ?_
        refine g_getr (ci := 6) (k := 12) C rfl (by decide) rfl lf_TestJudge_Table_50 ht.1 ht.2.2.2.2.2.2.2.2.2.1.1 (gd DX6_numberOf_0 18 rfl) ?_
        refine g_iload_n C (gd DX6_numberOf_0 19 rfl) 1 rfl rfl ?_
        refine g_aload_n C (gd DX6_numberOf_0 20 rfl) 0 rfl rfl ?_
        refine g_geti (ci := 6) (k := 0) C rfl (by decide) rfl lf_TestJudge_Table_9 ht.1 (gd DX6_numberOf_0 21 rfl) ?_
        rw [tR_0, nb.1]
        refine g_isj (j := c) C ht.2.2.2.2.2.2.2.2.2.1.2.1 ht.2.2.2.2.2.2.2.2.2.1.2.2 (by first | decide | omega) rfl (by omega) (gd DX6_numberOf_0 22 rfl) ?_
        rw [tR_i (by omega)]
        refine g_aload_n C (gd DX6_numberOf_0 23 rfl) 0 rfl rfl ?_
        refine g_getr (ci := 6) (k := 13) C rfl (by decide) rfl lf_TestJudge_Table_53 ht.1 ht.2.2.2.2.2.2.2.2.2.2.1 (gd DX6_numberOf_0 24 rfl) ?_
        refine g_aload_n C (gd DX6_numberOf_0 25 rfl) 0 rfl rfl ?_
        refine g_geti (ci := 6) (k := 0) C rfl (by decide) rfl lf_TestJudge_Table_9 ht.1 (gd DX6_numberOf_0 26 rfl) ?_
        rw [tR_0, rset_ne (by omega), nb.1]
        refine g_iload_n C (gd DX6_numberOf_0 27 rfl) 1 rfl rfl ?_
        refine g_isj (j := RR.length) C ht.2.2.2.2.2.2.2.2.2.2.2.1 ht.2.2.2.2.2.2.2.2.2.2.2.2 (by first | decide | omega) rfl (by omega) (gd DX6_numberOf_0 28 rfl) ?_
        rw [tR_i (by omega), rset_ne (show 10 ≠ 9 by omega)]
        refine g_aload_n C (gd DX6_numberOf_0 29 rfl) 0 rfl rfl ?_
        refine g_getr (ci := 6) (k := 2) C rfl (by decide) rfl lf_TestJudge_Table_19 ht.1 ht.2.2.1.1 (gd DX6_numberOf_0 30 rfl) ?_
        refine g_aload_n C (gd DX6_numberOf_0 31 rfl) 0 rfl rfl ?_
        refine g_geti (ci := 6) (k := 0) C rfl (by decide) rfl lf_TestJudge_Table_9 ht.1 (gd DX6_numberOf_0 32 rfl) ?_
        rw [tR_0, rset_ne (by omega), rset_ne (by omega), nb.1]
        refine g_iload_n C (gd DX6_numberOf_0 33 rfl) 2 rfl rfl ?_
        refine g_isj (j := RR.length) C ht.2.2.1.2.1 ht.2.2.1.2.2 (by first | decide | omega) rfl (by omega) (gd DX6_numberOf_0 34 rfl) ?_
        rw [tR_i (by omega), rset_ne (show 2 ≠ 10 by omega), rset_ne (show 2 ≠ 9 by omega)]
        refine g_aload_n C (gd DX6_numberOf_0 35 rfl) 0 rfl rfl ?_
        refine g_dup C (gd DX6_numberOf_0 36 rfl) rfl ?_
        refine g_geti (ci := 6) (k := 0) C rfl (by decide) rfl lf_TestJudge_Table_9 ht.1 (gd DX6_numberOf_0 37 rfl) ?_
        rw [tR_0, rset_ne (by omega), rset_ne (by omega), rset_ne (by omega), nb.1]
        refine g_iconst (v := 1) C (gd DX6_numberOf_0 38 rfl) (by decide) ?_
        refine g_iadd C (gd DX6_numberOf_0 39 rfl) ?_
        refine g_puti (ci := 6) (k := 0) C rfl (by decide) rfl lf_TestJudge_Table_9 ht.1 (Or.inl rfl) rfl (gd DX6_numberOf_0 40 rfl) ?_
        rw [show nI RR.length + 1 = nI (RR.length + 1) from nx_add (b := 1) rfl rfl, tR_i0, rset_ne (show 0 ≠ 2 by omega), rset_ne (show 0 ≠ 10 by omega), rset_ne (show 0 ≠ 9 by omega)]
        exact fin RR.length (c, f) (addρ ρ RR.length c f) (by rw [ea]; exact nb.add hc hm) (by rw [ea, List.getElem?_append_right (Nat.le_refl _)]; simp) rfl (fun a h0 h2 h9 h10 => addρ_o h0 h2 h9 h10) (fun k hk => addρ_0 hk)
end C20
