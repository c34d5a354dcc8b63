/-! Table: gatherReach -/
/-- rests of a table: where letters lead, -1 for nowhere -/
def tgV (Tg : Nat → Int32) (n : Nat) : Prop := n ≤ 125 ∧ ∀ e, e < 24 * n → Tg e = -1 ∨ ∃ j, j < n ∧ Tg e = nI j
/-- a string from rest k on, of d letters at most, ends with atom b -/
def tre (Tg EN : Nat → Int32) (b : Nat) : Nat → Nat → Prop
  | 0, k => hasB (EN k) (nI b)
  | d + 1, k => tre Tg EN b d k ∨ ∃ l j, l < 24 ∧ j < 125 ∧ Tg (24 * k + l) = nI j ∧ tre Tg EN b d j
def reP (Tg EN : Nat → Int32) (n : Nat) (RE : Nat → Int32) : Prop := ∀ k, k < n → ∀ b, b < 32 → (hasB (RE k) (nI b) ↔ ∃ d, tre Tg EN b d k)
def gAt (Tg RE : Nat → Int32) (k : Nat) : Nat → Int32
  | 0 => RE k
  | l + 1 => gAt Tg RE k l ||| (if Tg (24 * k + l) = -1 then 0 else RE (Tg (24 * k + l)).toNatClampNeg)
theorem gAt_has {Tg RE : Nat → Int32} {n k : Nat} (g : tgV Tg n) (hk : k < n) : ∀ l, l ≤ 24 → ∀ b, b < 32 → (hasB (gAt Tg RE k l) (nI b) ↔ hasB (RE k) (nI b) ∨ ∃ l' j, l' < l ∧ j < n ∧ Tg (24 * k + l') = nI j ∧ hasB (RE j) (nI b)) := by
  intro l
  induction l with
  | zero => intro _ b hb; exact ⟨fun x => Or.inl x, fun x => by rcases x with x | ⟨l', j, x, _⟩; exact x; omega⟩
  | succ l ih =>
    intro hl b hb
    have hn := g.1
    rw [gAt, hasB_or hb, ih (by omega) b hb]
    rcases g.2 (24 * k + l) (by omega) with e | ⟨j, hj, e⟩
    · rw [if_pos e]
      constructor
      · rintro ((x | ⟨l', j, x1, x2⟩) | x)
        · exact Or.inl x
        · exact Or.inr ⟨l', j, by omega, x2⟩
        · exact absurd x (hasB_0 hb)
      · rintro (x | ⟨l', j, x1, x2, x3, x4⟩)
        · exact Or.inl (Or.inl x)
        · by_cases e2 : l' = l
          · subst e2; rw [e] at x3; exact absurd x3.symm (nI_neg1 (by omega))
          · exact Or.inl (Or.inr ⟨l', j, by omega, x2, x3, x4⟩)
    · rw [e, if_neg (nI_neg1 (by omega)), nI_clamp (by omega)]
      constructor
      · rintro ((x | ⟨l', j', x1, x2⟩) | x)
        · exact Or.inl x
        · exact Or.inr ⟨l', j', by omega, x2⟩
        · exact Or.inr ⟨l, j, by omega, hj, e, x⟩
      · rintro (x | ⟨l', j', x1, x2, x3, x4⟩)
        · exact Or.inl (Or.inl x)
        · by_cases e2 : l' = l
          · subst e2
            rw [e] at x3
            have := (nI_eq (by omega) (by omega)).mp x3
            subst this
            exact Or.inr x4
          · exact Or.inl (Or.inr ⟨l', j', by omega, x2, x3, x4⟩)
theorem cntB_n (s : Int32) : ∀ n, cntB s n ≤ n
  | 0 => by simp [cntB]
  | n + 1 => by
    have := cntB_n s n
    unfold cntB
    split <;> omega
noncomputable def smB (RE : Nat → Int32) : Nat → Nat
  | 0 => 0
  | n + 1 => smB RE n + cntB (RE n) 8
theorem smB_le (RE : Nat → Int32) : ∀ n, smB RE n ≤ 8 * n
  | 0 => Nat.le_refl _
  | n + 1 => by have h1 := smB_le RE n; have h2 := cntB_n (RE n) 8; rw [smB]; omega
theorem smB_mono {RE RE' : Nat → Int32} : ∀ n, (∀ k, k < n → cntB (RE k) 8 ≤ cntB (RE' k) 8) → smB RE n ≤ smB RE' n
  | 0, _ => Nat.le_refl _
  | n + 1, h => by have h1 := smB_mono n (fun k hk => h k (by omega)); have h2 := h n (by omega); rw [smB, smB]; omega
theorem smB_lt {RE RE' : Nat → Int32} : ∀ n, (∀ k, k < n → cntB (RE k) 8 ≤ cntB (RE' k) 8) → (∃ k, k < n ∧ cntB (RE k) 8 < cntB (RE' k) 8) → smB RE n < smB RE' n
  | 0, _, ⟨k, hk, _⟩ => by omega
  | n + 1, h, ⟨k, hk, hlt⟩ => by
    rw [smB, smB]
    by_cases e : k = n
    · subst e
      have h1 := smB_mono k (fun j hj => h j (by omega))
      omega
    · have h1 := smB_lt n (fun j hj => h j (by omega)) ⟨k, by omega, hlt⟩
      have h2 := h n (by omega)
      omega
/-- bits below 8 alone -/
def lo8 (v : Int32) : Prop := ∀ b, 8 ≤ b → b < 32 → ¬ hasB v (nI b)
theorem lo8_grow {v v' : Int32} (hl : lo8 v') (hs : ∀ b, b < 32 → hasB v (nI b) → hasB v' (nI b)) (hne : ¬ v' = v) : cntB v 8 < cntB v' 8 := by
  have hle := cntB_le (s := v) (s' := v') (n0 := 8) (fun a ha => hs a (by omega)) 8 (Nat.le_refl _)
  rcases Nat.lt_or_ge (cntB v 8) (cntB v' 8) with x | x
  · exact x
  · exfalso
    have he := cntB_eq (s := v) (s' := v') (n0 := 8) (fun a ha => hs a (by omega)) 8 (Nat.le_refl _) x
    refine hne (hasB_ext fun b hb => ⟨fun q => ?_, fun q => hs b hb q⟩)
    by_cases e : b < 8
    · exact he b e q
    · exact absurd q (hl b (by omega) hb)
theorem tre_lt {Tg EN : Nat → Int32} {n b : Nat} (g : tgV Tg n) : ∀ d k, k < n → tre Tg EN b (d + 1) k → tre Tg EN b d k ∨ ∃ l j, l < 24 ∧ j < n ∧ Tg (24 * k + l) = nI j ∧ tre Tg EN b d j := by
  intro d k hk h
  rcases h with h | ⟨l, j, h1, h2, h3, h4⟩
  · exact Or.inl h
  · have hn := g.1
    rcases g.2 (24 * k + l) (by omega) with e | ⟨j', hj', e⟩
    · rw [e] at h3; exact absurd h3.symm (nI_neg1 (by omega))
    · rw [e] at h3
      have := (nI_eq (by omega) (by omega)).mp h3
      subst this
      exact Or.inr ⟨l, j', h1, hj', e, h4⟩
section C22
variable {w : gD} {t : Nat} {h : HS}
theorem e_t_has (ht : tSh t h) {ρ : Nat → Nat → Int32} (k : Int32) : EvF w 0 0 0 yX6_has cX6_has 2 (some .boolean) [.ref t, .int k] (tR t h ρ) (some (.int (b1 (¬ k < 0 ∧ ¬ ρ 0 0 ≤ k)))) (tR t h ρ) := by
  refine g_start (by decide) (Nat.le_of_ble_eq_true rfl) [(0, _), (1, _)] rfl (fun z hfl C => ?_)
  refine g_iload_n C (gd DX6_has_0 0 rfl) 1 rfl rfl ?_
  refine g_if_lt C 16 (gd DX6_has_0 1 rfl) (by decide) (fun c1 => ?_) (fun c1 => ?_)
  · refine g_iconst (v := 0) C (gd DX6_has_0 8 rfl) (by decide) ?_
    exact g_zret C (by decide) (by omega) (by omega) ⟨by rw [b1_f (fun x => x.1 c1)], rfl⟩ (gd DX6_has_0 9 rfl)
  · refine g_iload_n C (gd DX6_has_0 2 rfl) 1 rfl rfl ?_
    refine g_aload_n C (gd DX6_has_0 3 rfl) 0 rfl rfl ?_
    refine g_geti (ci := 6) (k := 0) C rfl (by decide) rfl lf_TestJudge_Table_9 ht.1 (gd DX6_has_0 4 rfl) ?_
    rw [tR_0]
    refine g_icmp_ge C 16 (gd DX6_has_0 5 rfl) (by decide) (fun c9 => ?_) (fun c9 => ?_)
    · refine g_iconst (v := 0) C (gd DX6_has_0 8 rfl) (by decide) ?_
      exact g_zret C (by decide) (by omega) (by omega) ⟨by rw [b1_f (fun x => x.2 c9)], rfl⟩ (gd DX6_has_0 9 rfl)
    · refine g_iconst (v := 1) C (gd DX6_has_0 6 rfl) (by decide) ?_
      refine g_goto (tgt := 17) C (gd DX6_has_0 7 rfl) (by decide) ?_
      exact g_zret C (by decide) (by omega) (by omega) ⟨by rw [b1_t ⟨c1, c9⟩], rfl⟩ (gd DX6_has_0 9 rfl)
theorem e_t_gatherReach (ht : tSh t h) {n : Nat} {ρ : Nat → Nat → Int32} (g : tgV (ρ 3) n) (h0 : ρ 0 0 = nI n) (he : ∀ k, k < n → lo8 (ρ 1 k)) : Ev w 1 0 0 yX6_gatherReach cX6_gatherReach 7 none [.ref t] (tR t h ρ) (fun r' h' => r' = none ∧ ∃ RE, h' = tR t h (rset ρ 4 RE) ∧ reP (ρ 3) (ρ 1) n RE ∧ ∀ k, k < n → lo8 (RE k)) := by
  refine g_start (by decide) (Nat.le_of_ble_eq_true rfl) [(0, _)] rfl (fun z hfl C => ?_)
  have hn := g.1
  have fin : ∀ RE lv, (∀ k, k < n → lo8 (RE k)) → (∀ k, k < n → ∀ b, b < 32 → hasB (RE k) (nI b) → ∃ d, tre (ρ 3) (ρ 1) b d k) → (∀ k, k < n → ∀ b, b < 32 → hasB (ρ 1 k) (nI b) → hasB (RE k) (nI b)) → (∀ k, k < n → gAt (ρ 3) RE k 24 = RE k) → GW z w 7 (gQ z w 0 0 (fun r' h'' => r' = none ∧ ∃ RE, h'' = tR t h (rset ρ 4 RE) ∧ reP (ρ 3) (ρ 1) n RE ∧ ∀ k, k < n → lo8 (RE k))) 0 0 147 lv [] (tR t h (rset ρ 4 RE)) := by
    intro RE lv h1 h2 h3 h4
    refine g_vret C (by omega) (by omega) ⟨rfl, RE, rfl, fun k hk b hb => ⟨h2 k hk b hb, fun ⟨d, hd⟩ => ?_⟩, h1⟩ (gd DX6_gatherReach_1 22 rfl)
    have key : ∀ d k, k < n → tre (ρ 3) (ρ 1) b d k → hasB (RE k) (nI b) := by
      intro d
      induction d with
      | zero => intro k hk hd; exact h3 k hk b hb hd
      | succ d ih =>
        intro k hk hd
        rcases tre_lt g d k hk hd with x | ⟨l, j, x1, x2, x3, x4⟩
        · exact ih k hk x
        · rw [← h4 k hk]
          exact (gAt_has g hk 24 (Nat.le_refl _) b hb).mpr (Or.inr ⟨l, j, x1, x2, x3, ih j x2 x4⟩)
    exact key d k hk hd
  have round : ∀ y r RE mo v3, r + y = 1001 → (∀ k, k < n → lo8 (RE k)) → (∀ k, k < n → ∀ b, b < 32 → hasB (RE k) (nI b) → ∃ d, tre (ρ 3) (ρ 1) b d k) → (∀ k, k < n → ∀ b, b < 32 → hasB (ρ 1 k) (nI b) → hasB (RE k) (nI b)) → (mo = 0 ∧ (∀ k, k < n → gAt (ρ 3) RE k 24 = RE k) ∨ mo = 1 ∧ r ≤ smB RE n) → GW z w 7 (gQ z w 0 0 (fun r' h'' => r' = none ∧ ∃ RE, h'' = tR t h (rset ρ 4 RE) ∧ reP (ρ 3) (ρ 1) n RE ∧ ∀ k, k < n → lo8 (RE k))) 0 0 21 ([(0, .ref t), (1, .int mo), (2, .int (nI r))] ++ v3) [] (tR t h (rset ρ 4 RE)) := by
    intro y
    induction y with
    | zero =>
      intro r RE mo v3 hr h1 h2 h3 h4
      have hs := smB_le RE n
      rcases h4 with ⟨m0, h4⟩ | ⟨_, m1⟩
      · refine GW.sub [0, 1, 2] rfl (Nat.le_refl _) (Nat.le_refl _) (lv' := [(0, _), (1, _), (2, _)]) ?_
        refine g_iload_n C (gd DX6_gatherReach_0 13 rfl) 2 rfl rfl ?_
        refine g_sipush (v := 1000) C (gd DX6_gatherReach_0 14 rfl) (by decide) ?_
        refine g_icmp_gt C 147 (gd DX6_gatherReach_0 15 rfl) (by decide) (fun c25 => ?_) (fun c25 => ?_)
        · exact fin RE _ h1 h2 h3 h4
        · refine g_iload_n C (gd DX6_gatherReach_0 16 rfl) 1 rfl rfl ?_
          refine g_if_eq C 147 (gd DX6_gatherReach_0 17 rfl) (by decide) (fun c29 => ?_) (fun c29 => ?_)
          · exact fin RE _ h1 h2 h3 h4
          · exact absurd m0 c29
      · omega
    | succ y ih =>
      intro r RE mo v3 hr h1 h2 h3 h4
      refine GW.sub [0, 1, 2] rfl (Nat.le_refl _) (Nat.le_refl _) (lv' := [(0, _), (1, _), (2, _)]) ?_
      refine g_iload_n C (gd DX6_gatherReach_0 13 rfl) 2 rfl rfl ?_
      refine g_sipush (v := 1000) C (gd DX6_gatherReach_0 14 rfl) (by decide) ?_
      refine g_icmp_gt C 147 (gd DX6_gatherReach_0 15 rfl) (by decide) (fun c25 => ?_) (fun c25 => ?_)
      · exact absurd c25 (fun x => by have := Int32.lt_iff_toInt_lt.mp x; rw [nI_toInt (by omega), show (1000 : Int32).toInt = 1000 from rfl] at this; omega)
      · refine g_iload_n C (gd DX6_gatherReach_0 16 rfl) 1 rfl rfl ?_
        refine g_if_eq C 147 (gd DX6_gatherReach_0 17 rfl) (by decide) (fun c29 => ?_) (fun c29 => ?_)
        · rcases h4 with ⟨m0, h4⟩ | ⟨m1, _⟩
          · exact fin RE _ h1 h2 h3 h4
          · rw [m1] at c29; exact absurd c29 (by decide)
        · have hr2 : r ≤ smB RE n := by
            rcases h4 with ⟨m0, _⟩ | ⟨_, h4⟩
            · exact absurd m0 c29
            · exact h4
          have inner : ∀ x RE' mo' v4, x ≤ n → (∀ k, k < n → lo8 (RE' k)) → (∀ k, k < n → ∀ b, b < 32 → hasB (RE' k) (nI b) → ∃ d, tre (ρ 3) (ρ 1) b d k) → (∀ k, k < n → ∀ b, b < 32 → hasB (RE k) (nI b) → hasB (RE' k) (nI b)) → (mo' = 0 ∧ RE' = RE ∧ (∀ k, x ≤ k → k < n → gAt (ρ 3) RE k 24 = RE k) ∨ mo' = 1 ∧ smB RE n < smB RE' n) → GW z w 7 (gQ z w 0 0 (fun r' h'' => r' = none ∧ ∃ RE, h'' = tR t h (rset ρ 4 RE) ∧ reP (ρ 3) (ρ 1) n RE ∧ ∀ k, k < n → lo8 (RE k))) 0 0 41 ([(0, .ref t), (1, .int mo'), (2, .int (nI r)), (3, .int (nI x - 1))] ++ v4) [] (tR t h (rset ρ 4 RE')) := by
            intro x
            induction x with
            | zero =>
              intro RE' mo' v4 hx a1 a2 a3 a4
              refine GW.sub [0, 1, 2, 3] rfl (Nat.le_refl _) (Nat.le_refl _) (lv' := [(0, _), (1, _), (2, _), (3, _)]) ?_
              refine g_iload_n C (gd DX6_gatherReach_0 25 rfl) 3 rfl rfl ?_
              refine g_if_lt C 141 (gd DX6_gatherReach_0 26 rfl) (by decide) (fun c42 => ?_) (fun c42 => ?_)
              · refine g_iinc (lv' := [(0, _), (1, _), (2, _), (3, _)]) C (gd DX6_gatherReach_1 20 rfl) 2 [1, 2, 0, 3] rfl rfl (by decide) rfl ?_
                refine g_goto (tgt := 21) C (gd DX6_gatherReach_1 21 rfl) (by decide) ?_
                refine GW.sub [0, 1, 2] rfl (Nat.le_refl _) (Nat.le_refl _) (lv' := [(0, _), (1, _), (2, _)]) ?_
                refine GW.cast (by rw [inc1]; rfl) rfl rfl (ih (r + 1) RE' mo' [] (by omega) a1 a2 (fun k hk b hb q => a3 k hk b hb (h3 k hk b hb q)) ?_)
                rcases a4 with ⟨b1, b2, b3⟩ | ⟨b1, b2⟩
                · exact Or.inl ⟨b1, fun k hk => by rw [b2]; exact b3 k (by omega) hk⟩
                · exact Or.inr ⟨b1, by omega⟩
              · exact absurd (by decide) c42
            | succ x ihx =>
              intro RE' mo' v4 hx a1 a2 a3 a4
              refine GW.sub [0, 1, 2, 3] rfl (Nat.le_refl _) (Nat.le_refl _) (lv' := [(0, _), (1, _), (2, _), (3, _)]) ?_
              rw [show nI (x + 1) - 1 = nI x from nx_sub (b := 1) rfl rfl (by omega)]
              have hxn : x < n := by omega
              have letters : ∀ u l v6, l + u = 24 → GW z w 7 (gQ z w 0 0 (fun r' h'' => r' = none ∧ ∃ RE, h'' = tR t h (rset ρ 4 RE) ∧ reP (ρ 3) (ρ 1) n RE ∧ ∀ k, k < n → lo8 (RE k))) 0 0 56 ([(0, .ref t), (1, .int mo'), (2, .int (nI r)), (3, .int (nI x)), (4, .int (gAt (ρ 3) RE' x l)), (5, .int (nI l))] ++ v6) [] (tR t h (rset ρ 4 RE')) := by
                intro u
                induction u with
                | zero =>
                  intro l v6 hl
                  have el : l = 24 := by omega
                  subst el
                  refine GW.sub [0, 1, 2, 3, 4, 5] rfl (Nat.le_refl _) (Nat.le_refl _) (lv' := [(0, _), (1, _), (2, _), (3, _), (4, _), (5, _)]) ?_
                  generalize hA : gAt (ρ 3) RE' x 24 = A
                  have hAb : ∀ b, b < 32 → (hasB A (nI b) ↔ hasB (RE' x) (nI b) ∨ ∃ l' j, l' < 24 ∧ j < n ∧ ρ 3 (24 * x + l') = nI j ∧ hasB (RE' j) (nI b)) := fun b hb => by rw [← hA]; exact gAt_has g hxn 24 (Nat.le_refl _) b hb
                  have k121 : ∀ v, (v = 0 ∧ A = RE' x ∨ v = 1 ∧ ¬ A = RE' x) → GW z w 7 (gQ z w 0 0 (fun r' h'' => r' = none ∧ ∃ RE, h'' = tR t h (rset ρ 4 RE) ∧ reP (ρ 3) (ρ 1) n RE ∧ ∀ k, k < n → lo8 (RE k))) 0 0 125 [(0, .ref t), (1, .int mo'), (2, .int (nI r)), (3, .int (nI x)), (4, .int A), (5, .int (nI 24))] [.int v, .int mo'] (tR t h (rset ρ 4 RE')) := by
                    intro v hv
                    refine g_ior C (gd DX6_gatherReach_1 11 rfl) ?_
                    refine g_istore_n (lv' := [(0, _), (1, _), (2, _), (3, _), (4, _), (5, _)]) C (gd DX6_gatherReach_1 12 rfl) [1, 0, 2, 3, 4, 5] rfl (by decide) rfl ?_
                    refine g_aload_n C (gd DX6_gatherReach_1 13 rfl) 0 rfl rfl ?_
                    refine g_getr (ci := 6) (k := 4) C rfl (by decide) rfl lf_TestJudge_Table_25 ht.1 ht.2.2.2.2.1.1 (gd DX6_gatherReach_1 14 rfl) ?_
                    refine g_iload_n C (gd DX6_gatherReach_1 15 rfl) 3 rfl rfl ?_
                    refine g_iload C (gd DX6_gatherReach_1 16 rfl) 4 rfl ?_
                    refine g_isj (j := x) C ht.2.2.2.2.1.2.1 ht.2.2.2.2.1.2.2 (by first | decide | omega) rfl (by omega) (gd DX6_gatherReach_1 17 rfl) ?_
                    rw [tR_i (by omega), rset_eq, rset_rset]
                    refine g_iinc (lv' := [(0, _), (1, _), (2, _), (3, _), (4, _), (5, _)]) C (gd DX6_gatherReach_1 18 rfl) 3 [1, 2, 3, 0, 4, 5] rfl rfl (by decide) rfl ?_
                    refine g_goto (tgt := 41) C (gd DX6_gatherReach_1 19 rfl) (by decide) ?_
                    refine GW.sub [0, 1, 2, 3] rfl (Nat.le_refl _) (Nat.le_refl _) (lv' := [(0, _), (1, _), (2, _), (3, _)]) ?_
                    have lA : lo8 A := fun b b1 b2 q => by
                      rcases (hAb b b2).mp q with u | ⟨l', j, _, j1, _, u⟩
                      · exact a1 x hxn b b1 b2 u
                      · exact a1 j j1 b b1 b2 u
                    have up : ∀ k, k < n → ∀ b, b < 32 → hasB (RE' k) (nI b) → hasB (upd RE' x A k) (nI b) := by
                      intro k hk b hb q
                      unfold upd
                      split
                      · rename_i e; rw [e] at q; exact (hAb b hb).mpr (Or.inl q)
                      · exact q
                    refine GW.cast (by rw [show nI x + Int32.ofInt (-1) = nI x - 1 from by rw [Int32.sub_eq_add_neg]; rfl]; rfl) rfl rfl (ihx (upd RE' x A) (mo' ||| v) [] (by omega) ?_ ?_ (fun k hk b hb q => up k hk b hb (a3 k hk b hb q)) ?_)
                    · intro k hk
                      unfold upd
                      split
                      · exact lA
                      · exact a1 k hk
                    · intro k hk b hb q
                      unfold upd at q
                      split at q
                      · rename_i e
                        subst e
                        rcases (hAb b hb).mp q with u | ⟨l', j, u1, u2, u3, u4⟩
                        · exact a2 k hk b hb u
                        · obtain ⟨d, hd⟩ := a2 j u2 b hb u4
                          exact ⟨d + 1, Or.inr ⟨l', j, u1, by omega, u3, hd⟩⟩
                      · exact a2 k hk b hb q
                    · rcases hv with ⟨v0, e⟩ | ⟨v1, e⟩
                      · have es : upd RE' x A = RE' := by
                          funext k
                          unfold upd
                          split
                          · rename_i e2; rw [e2, e]
                          · rfl
                        rw [es]
                        rcases a4 with ⟨b1, b2, b3⟩ | ⟨b1, b2⟩
                        · refine Or.inl ⟨by rw [b1, v0]; rfl, b2, fun k k1 k2 => ?_⟩
                          by_cases ek : k = x
                          · subst ek; rw [b2] at hA e; rw [hA, e]
                          · exact b3 k (by omega) k2
                        · exact Or.inr ⟨by rw [b1, v0]; rfl, b2⟩
                      · have hlt : smB RE' n < smB (upd RE' x A) n := smB_lt n (fun k hk => cntB_le (n0 := 8) (fun a ha => up k hk a (by omega)) 8 (Nat.le_refl _)) ⟨x, hxn, by rw [upd, if_pos rfl]; exact lo8_grow lA (fun b hb q => (hAb b hb).mpr (Or.inl q)) e⟩
                        rcases a4 with ⟨b1, b2, b3⟩ | ⟨b1, b2⟩
                        · rw [b2] at hlt ⊢
                          exact Or.inr ⟨by rw [b1, v1]; rfl, hlt⟩
                        · exact Or.inr ⟨by rw [b1, v1]; rfl, by omega⟩
                  refine g_iload C (gd DX6_gatherReach_0 34 rfl) 5 rfl ?_
                  refine g_bipush (v := 24) C (gd DX6_gatherReach_0 35 rfl) (by decide) ?_
                  refine g_icmp_ge C 108 (gd DX6_gatherReach_0 36 rfl) (by decide) (fun c60 => ?_) (fun c60 => ?_)
                  · refine GW.sub [0, 1, 2, 3, 4, 5] rfl (Nat.le_refl _) (Nat.le_refl _) (lv' := [(0, _), (1, _), (2, _), (3, _), (4, _), (5, _)]) ?_
                    refine g_iload_n C (gd DX6_gatherReach_1 1 rfl) 1 rfl rfl ?_
                    refine g_iload C (gd DX6_gatherReach_1 2 rfl) 4 rfl ?_
                    refine g_aload_n C (gd DX6_gatherReach_1 3 rfl) 0 rfl rfl ?_
                    refine g_getr (ci := 6) (k := 4) C rfl (by decide) rfl lf_TestJudge_Table_25 ht.1 ht.2.2.2.2.1.1 (gd DX6_gatherReach_1 4 rfl) ?_
                    refine g_iload_n C (gd DX6_gatherReach_1 5 rfl) 3 rfl rfl ?_
                    refine g_iaj (j := x) C ht.2.2.2.2.1.2.1 ht.2.2.2.2.1.2.2 (by first | decide | omega) rfl (by omega) (gd DX6_gatherReach_1 6 rfl) ?_
                    rw [tR_at (by omega), rset_eq]
                    refine g_icmp_eq C 124 (gd DX6_gatherReach_1 7 rfl) (by decide) (fun c117 => ?_) (fun c117 => ?_)
                    · refine g_iconst (v := 0) C (gd DX6_gatherReach_1 10 rfl) (by decide) ?_
                      exact k121 _ (Or.inl ⟨rfl, c117⟩)
                    · refine g_iconst (v := 1) C (gd DX6_gatherReach_1 8 rfl) (by decide) ?_
                      refine g_goto (tgt := 125) C (gd DX6_gatherReach_1 9 rfl) (by decide) ?_
                      exact k121 _ (Or.inr ⟨rfl, c117⟩)
                  · exact absurd (nI_le (a := 24) (b := 24) (by omega) (by omega)) c60
                | succ u ihu =>
                  intro l v6 hl
                  refine GW.sub [0, 1, 2, 3, 4, 5] rfl (Nat.le_refl _) (Nat.le_refl _) (lv' := [(0, _), (1, _), (2, _), (3, _), (4, _), (5, _)]) ?_
                  have nx : ∀ v6 v, v = (if ρ 3 (24 * x + l) = -1 then 0 else RE' (ρ 3 (24 * x + l)).toNatClampNeg) → GW z w 7 (gQ z w 0 0 (fun r' h'' => r' = none ∧ ∃ RE, h'' = tR t h (rset ρ 4 RE) ∧ reP (ρ 3) (ρ 1) n RE ∧ ∀ k, k < n → lo8 (RE k))) 0 0 99 [(0, .ref t), (1, .int mo'), (2, .int (nI r)), (3, .int (nI x)), (4, .int (gAt (ρ 3) RE' x l)), (5, .int (nI l)), (6, .int v6)] [.int v, .int (gAt (ρ 3) RE' x l)] (tR t h (rset ρ 4 RE')) := by
                    intro v6 v hv
                    refine g_ior C (gd DX6_gatherReach_0 57 rfl) ?_
                    refine g_istore (lv' := [(0, _), (1, _), (2, _), (3, _), (4, _), (5, _), (6, _)]) C (gd DX6_gatherReach_0 58 rfl) [1, 2, 3, 4, 0, 5, 6] (by decide) rfl ?_
                    refine g_iinc (lv' := [(0, _), (1, _), (2, _), (3, _), (4, _), (5, _), (6, _)]) C (gd DX6_gatherReach_0 59 rfl) 5 [1, 2, 3, 4, 5, 0, 6] rfl rfl (by decide) rfl ?_
                    refine g_goto (tgt := 56) C (gd DX6_gatherReach_1 0 rfl) (by decide) ?_
                    refine GW.sub [0, 1, 2, 3, 4, 5] rfl (Nat.le_refl _) (Nat.le_refl _) (lv' := [(0, _), (1, _), (2, _), (3, _), (4, _), (5, _)]) ?_
                    exact GW.cast (by rw [inc1, hv]; rfl) rfl rfl (ihu (l + 1) [] (by omega))
                  refine g_iload C (gd DX6_gatherReach_0 34 rfl) 5 rfl ?_
                  refine g_bipush (v := 24) C (gd DX6_gatherReach_0 35 rfl) (by decide) ?_
                  refine g_icmp_ge C 108 (gd DX6_gatherReach_0 36 rfl) (by decide) (fun c60 => ?_) (fun c60 => ?_)
                  · exact absurd c60 (nI_ge (a := l) (b := 24) (by omega) (by omega))
                  · refine g_aload_n C (gd DX6_gatherReach_0 37 rfl) 0 rfl rfl ?_
                    refine g_getr (ci := 6) (k := 3) C rfl (by decide) rfl lf_TestJudge_Table_22 ht.1 ht.2.2.2.1.1 (gd DX6_gatherReach_0 38 rfl) ?_
                    refine g_iload_n C (gd DX6_gatherReach_0 39 rfl) 3 rfl rfl ?_
                    refine g_bipush (v := 24) C (gd DX6_gatherReach_0 40 rfl) (by decide) ?_
                    refine g_imul C (gd DX6_gatherReach_0 41 rfl) ?_
                    refine g_iload C (gd DX6_gatherReach_0 42 rfl) 5 rfl ?_
                    refine g_iadd C (gd DX6_gatherReach_0 43 rfl) ?_
                    refine g_iaj (j := 24 * x + l) C ht.2.2.2.1.2.1 ht.2.2.2.1.2.2 (by first | decide | omega) (i24 x l) (by omega) (gd DX6_gatherReach_0 44 rfl) ?_
                    rw [tR_at (by omega), rset_ne (by omega)]
                    rcases g.2 (24 * x + l) (by omega) with e | ⟨j, hj, e⟩
                    · rw [e]
                      refine g_istore (lv' := [(0, _), (1, _), (2, _), (3, _), (4, _), (5, _), (6, _)]) C (gd DX6_gatherReach_0 45 rfl) [1, 2, 3, 4, 5, 6, 0] (by decide) rfl ?_
                      refine g_iload C (gd DX6_gatherReach_0 46 rfl) 4 rfl ?_
                      refine g_aload_n C (gd DX6_gatherReach_0 47 rfl) 0 rfl rfl ?_
                      refine g_iload C (gd DX6_gatherReach_0 48 rfl) 6 rfl ?_
                      refine g_cV1 (ci := 6) C [_] mX6_has lm_TestJudge_Table_126 (by exact ht.1) rfl rfl (e_t_has ht (ρ := rset ρ 4 RE') _) hfl (by first | decide | omega) (by decide) (by omega) (by omega) rfl rfl (Nat.le_of_ble_eq_true rfl) (gd DX6_gatherReach_0 49 rfl) ?_
                      rw [b1_f (fun q => q.1 (by decide))]
                      refine g_if_eq C 98 (gd DX6_gatherReach_0 50 rfl) (by decide) (fun c85 => ?_) (fun c85 => ?_)
                      · refine g_iconst (v := 0) C (gd DX6_gatherReach_0 56 rfl) (by decide) ?_
                        exact nx _ _ (by rw [if_pos e])
                      · exact absurd rfl c85
                    · rw [e]
                      refine g_istore (lv' := [(0, _), (1, _), (2, _), (3, _), (4, _), (5, _), (6, _)]) C (gd DX6_gatherReach_0 45 rfl) [1, 2, 3, 4, 5, 6, 0] (by decide) rfl ?_
                      refine g_iload C (gd DX6_gatherReach_0 46 rfl) 4 rfl ?_
                      refine g_aload_n C (gd DX6_gatherReach_0 47 rfl) 0 rfl rfl ?_
                      refine g_iload C (gd DX6_gatherReach_0 48 rfl) 6 rfl ?_
                      refine g_cV1 (ci := 6) C [_] mX6_has lm_TestJudge_Table_126 (by exact ht.1) rfl rfl (e_t_has ht (ρ := rset ρ 4 RE') _) hfl (by first | decide | omega) (by decide) (by omega) (by omega) rfl rfl (Nat.le_of_ble_eq_true rfl) (gd DX6_gatherReach_0 49 rfl) ?_
                      rw [b1_t ⟨nI_nn (by omega), by rw [rset_ne (by omega), h0]; exact nI_ge hj (by omega)⟩]
                      refine g_if_eq C 98 (gd DX6_gatherReach_0 50 rfl) (by decide) (fun c85 => ?_) (fun c85 => ?_)
                      · exact absurd c85 (by decide)
                      · refine g_aload_n C (gd DX6_gatherReach_0 51 rfl) 0 rfl rfl ?_
                        refine g_getr (ci := 6) (k := 4) C rfl (by decide) rfl lf_TestJudge_Table_25 ht.1 ht.2.2.2.2.1.1 (gd DX6_gatherReach_0 52 rfl) ?_
                        refine g_iload C (gd DX6_gatherReach_0 53 rfl) 6 rfl ?_
                        refine g_iaj (j := j) C ht.2.2.2.2.1.2.1 ht.2.2.2.2.1.2.2 (by first | decide | omega) rfl (by omega) (gd DX6_gatherReach_0 54 rfl) ?_
                        refine g_goto (tgt := 99) C (gd DX6_gatherReach_0 55 rfl) (by decide) ?_
                        rw [tR_at (by omega), rset_eq]
                        exact nx _ _ (by rw [e, if_neg (nI_neg1 (by omega)), nI_clamp (by omega)])
              refine g_iload_n C (gd DX6_gatherReach_0 25 rfl) 3 rfl rfl ?_
              refine g_if_lt C 141 (gd DX6_gatherReach_0 26 rfl) (by decide) (fun c42 => ?_) (fun c42 => ?_)
              · exact absurd c42 (nI_nn (by omega))
              · refine g_aload_n C (gd DX6_gatherReach_0 27 rfl) 0 rfl rfl ?_
                refine g_getr (ci := 6) (k := 4) C rfl (by decide) rfl lf_TestJudge_Table_25 ht.1 ht.2.2.2.2.1.1 (gd DX6_gatherReach_0 28 rfl) ?_
                refine g_iload_n C (gd DX6_gatherReach_0 29 rfl) 3 rfl rfl ?_
                refine g_iaj (j := x) C ht.2.2.2.2.1.2.1 ht.2.2.2.2.1.2.2 (by first | decide | omega) rfl (by omega) (gd DX6_gatherReach_0 30 rfl) ?_
                rw [tR_at (by omega), rset_eq]
                refine g_istore (lv' := [(0, _), (1, _), (2, _), (3, _), (4, _)]) C (gd DX6_gatherReach_0 31 rfl) [1, 2, 3, 4, 0] (by decide) rfl ?_
                refine g_iconst (v := 0) C (gd DX6_gatherReach_0 32 rfl) (by decide) ?_
                refine g_istore (lv' := [(0, _), (1, _), (2, _), (3, _), (4, _), (5, _)]) C (gd DX6_gatherReach_0 33 rfl) [1, 2, 3, 4, 5, 0] (by decide) rfl ?_
                exact letters 24 0 [] rfl
          refine g_iconst (v := 0) C (gd DX6_gatherReach_0 18 rfl) (by decide) ?_
          refine g_istore_n (lv' := [(0, _), (1, _), (2, _)]) C (gd DX6_gatherReach_0 19 rfl) [1, 0, 2] rfl (by decide) rfl ?_
          refine g_aload_n C (gd DX6_gatherReach_0 20 rfl) 0 rfl rfl ?_
          refine g_geti (ci := 6) (k := 0) C rfl (by decide) rfl lf_TestJudge_Table_9 ht.1 (gd DX6_gatherReach_0 21 rfl) ?_
          rw [tR_0, rset_ne (by omega), h0]
          refine g_iconst (v := 1) C (gd DX6_gatherReach_0 22 rfl) (by decide) ?_
          refine g_isub C (gd DX6_gatherReach_0 23 rfl) ?_
          refine g_istore_n (lv' := [(0, _), (1, _), (2, _), (3, _)]) C (gd DX6_gatherReach_0 24 rfl) [1, 2, 3, 0] rfl (by decide) rfl ?_
          exact inner n RE 0 [] (Nat.le_refl _) h1 h2 (fun _ _ _ _ q => q) (Or.inl ⟨rfl, rfl, fun k k1 k2 => by omega⟩)
  refine g_aload_n C (gd DX6_gatherReach_0 0 rfl) 0 rfl rfl ?_
  refine g_getr (ci := 6) (k := 1) C rfl (by decide) rfl lf_TestJudge_Table_15 ht.1 ht.2.1.1 (gd DX6_gatherReach_0 1 rfl) ?_
  refine g_iconst (v := 0) C (gd DX6_gatherReach_0 2 rfl) (by decide) ?_
  refine g_aload_n C (gd DX6_gatherReach_0 3 rfl) 0 rfl rfl ?_
  refine g_getr (ci := 6) (k := 4) C rfl (by decide) rfl lf_TestJudge_Table_25 ht.1 ht.2.2.2.2.1.1 (gd DX6_gatherReach_0 4 rfl) ?_
  refine g_iconst (v := 0) C (gd DX6_gatherReach_0 5 rfl) (by decide) ?_
  refine g_aload_n C (gd DX6_gatherReach_0 6 rfl) 0 rfl rfl ?_
  refine g_geti (ci := 6) (k := 0) C rfl (by decide) rfl lf_TestJudge_Table_9 ht.1 (gd DX6_gatherReach_0 7 rfl) ?_
  rw [tR_0, h0]
  refine g_copy0 (m := n) C lm_TestJudge_Table_107 ht.2.1.2.1 ht.2.2.2.2.1.2.1 (by rw [show hN (tR t h ρ) (t + 1) = 125 from ht.2.1.2.2]; exact hn) (by rw [show hN (tR t h ρ) (t + 4) = 125 from ht.2.2.2.2.1.2.2]; exact hn) (by omega) (by omega) rfl (gd DX6_gatherReach_0 8 rfl) ?_
  rw [tR_at (by omega), tR_at (by omega), tR_f (by omega)]
  refine g_iconst (v := 1) C (gd DX6_gatherReach_0 9 rfl) (by decide) ?_
  refine g_istore_n (lv' := [(0, _), (1, _)]) C (gd DX6_gatherReach_0 10 rfl) [1, 0] rfl (by decide) rfl ?_
  refine g_iconst (v := 0) C (gd DX6_gatherReach_0 11 rfl) (by decide) ?_
  refine g_istore_n (lv' := [(0, _), (1, _), (2, _)]) C (gd DX6_gatherReach_0 12 rfl) [1, 2, 0] rfl (by decide) rfl ?_
  refine GW.cast rfl rfl rfl (round 1001 0 _ 1 [] rfl (fun k hk => ?_) (fun k hk b hb q => ⟨0, ?_⟩) (fun k hk b hb q => ?_) (Or.inr ⟨rfl, by omega⟩))
  · show lo8 (if k < n then ρ 1 k else ρ 4 k)
    rw [if_pos hk]; exact he k hk
  · have q : hasB (if k < n then ρ 1 k else ρ 4 k) (nI b) := q
    rw [if_pos hk] at q; exact q
  · show hasB (if k < n then ρ 1 k else ρ 4 k) (nI b)
    rw [if_pos hk]; exact q
end C22
