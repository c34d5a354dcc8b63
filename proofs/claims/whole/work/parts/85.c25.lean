/-! Table: longest -/
/-- a walk of d letters from the first rest to rest k -/
def wkT (Tg : Nat → Int32) : Nat → Nat → Prop
  | 0, k => k = 0
  | d + 1, k => k < 125 ∧ ∃ j l, l < 24 ∧ wkT Tg d j ∧ Tg (24 * j + l) = nI k
section WK
variable {Tg : Nat → Int32} {n : Nat}
theorem wkT.lt (g : tgV Tg n) (hn : 0 < n) : ∀ d k, wkT Tg d k → k < n := by
  intro d
  induction d with
  | zero => intro k h; rw [show k = 0 from h]; exact hn
  | succ d ih =>
    intro k h
    obtain ⟨h1, j, l, h2, h3, h4⟩ := h
    have hj := ih j h3
    have := g.1
    rcases g.2 (24 * j + l) (by omega) with e | ⟨j', hj', e⟩
    · rw [e] at h4; exact absurd h4.symm (nI_neg1 (by omega))
    · rw [e] at h4
      have := (nI_eq (by omega) (by omega)).mp h4
      omega
theorem wkT.pre : ∀ x d k, wkT Tg (d + x) k → ∃ j, wkT Tg d j := by
  intro x
  induction x with
  | zero => intro d k h; exact ⟨k, h⟩
  | succ x ih => intro d k h; obtain ⟨_, j, l, _, h3, _⟩ := h; exact ih d j h3
theorem wkT.path : ∀ d k, wkT Tg d k → ∃ p : Nat → Nat, p 0 = 0 ∧ p d = k ∧ ∀ i, i < d → p (i + 1) < 125 ∧ ∃ l, l < 24 ∧ Tg (24 * p i + l) = nI (p (i + 1)) := by
  intro d
  induction d with
  | zero => intro k h; exact ⟨fun _ => 0, rfl, (show k = 0 from h).symm, fun i hi => by omega⟩
  | succ d ih =>
    intro k h
    obtain ⟨h1, j, l, h2, h3, h4⟩ := h
    obtain ⟨p, p0, pd, pp⟩ := ih j h3
    refine ⟨fun i => if i ≤ d then p i else k, (show (if 0 ≤ d then p 0 else k) = 0 by rw [if_pos (by omega)]; exact p0), (show (if d + 1 ≤ d then p (d + 1) else k) = k from if_neg (by omega)), fun i hi => ?_⟩
    by_cases e : i = d
    · subst e
      show (if i + 1 ≤ i then p (i + 1) else k) < 125 ∧ ∃ l, l < 24 ∧ Tg (24 * (if i ≤ i then p i else k) + l) = nI (if i + 1 ≤ i then p (i + 1) else k)
      rw [if_neg (by omega), if_pos (Nat.le_refl _), pd]
      exact ⟨h1, l, h2, h4⟩
    · show (if i + 1 ≤ d then p (i + 1) else k) < 125 ∧ ∃ l, l < 24 ∧ Tg (24 * (if i ≤ d then p i else k) + l) = nI (if i + 1 ≤ d then p (i + 1) else k)
      rw [if_pos (by omega), if_pos (by omega)]
      exact pp i (by omega)
theorem wkT.of {p : Nat → Nat} (p0 : p 0 = 0) : ∀ d, (∀ i, i < d → p (i + 1) < 125 ∧ ∃ l, l < 24 ∧ Tg (24 * p i + l) = nI (p (i + 1))) → wkT Tg d (p d) := by
  intro d
  induction d with
  | zero => intro _; exact p0
  | succ d ih =>
    intro h
    obtain ⟨h1, l, h2, h3⟩ := h d (by omega)
    exact ⟨h1, p d, l, h2, ih (fun i hi => h i (by omega)), h3⟩
/-- a walk with as many letters as there are rests goes round -/
theorem wkT.round (g : tgV Tg n) (hn : 0 < n) {d k : Nat} (h : wkT Tg d k) (hd : n ≤ d) : ∀ B, ∃ k, wkT Tg B k := by
  obtain ⟨p, p0, pd, pp⟩ := wkT.path d k h
  have hlt : ∀ i, i ≤ d → p i < n := fun i hi => wkT.lt g hn i _ (wkT.of p0 i (fun j hj => pp j (by omega)))
  have hex : ∃ i j, i < j ∧ j ≤ n ∧ p i = p j := by
    rcases Classical.em (∃ i j, i < j ∧ j ≤ n ∧ p i = p j) with x | x
    · exact x
    · exfalso
      have := pigeon p (n + 1) n (fun i hi => hlt i (by omega)) (fun i j hi hj e => by
        rcases Nat.lt_trichotomy i j with y | y | y
        · exact absurd ⟨i, j, y, by omega, e⟩ x
        · exact y
        · exact absurd ⟨j, i, y, by omega, e.symm⟩ x)
      omega
  obtain ⟨i, j, hij, hjn, e⟩ := hex
  have hq : ∀ t, ∃ s, s < j ∧ (t < i → s = t) ∧ wkT Tg t (p s) := by
    intro t
    induction t with
    | zero => exact ⟨0, by omega, fun _ => rfl, p0⟩
    | succ t ih =>
      obtain ⟨s, s1, s2, s3⟩ := ih
      obtain ⟨h1, l, h2, h3⟩ := pp s (by omega)
      by_cases es : s + 1 = j
      · refine ⟨i, hij, fun x => ?_, ?_⟩
        · have := s2 (by omega); omega
        · rw [e, ← es]
          exact ⟨h1, p s, l, h2, s3, h3⟩
      · exact ⟨s + 1, by omega, fun x => by rw [s2 (by omega)], h1, p s, l, h2, s3, h3⟩
  intro B
  obtain ⟨s, _, _, s3⟩ := hq B
  exact ⟨_, s3⟩
end WK
section C25
variable {w : gD} {t : Nat} {h : HS}
theorem e_t_longest (ht : tSh t h) {n : Nat} {ρ : Nat → Nat → Int32} (o : tbN n ρ) (hdp : ∀ k, k < n → ∃ d, ρ 2 k = nI d ∧ d < n ∧ wkT (ρ 3) d k) : Ev w 1 0 0 yX6_longest cX6_longest 6 (some .int) [.ref t] (tR t h ρ) (fun r' h' => (∃ FN, h' = tR t h (rset ρ 8 FN)) ∧ ((r' = some (.int (-1)) ∧ (n = 0 ∨ ∀ B, ∃ k, wkT (ρ 3) B k)) ∨ (0 < n ∧ ∃ M, r' = some (.int (nI M)) ∧ (∃ k, wkT (ρ 3) M k) ∧ ∀ d k, wkT (ρ 3) d k → d ≤ M))) := by
  refine g_start (by decide) (Nat.le_of_ble_eq_true rfl) [(0, _)] rfl (fun z hfl C => ?_)
  obtain ⟨o1, o2, o3⟩ := o
  have e24 : nI n * 24 = nI (24 * n) := by rw [show 24 * n = n * 24 by omega]; exact nx_mul (b := 24) rfl rfl
  refine g_aload_n C (gd DX6_longest_0 0 rfl) 0 rfl rfl ?_
  refine g_geti (ci := 6) (k := 0) C rfl (by decide) rfl lf_TestJudge_Table_9 ht.1 (gd DX6_longest_0 1 rfl) ?_
  rw [tR_0, o2]
  refine g_if_ne C 9 (gd DX6_longest_0 2 rfl) (by decide) (fun c4 => ?_) (fun c4 => ?_)
  rotate_left
  · have n0 : n = 0 := (nI_eq (b := 0) (by omega) (by omega)).mp c4
    refine g_iconst (v := -1) C (gd DX6_longest_0 3 rfl) (by decide) ?_
    exact g_iret C (by omega) (by omega) ⟨⟨ρ 8, by rw [rset_self]⟩, Or.inl ⟨rfl, Or.inl n0⟩⟩ (gd DX6_longest_0 4 rfl)
  have hn : 0 < n := Nat.pos_of_ne_zero fun x => c4 (by rw [x]; rfl)
  have lastL : ∀ (FN : Nat → Int32) (f : Nat → Nat), (∀ k, k < n → FN k = nI (f k) ∧ f k < n ∧ wkT (ρ 3) (f k) k) → (∀ d k, wkT (ρ 3) d k → d ≤ f k) → ∀ y i len mo v, i + y = n → len < n → (len = 0 ∨ ∃ k, k < n ∧ len ≤ f k) → (∀ k, k < i → f k ≤ len) → GW z w 6 (gQ z w 0 0 (fun r' h'' => (∃ FN, h'' = tR t h (rset ρ 8 FN)) ∧ ((r' = some (.int (-1)) ∧ (n = 0 ∨ ∀ B, ∃ k, wkT (ρ 3) B k)) ∨ (0 < n ∧ ∃ M, r' = some (.int (nI M)) ∧ (∃ k, wkT (ρ 3) M k) ∧ ∀ d k, wkT (ρ 3) d k → d ≤ M)))) 0 0 156 ([(0, .ref t), (1, .int (nI len)), (2, .int mo), (3, .int (nI i))] ++ v) [] (tR t h (rset ρ 8 FN)) := by
    intro FN f hf hall y
    induction y with
    | zero =>
      intro i len mo v hi hl hlen hk
      refine GW.sub [0, 1, 2, 3] rfl (Nat.le_refl _) (Nat.le_refl _) (lv' := [(0, _), (1, _), (2, _), (3, _)]) ?_
      refine g_iload_n C (gd DX6_longest_1 29 rfl) 3 rfl rfl ?_
      refine g_aload_n C (gd DX6_longest_1 30 rfl) 0 rfl rfl ?_
      refine g_geti (ci := 6) (k := 0) C rfl (by decide) rfl lf_TestJudge_Table_9 ht.1 (gd DX6_longest_1 31 rfl) ?_
      rw [tR_0, rset_ne (by omega), o2]
      refine g_icmp_ge C 181 (gd DX6_longest_1 32 rfl) (by decide) (fun c161 => ?_) (fun c161 => ?_)
      · refine g_iload_n C (gd DX6_longest_1 42 rfl) 1 rfl rfl ?_
        refine g_iret C (by omega) (by omega) ⟨⟨FN, rfl⟩, Or.inr ⟨hn, len, rfl, ?_, fun d k hw => ?_⟩⟩ (gd DX6_longest_1 43 rfl)
        · rcases hlen with x | ⟨k, k1, k2⟩
          · exact ⟨0, by rw [x]; rfl⟩
          · have := hk k (by omega)
            refine ⟨k, ?_⟩
            rw [show len = f k by omega]
            exact (hf k k1).2.2
        · have h1 := wkT.lt o3 hn d k hw
          have h2 := hall d k hw
          have h3 := hk k (by omega)
          omega
      · exact absurd (nI_le (by omega) (by omega)) c161
    | succ y ih =>
      intro i len mo v hi hl hlen hk
      refine GW.sub [0, 1, 2, 3] rfl (Nat.le_refl _) (Nat.le_refl _) (lv' := [(0, _), (1, _), (2, _), (3, _)]) ?_
      obtain ⟨f1, f2, f3⟩ := hf i (by omega)
      refine g_iload_n C (gd DX6_longest_1 29 rfl) 3 rfl rfl ?_
      refine g_aload_n C (gd DX6_longest_1 30 rfl) 0 rfl rfl ?_
      refine g_geti (ci := 6) (k := 0) C rfl (by decide) rfl lf_TestJudge_Table_9 ht.1 (gd DX6_longest_1 31 rfl) ?_
      rw [tR_0, rset_ne (by omega), o2]
      refine g_icmp_ge C 181 (gd DX6_longest_1 32 rfl) (by decide) (fun c161 => ?_) (fun c161 => ?_)
      · exact absurd c161 (nI_ge (by omega) (by omega))
      · refine g_iload_n C (gd DX6_longest_1 33 rfl) 1 rfl rfl ?_
        refine g_aload_n C (gd DX6_longest_1 34 rfl) 0 rfl rfl ?_
        refine g_getr (ci := 6) (k := 11) C rfl (by decide) rfl lf_TestJudge_Table_47 ht.1 ht.2.2.2.2.2.2.2.2.1.1 (gd DX6_longest_1 35 rfl) ?_
        refine g_iload_n C (gd DX6_longest_1 36 rfl) 3 rfl rfl ?_
        refine g_iaj (j := i) C ht.2.2.2.2.2.2.2.2.1.2.1 ht.2.2.2.2.2.2.2.2.1.2.2 (by first | decide | omega) rfl (by omega) (gd DX6_longest_1 37 rfl) ?_
        rw [tR_at (by omega), rset_eq, f1]
        refine g_max C lm_TestJudge_Table_132 (by omega) (by omega) (by omega) (Nat.le_of_ble_eq_true rfl) (gd DX6_longest_1 38 rfl) ?_
        rw [mx_n (by omega) (by omega)]
        refine g_istore_n (lv' := [(0, _), (1, _), (2, _), (3, _)]) C (gd DX6_longest_1 39 rfl) [1, 0, 2, 3] rfl (by decide) rfl ?_
        refine g_iinc (lv' := [(0, _), (1, _), (2, _), (3, _)]) C (gd DX6_longest_1 40 rfl) 3 [1, 2, 3, 0] rfl rfl (by decide) rfl ?_
        refine g_goto (tgt := 156) C (gd DX6_longest_1 41 rfl) (by decide) ?_
        refine GW.cast (by rw [inc1]; rfl) rfl rfl (ih (i + 1) (if len < f i then f i else len) mo [] (by omega) (by split <;> omega) ?_ (fun k hk2 => ?_))
        · by_cases e : len < f i
          · rw [if_pos e]; exact Or.inr ⟨i, by omega, Nat.le_refl _⟩
          · rw [if_neg e]; exact hlen
        · by_cases e : k = i
          · subst e; split <;> omega
          · have := hk k (by omega)
            split <;> omega
  have outL : ∀ (FN : Nat → Int32) (f : Nat → Nat) r mo len v, (∀ k, k < n → FN k = nI (f k) ∧ f k < n ∧ wkT (ρ 3) (f k) k) → len < n → (len = 0 ∨ ∃ k, k < n ∧ len ≤ f k) → (∀ d k, wkT (ρ 3) d k → d ≤ f k) → GW z w 6 (gQ z w 0 0 (fun r' h'' => (∃ FN, h'' = tR t h (rset ρ 8 FN)) ∧ ((r' = some (.int (-1)) ∧ (n = 0 ∨ ∀ B, ∃ k, wkT (ρ 3) B k)) ∨ (0 < n ∧ ∃ M, r' = some (.int (nI M)) ∧ (∃ k, wkT (ρ 3) M k) ∧ ∀ d k, wkT (ρ 3) d k → d ≤ M)))) 0 0 154 ([(0, .ref t), (1, .int (nI len)), (2, .int mo), (3, .int (nI r))] ++ v) [] (tR t h (rset ρ 8 FN)) := by
    intro FN f r mo len v hf hl hlen hall
    refine GW.sub [0, 1, 2, 3] rfl (Nat.le_refl _) (Nat.le_refl _) (lv' := [(0, _), (1, _), (2, _), (3, _)]) ?_
    refine g_iconst (v := 0) C (gd DX6_longest_1 27 rfl) (by decide) ?_
    refine g_istore_n (lv' := [(0, _), (1, _), (2, _), (3, _)]) C (gd DX6_longest_1 28 rfl) [1, 2, 3, 0] rfl (by decide) rfl ?_
    exact GW.cast rfl rfl rfl (lastL FN f hf hall n 0 len mo [] (by omega) hl hlen (fun k hk => by omega))
  have roundL : ∀ y r (FN : Nat → Int32) (f : Nat → Nat) mo len v, r + y = n → (∀ k, k < n → FN k = nI (f k) ∧ f k < n ∧ wkT (ρ 3) (f k) k) → len < n → (len = 0 ∨ ∃ k, k < n ∧ len ≤ f k) → (∀ d k, d ≤ r → wkT (ρ 3) d k → d ≤ f k) → (mo = 0 → ∀ e j, e < 24 * n → j < n → ρ 3 e = nI j → f (e / 24) < f j) → GW z w 6 (gQ z w 0 0 (fun r' h'' => (∃ FN, h'' = tR t h (rset ρ 8 FN)) ∧ ((r' = some (.int (-1)) ∧ (n = 0 ∨ ∀ B, ∃ k, wkT (ρ 3) B k)) ∨ (0 < n ∧ ∃ M, r' = some (.int (nI M)) ∧ (∃ k, wkT (ρ 3) M k) ∧ ∀ d k, wkT (ρ 3) d k → d ≤ M)))) 0 0 32 ([(0, .ref t), (1, .int (nI len)), (2, .int mo), (3, .int (nI r))] ++ v) [] (tR t h (rset ρ 8 FN)) := by
    intro y
    have closed : ∀ f : Nat → Nat, (∀ e j, e < 24 * n → j < n → ρ 3 e = nI j → f (e / 24) < f j) → ∀ d k, wkT (ρ 3) d k → d ≤ f k := by
      intro f hc d
      induction d with
      | zero => intro k _; omega
      | succ d ih =>
        intro k hw
        have hk := wkT.lt o3 hn _ k hw
        obtain ⟨_, j, l, h2, h3, h4⟩ := hw
        have hj := wkT.lt o3 hn d j h3
        have h5 := ih j h3
        have h6 := hc (24 * j + l) k (by omega) hk h4
        rw [show (24 * j + l) / 24 = j by omega] at h6
        omega
    induction y with
    | zero =>
      intro r FN f mo len v hr hf hl hlen hB hc
      refine GW.sub [0, 1, 2, 3] rfl (Nat.le_refl _) (Nat.le_refl _) (lv' := [(0, _), (1, _), (2, _), (3, _)]) ?_
      have hall : ∀ d k, wkT (ρ 3) d k → d ≤ f k := by
        intro d k hw
        have hk := wkT.lt o3 hn d k hw
        by_cases e : d ≤ r
        · exact hB d k e hw
        · exfalso
          obtain ⟨j, hj⟩ := wkT.pre (d - r) r k (by rw [show r + (d - r) = d by omega]; exact hw)
          have h1 := hB r j (Nat.le_refl _) hj
          have h2 := (hf j (wkT.lt o3 hn r j hj)).2.1
          omega
      refine g_iload_n C (gd DX6_longest_0 20 rfl) 3 rfl rfl ?_
      refine g_aload_n C (gd DX6_longest_0 21 rfl) 0 rfl rfl ?_
      refine g_geti (ci := 6) (k := 0) C rfl (by decide) rfl lf_TestJudge_Table_9 ht.1 (gd DX6_longest_0 22 rfl) ?_
      rw [tR_0, rset_ne (by omega), o2]
      refine g_icmp_ge C 154 (gd DX6_longest_0 23 rfl) (by decide) (fun c37 => ?_) (fun c37 => ?_)
      · exact outL FN f r mo len [] hf hl hlen hall
      · exact absurd (nI_le (by omega) (by omega)) c37
    | succ y ih =>
      intro r FN f mo len v hr hf hl hlen hB hc
      refine GW.sub [0, 1, 2, 3] rfl (Nat.le_refl _) (Nat.le_refl _) (lv' := [(0, _), (1, _), (2, _), (3, _)]) ?_
      refine g_iload_n C (gd DX6_longest_0 20 rfl) 3 rfl rfl ?_
      refine g_aload_n C (gd DX6_longest_0 21 rfl) 0 rfl rfl ?_
      refine g_geti (ci := 6) (k := 0) C rfl (by decide) rfl lf_TestJudge_Table_9 ht.1 (gd DX6_longest_0 22 rfl) ?_
      rw [tR_0, rset_ne (by omega), o2]
      refine g_icmp_ge C 154 (gd DX6_longest_0 23 rfl) (by decide) (fun c37 => ?_) (fun c37 => ?_)
      · exact absurd c37 (nI_ge (by omega) (by omega))
      · refine g_iload_n C (gd DX6_longest_0 24 rfl) 2 rfl rfl ?_
        refine g_if_eq C 154 (gd DX6_longest_0 25 rfl) (by decide) (fun c41 => ?_) (fun c41 => ?_)
        · exact outL FN f r mo len [] hf hl hlen (closed f (hc c41))
        · have edgeL : ∀ x e (FN' : Nat → Int32) (f' : Nat → Nat) mo' len' v, e + x = 24 * n → (∀ k, k < n → FN' k = nI (f' k) ∧ f' k ≤ n + e ∧ wkT (ρ 3) (f' k) k ∧ f k ≤ f' k ∧ (f' k < n ∨ f' k ≤ len')) → len' ≤ n + e → (len' = 0 ∨ ∃ k, k < n ∧ len' ≤ f' k) → (∀ e' j, e' < e → j < n → ρ 3 e' = nI j → f (e' / 24) < f' j) → (mo' = 0 → f' = f ∧ len' = len) → GW z w 6 (gQ z w 0 0 (fun r' h'' => (∃ FN, h'' = tR t h (rset ρ 8 FN)) ∧ ((r' = some (.int (-1)) ∧ (n = 0 ∨ ∀ B, ∃ k, wkT (ρ 3) B k)) ∨ (0 < n ∧ ∃ M, r' = some (.int (nI M)) ∧ (∃ k, wkT (ρ 3) M k) ∧ ∀ d k, wkT (ρ 3) d k → d ≤ M)))) 0 0 49 ([(0, .ref t), (1, .int (nI len')), (2, .int mo'), (3, .int (nI r)), (4, .int (nI e))] ++ v) [] (tR t h (rset ρ 8 FN')) := by
            intro x
            induction x with
            | zero =>
              intro e FN' f' mo' len' v he hf' hl' hlen' hed hm
              refine GW.sub [0, 1, 2, 3, 4] rfl (Nat.le_refl _) (Nat.le_refl _) (lv' := [(0, _), (1, _), (2, _), (3, _), (4, _)]) ?_
              refine g_iload C (gd DX6_longest_0 30 rfl) 4 rfl ?_
              refine g_aload_n C (gd DX6_longest_0 31 rfl) 0 rfl rfl ?_
              refine g_geti (ci := 6) (k := 0) C rfl (by decide) rfl lf_TestJudge_Table_9 ht.1 (gd DX6_longest_0 32 rfl) ?_
              refine g_bipush (v := 24) C (gd DX6_longest_0 33 rfl) (by decide) ?_
              refine g_imul C (gd DX6_longest_0 34 rfl) ?_
              rw [tR_0, rset_ne (by omega), o2, e24]
              refine g_icmp_ge C 138 (gd DX6_longest_0 35 rfl) (by decide) (fun c58 => ?_) (fun c58 => ?_)
              · refine g_iload_n C (gd DX6_longest_1 19 rfl) 1 rfl rfl ?_
                refine g_aload_n C (gd DX6_longest_1 20 rfl) 0 rfl rfl ?_
                refine g_geti (ci := 6) (k := 0) C rfl (by decide) rfl lf_TestJudge_Table_9 ht.1 (gd DX6_longest_1 21 rfl) ?_
                rw [tR_0, rset_ne (by omega), o2]
                refine g_icmp_lt C 148 (gd DX6_longest_1 22 rfl) (by decide) (fun c143 => ?_) (fun c143 => ?_)
                · have hlt : len' < n := Nat.not_le.mp (fun q => Int32.not_le.mpr c143 (nI_le q (by omega)))
                  refine g_iinc (lv' := [(0, _), (1, _), (2, _), (3, _), (4, _)]) C (gd DX6_longest_1 25 rfl) 3 [1, 2, 3, 0, 4] rfl rfl (by decide) rfl ?_
                  refine g_goto (tgt := 32) C (gd DX6_longest_1 26 rfl) (by decide) ?_
                  refine GW.sub [0, 1, 2, 3] rfl (Nat.le_refl _) (Nat.le_refl _) (lv' := [(0, _), (1, _), (2, _), (3, _)]) ?_
                  refine GW.cast (by rw [inc1]; rfl) rfl rfl (ih (r + 1) FN' f' mo' len' [] (by omega) (fun k hk => ⟨(hf' k hk).1, ?_, (hf' k hk).2.2.1⟩) hlt hlen' (fun d k hd hw => ?_) (fun e0 e' j h1 h2 h3 => ?_))
                  · rcases (hf' k hk).2.2.2.2 with u | u <;> omega
                  · cases d with
                    | zero => omega
                    | succ d =>
                      have hk := wkT.lt o3 hn _ k hw
                      obtain ⟨_, j, l, h2, h3, h4⟩ := hw
                      have hj := wkT.lt o3 hn d j h3
                      have h5 := hB d j (by omega) h3
                      have h6 := hed (24 * j + l) k (by omega) hk h4
                      rw [show (24 * j + l) / 24 = j by omega] at h6
                      omega
                  · have h4 := hed e' j (by omega) h2 h3
                    obtain ⟨h5, _⟩ := hm e0
                    rw [h5] at h4 ⊢
                    exact h4
                · have hge : n ≤ len' := Nat.not_lt.mp (fun q => c143 (Int32.not_le.mp (nI_ge q (by omega))))
                  refine g_iconst (v := -1) C (gd DX6_longest_1 23 rfl) (by decide) ?_
                  refine g_iret C (by omega) (by omega) ⟨⟨FN', rfl⟩, Or.inl ⟨rfl, Or.inr ?_⟩⟩ (gd DX6_longest_1 24 rfl)
                  rcases hlen' with q | ⟨k, k1, k2⟩
                  · omega
                  · exact wkT.round o3 hn (hf' k k1).2.2.1 (by omega)
              · exact absurd (nI_le (by omega) (by omega)) c58
            | succ x ihx =>
              intro e FN' f' mo' len' v he hf' hl' hlen' hed hm
              refine GW.sub [0, 1, 2, 3, 4] rfl (Nat.le_refl _) (Nat.le_refl _) (lv' := [(0, _), (1, _), (2, _), (3, _), (4, _)]) ?_
              have nx : ∀ v5 (FN2 : Nat → Int32) (f2 : Nat → Nat) mo2 len2, (∀ k, k < n → FN2 k = nI (f2 k) ∧ f2 k ≤ n + (e + 1) ∧ wkT (ρ 3) (f2 k) k ∧ f k ≤ f2 k ∧ (f2 k < n ∨ f2 k ≤ len2)) → len2 ≤ n + (e + 1) → (len2 = 0 ∨ ∃ k, k < n ∧ len2 ≤ f2 k) → (∀ e' j, e' < e + 1 → j < n → ρ 3 e' = nI j → f (e' / 24) < f2 j) → (mo2 = 0 → f2 = f ∧ len2 = len) → GW z w 6 (gQ z w 0 0 (fun r' h'' => (∃ FN, h'' = tR t h (rset ρ 8 FN)) ∧ ((r' = some (.int (-1)) ∧ (n = 0 ∨ ∀ B, ∃ k, wkT (ρ 3) B k)) ∨ (0 < n ∧ ∃ M, r' = some (.int (nI M)) ∧ (∃ k, wkT (ρ 3) M k) ∧ ∀ d k, wkT (ρ 3) d k → d ≤ M)))) 0 0 132 [(0, .ref t), (1, .int (nI len2)), (2, .int mo2), (3, .int (nI r)), (4, .int (nI e)), (5, .int v5)] [] (tR t h (rset ρ 8 FN2)) := by
                intro v5 FN2 f2 mo2 len2 a1 a2 a3 a4 a5
                refine g_iinc (lv' := [(0, _), (1, _), (2, _), (3, _), (4, _), (5, _)]) C (gd DX6_longest_1 17 rfl) 4 [1, 2, 3, 4, 0, 5] rfl rfl (by decide) rfl ?_
                refine g_goto (tgt := 49) C (gd DX6_longest_1 18 rfl) (by decide) ?_
                refine GW.sub [0, 1, 2, 3, 4] rfl (Nat.le_refl _) (Nat.le_refl _) (lv' := [(0, _), (1, _), (2, _), (3, _), (4, _)]) ?_
                exact GW.cast (by rw [inc1]; rfl) rfl rfl (ihx (e + 1) FN2 f2 mo2 len2 [] (by omega) a1 a2 a3 a4 a5)
              have he24 : e / 24 < n := by omega
              obtain ⟨g1, g2, g3, g4, g5⟩ := hf' (e / 24) he24
              refine g_iload C (gd DX6_longest_0 30 rfl) 4 rfl ?_
              refine g_aload_n C (gd DX6_longest_0 31 rfl) 0 rfl rfl ?_
              refine g_geti (ci := 6) (k := 0) C rfl (by decide) rfl lf_TestJudge_Table_9 ht.1 (gd DX6_longest_0 32 rfl) ?_
              refine g_bipush (v := 24) C (gd DX6_longest_0 33 rfl) (by decide) ?_
              refine g_imul C (gd DX6_longest_0 34 rfl) ?_
              rw [tR_0, rset_ne (by omega), o2, e24]
              refine g_icmp_ge C 138 (gd DX6_longest_0 35 rfl) (by decide) (fun c58 => ?_) (fun c58 => ?_)
              · exact absurd c58 (nI_ge (by omega) (by omega))
              · refine g_aload_n C (gd DX6_longest_0 36 rfl) 0 rfl rfl ?_
                refine g_getr (ci := 6) (k := 3) C rfl (by decide) rfl lf_TestJudge_Table_22 ht.1 ht.2.2.2.1.1 (gd DX6_longest_0 37 rfl) ?_
                refine g_iload C (gd DX6_longest_0 38 rfl) 4 rfl ?_
                refine g_iaj (j := e) C ht.2.2.2.1.2.1 ht.2.2.2.1.2.2 (by first | decide | omega) rfl (by omega) (gd DX6_longest_0 39 rfl) ?_
                rw [tR_at (by omega), rset_ne (by omega)]
                rcases o3.2 e (by omega) with ee | ⟨j, hj, ee⟩
                · rw [ee]
                  refine g_istore (lv' := [(0, _), (1, _), (2, _), (3, _), (4, _), (5, _)]) C (gd DX6_longest_0 40 rfl) [1, 2, 3, 4, 5, 0] (by decide) rfl ?_
                  refine g_aload_n C (gd DX6_longest_0 41 rfl) 0 rfl rfl ?_
                  refine g_iload C (gd DX6_longest_0 42 rfl) 5 rfl ?_
                  refine g_cV1 (ci := 6) C [_] mX6_has lm_TestJudge_Table_126 (by exact ht.1) rfl rfl (e_t_has ht (ρ := rset ρ 8 FN') _) hfl (by first | decide | omega) (by decide) (by omega) (by omega) rfl rfl (Nat.le_of_ble_eq_true rfl) (gd DX6_longest_0 43 rfl) ?_
                  rw [b1_f (fun q => q.1 (by decide))]
                  refine g_if_eq C 132 (gd DX6_longest_0 44 rfl) (by decide) (fun c76 => ?_) (fun c76 => ?_)
                  · refine nx _ FN' f' mo' len' (fun k hk => ?_) (by omega) hlen' (fun e' j h1 h2 h3 => ?_) hm
                    · obtain ⟨q1, q2, q3⟩ := hf' k hk; exact ⟨q1, by omega, q3⟩
                    · by_cases e2 : e' = e
                      · subst e2; rw [ee] at h3; exact absurd h3.symm (nI_neg1 (by omega))
                      · exact hed e' j (by omega) h2 h3
                  · exact absurd rfl c76
                · obtain ⟨j1, j2, j3, j4, j5⟩ := hf' j hj
                  rw [ee]
                  refine g_istore (lv' := [(0, _), (1, _), (2, _), (3, _), (4, _), (5, _)]) C (gd DX6_longest_0 40 rfl) [1, 2, 3, 4, 5, 0] (by decide) rfl ?_
                  refine g_aload_n C (gd DX6_longest_0 41 rfl) 0 rfl rfl ?_
                  refine g_iload C (gd DX6_longest_0 42 rfl) 5 rfl ?_
                  refine g_cV1 (ci := 6) C [_] mX6_has lm_TestJudge_Table_126 (by exact ht.1) rfl rfl (e_t_has ht (ρ := rset ρ 8 FN') _) hfl (by first | decide | omega) (by decide) (by omega) (by omega) rfl rfl (Nat.le_of_ble_eq_true rfl) (gd DX6_longest_0 43 rfl) ?_
                  rw [b1_t ⟨nI_nn (by omega), by rw [rset_ne (by omega), o2]; exact nI_ge hj (by omega)⟩]
                  refine g_if_eq C 132 (gd DX6_longest_0 44 rfl) (by decide) (fun c76 => ?_) (fun c76 => ?_)
                  · exact absurd c76 (by decide)
                  · refine g_aload_n C (gd DX6_longest_0 45 rfl) 0 rfl rfl ?_
                    refine g_getr (ci := 6) (k := 11) C rfl (by decide) rfl lf_TestJudge_Table_47 ht.1 ht.2.2.2.2.2.2.2.2.1.1 (gd DX6_longest_0 46 rfl) ?_
                    refine g_iload C (gd DX6_longest_0 47 rfl) 5 rfl ?_
                    refine g_iaj (j := j) C ht.2.2.2.2.2.2.2.2.1.2.1 ht.2.2.2.2.2.2.2.2.1.2.2 (by first | decide | omega) rfl (by omega) (gd DX6_longest_0 48 rfl) ?_
                    rw [tR_at (by omega), rset_eq, j1]
                    refine g_aload_n C (gd DX6_longest_0 49 rfl) 0 rfl rfl ?_
                    refine g_getr (ci := 6) (k := 11) C rfl (by decide) rfl lf_TestJudge_Table_47 ht.1 ht.2.2.2.2.2.2.2.2.1.1 (gd DX6_longest_0 50 rfl) ?_
                    refine g_iload C (gd DX6_longest_0 51 rfl) 4 rfl ?_
                    refine g_bipush (v := 24) C (gd DX6_longest_0 52 rfl) (by decide) ?_
                    refine g_idiv C (gd DX6_longest_0 53 rfl) (by decide) ?_
                    refine g_iaj (j := (e / 24)) C ht.2.2.2.2.2.2.2.2.1.2.1 ht.2.2.2.2.2.2.2.2.1.2.2 (by first | decide | omega) (nx_div rfl rfl (by omega) (by decide) (by decide)) (by omega) (gd DX6_longest_0 54 rfl) ?_
                    rw [tR_at (by omega), rset_eq, g1]
                    refine g_icmp_gt C 132 (gd DX6_longest_0 55 rfl) (by decide) (fun c96 => ?_) (fun c96 => ?_)
                    · have hlt : f' (e / 24) < f' j := Nat.not_le.mp (fun q => Int32.not_lt.mpr (nI_le q (by omega)) c96)
                      refine nx _ FN' f' mo' len' (fun k hk => ?_) (by omega) hlen' (fun e' j' h1 h2 h3 => ?_) hm
                      · obtain ⟨q1, q2, q3⟩ := hf' k hk; exact ⟨q1, by omega, q3⟩
                      · by_cases e2 : e' = e
                        · subst e2
                          rw [ee] at h3
                          have := (nI_eq (by omega) (by omega)).mp h3
                          subst this
                          omega
                        · exact hed e' j' (by omega) h2 h3
                    · have hle : f' j ≤ f' (e / 24) := Nat.not_lt.mp (fun q => c96 (Int32.not_le.mp (nI_ge q (by omega))))
                      refine g_aload_n C (gd DX6_longest_0 56 rfl) 0 rfl rfl ?_
                      refine g_getr (ci := 6) (k := 11) C rfl (by decide) rfl lf_TestJudge_Table_47 ht.1 ht.2.2.2.2.2.2.2.2.1.1 (gd DX6_longest_0 57 rfl) ?_
                      refine g_iload C (gd DX6_longest_0 58 rfl) 5 rfl ?_
                      refine g_aload_n C (gd DX6_longest_0 59 rfl) 0 rfl rfl ?_
                      refine g_getr (ci := 6) (k := 11) C rfl (by decide) rfl lf_TestJudge_Table_47 ht.1 ht.2.2.2.2.2.2.2.2.1.1 (gd DX6_longest_1 0 rfl) ?_
                      refine g_iload C (gd DX6_longest_1 1 rfl) 4 rfl ?_
                      refine g_bipush (v := 24) C (gd DX6_longest_1 2 rfl) (by decide) ?_
                      refine g_idiv C (gd DX6_longest_1 3 rfl) (by decide) ?_
                      refine g_iaj (j := (e / 24)) C ht.2.2.2.2.2.2.2.2.1.2.1 ht.2.2.2.2.2.2.2.2.1.2.2 (by first | decide | omega) (nx_div rfl rfl (by omega) (by decide) (by decide)) (by omega) (gd DX6_longest_1 4 rfl) ?_
                      rw [tR_at (by omega), rset_eq, g1]
                      refine g_iconst (v := 1) C (gd DX6_longest_1 5 rfl) (by decide) ?_
                      refine g_iadd C (gd DX6_longest_1 6 rfl) ?_
                      refine g_isj (j := j) C ht.2.2.2.2.2.2.2.2.1.2.1 ht.2.2.2.2.2.2.2.2.1.2.2 (by first | decide | omega) rfl (by omega) (gd DX6_longest_1 7 rfl) ?_
                      rw [show nI (f' (e / 24)) + 1 = nI (f' (e / 24) + 1) from nx_add (b := 1) rfl rfl, tR_i (by omega), rset_eq, rset_rset]
                      refine g_iload_n C (gd DX6_longest_1 8 rfl) 1 rfl rfl ?_
                      refine g_aload_n C (gd DX6_longest_1 9 rfl) 0 rfl rfl ?_
                      refine g_getr (ci := 6) (k := 11) C rfl (by decide) rfl lf_TestJudge_Table_47 ht.1 ht.2.2.2.2.2.2.2.2.1.1 (gd DX6_longest_1 10 rfl) ?_
                      refine g_iload C (gd DX6_longest_1 11 rfl) 5 rfl ?_
                      refine g_iaj (j := j) C ht.2.2.2.2.2.2.2.2.1.2.1 ht.2.2.2.2.2.2.2.2.1.2.2 (by first | decide | omega) rfl (by omega) (gd DX6_longest_1 12 rfl) ?_
                      rw [tR_at (by omega), rset_eq, show upd FN' j (nI (f' (e / 24) + 1)) j = nI (f' (e / 24) + 1) from if_pos rfl]
                      refine g_max C lm_TestJudge_Table_132 (by omega) (by omega) (by omega) (Nat.le_of_ble_eq_true rfl) (gd DX6_longest_1 13 rfl) ?_
                      rw [mx_n (by omega) (by omega)]
                      refine g_istore_n (lv' := [(0, _), (1, _), (2, _), (3, _), (4, _), (5, _)]) C (gd DX6_longest_1 14 rfl) [1, 0, 2, 3, 4, 5] rfl (by decide) rfl ?_
                      refine g_iconst (v := 1) C (gd DX6_longest_1 15 rfl) (by decide) ?_
                      refine g_istore_n (lv' := [(0, _), (1, _), (2, _), (3, _), (4, _), (5, _)]) C (gd DX6_longest_1 16 rfl) [1, 2, 0, 3, 4, 5] rfl (by decide) rfl ?_
                      have hmx : ∀ a b : Nat, a ≤ (if a < b then b else a) ∧ b ≤ (if a < b then b else a) := fun a b => by split <;> omega
                      refine nx _ (upd FN' j (nI (f' (e / 24) + 1))) (updN f' j (f' (e / 24) + 1)) 1 (if len' < f' (e / 24) + 1 then f' (e / 24) + 1 else len') (fun k hk => ?_) (by split <;> omega) ?_ (fun e' j' h1 h2 h3 => ?_) (fun q => absurd q (by decide))
                      · obtain ⟨q1, q2, q3, q4, q5⟩ := hf' k hk
                        have hm1 := hmx len' (f' (e / 24) + 1)
                        by_cases ek : k = j
                        · subst ek
                          rw [updN_eq, upd, if_pos rfl]
                          refine ⟨rfl, by omega, ⟨by omega, e / 24, e % 24, by omega, g3, by rw [show 24 * (e / 24) + e % 24 = e by omega]; exact ee⟩, by omega, Or.inr hm1.2⟩
                        · rw [updN_ne ek, upd, if_neg ek]
                          refine ⟨q1, by omega, q3, q4, ?_⟩
                          rcases q5 with u | u
                          · exact Or.inl u
                          · exact Or.inr (Nat.le_trans u hm1.1)
                      · by_cases e2 : len' < f' (e / 24) + 1
                        · rw [if_pos e2]; exact Or.inr ⟨j, hj, by rw [updN_eq]; exact Nat.le_refl _⟩
                        · rw [if_neg e2]
                          rcases hlen' with u | ⟨k, k1, k2⟩
                          · omega
                          · refine Or.inr ⟨k, k1, ?_⟩
                            by_cases ek : k = j
                            · subst ek; omega
                            · rw [updN_ne ek]; exact k2
                      · by_cases e2 : e' = e
                        · subst e2
                          rw [ee] at h3
                          have := (nI_eq (by omega) (by omega)).mp h3
                          subst this
                          rw [updN_eq]
                          omega
                        · have h5 := hed e' j' (by omega) h2 h3
                          by_cases ek : j' = j
                          · subst ek; rw [updN_eq]; omega
                          · rw [updN_ne ek]; exact h5
          refine g_iconst (v := 0) C (gd DX6_longest_0 26 rfl) (by decide) ?_
          refine g_istore_n (lv' := [(0, _), (1, _), (2, _), (3, _)]) C (gd DX6_longest_0 27 rfl) [1, 2, 0, 3] rfl (by decide) rfl ?_
          refine g_iconst (v := 0) C (gd DX6_longest_0 28 rfl) (by decide) ?_
          refine g_istore (lv' := [(0, _), (1, _), (2, _), (3, _), (4, _)]) C (gd DX6_longest_0 29 rfl) [1, 2, 3, 4, 0] (by decide) rfl ?_
          exact GW.cast rfl rfl rfl (edgeL (24 * n) 0 FN f 0 len [] (by omega) (fun k hk => ⟨(hf k hk).1, by have := (hf k hk).2.1; omega, (hf k hk).2.2, Nat.le_refl _, Or.inl (hf k hk).2.1⟩) (by omega) hlen (fun e' j h1 => by omega) (fun _ => ⟨rfl, rfl⟩))
  refine g_aload_n C (gd DX6_longest_0 5 rfl) 0 rfl rfl ?_
  refine g_getr (ci := 6) (k := 2) C rfl (by decide) rfl lf_TestJudge_Table_19 ht.1 ht.2.2.1.1 (gd DX6_longest_0 6 rfl) ?_
  refine g_iconst (v := 0) C (gd DX6_longest_0 7 rfl) (by decide) ?_
  refine g_aload_n C (gd DX6_longest_0 8 rfl) 0 rfl rfl ?_
  refine g_getr (ci := 6) (k := 11) C rfl (by decide) rfl lf_TestJudge_Table_47 ht.1 ht.2.2.2.2.2.2.2.2.1.1 (gd DX6_longest_0 9 rfl) ?_
  refine g_iconst (v := 0) C (gd DX6_longest_0 10 rfl) (by decide) ?_
  refine g_aload_n C (gd DX6_longest_0 11 rfl) 0 rfl rfl ?_
  refine g_geti (ci := 6) (k := 0) C rfl (by decide) rfl lf_TestJudge_Table_9 ht.1 (gd DX6_longest_0 12 rfl) ?_
  rw [tR_0, o2]
  refine g_copy0 (m := n) C lm_TestJudge_Table_107 ht.2.2.1.2.1 ht.2.2.2.2.2.2.2.2.1.2.1 (by rw [show hN (tR t h ρ) (t + 2) = 125 from ht.2.2.1.2.2]; exact o1) (by rw [show hN (tR t h ρ) (t + 8) = 125 from ht.2.2.2.2.2.2.2.2.1.2.2]; exact o1) (by omega) (by omega) rfl (gd DX6_longest_0 13 rfl) ?_
  rw [tR_at (by omega), tR_at (by omega), tR_f (by omega)]
  have hex : ∃ f : Nat → Nat, ∀ k, k < n → ρ 2 k = nI (f k) ∧ f k < n ∧ wkT (ρ 3) (f k) k := by
    refine ⟨fun k => (ρ 2 k).toNatClampNeg, fun k hk => ?_⟩
    obtain ⟨d, d1, d2, d3⟩ := hdp k hk
    show ρ 2 k = nI ((ρ 2 k).toNatClampNeg) ∧ (ρ 2 k).toNatClampNeg < n ∧ wkT (ρ 3) ((ρ 2 k).toNatClampNeg) k
    rw [d1, nI_clamp (by omega)]
    exact ⟨rfl, d2, d3⟩
  obtain ⟨f, hf⟩ := hex
  refine g_iconst (v := 0) C (gd DX6_longest_0 14 rfl) (by decide) ?_
  refine g_istore_n (lv' := [(0, _), (1, _)]) C (gd DX6_longest_0 15 rfl) [1, 0] rfl (by decide) rfl ?_
  refine g_iconst (v := 1) C (gd DX6_longest_0 16 rfl) (by decide) ?_
  refine g_istore_n (lv' := [(0, _), (1, _), (2, _)]) C (gd DX6_longest_0 17 rfl) [1, 2, 0] rfl (by decide) rfl ?_
  refine g_iconst (v := 0) C (gd DX6_longest_0 18 rfl) (by decide) ?_
  refine g_istore_n (lv' := [(0, _), (1, _), (2, _), (3, _)]) C (gd DX6_longest_0 19 rfl) [1, 2, 3, 0] rfl (by decide) rfl ?_
  refine GW.cast rfl rfl rfl (roundL n 0 _ f 1 0 [] (by omega) (fun k hk => ?_) hn (Or.inl rfl) (fun d k hd hw => by omega) (fun q => absurd q (by decide)))
  refine ⟨?_, (hf k hk).2⟩
  show (if k < n then ρ 2 k else ρ 8 k) = _
  rw [if_pos hk]
  exact (hf k hk).1
end C25
