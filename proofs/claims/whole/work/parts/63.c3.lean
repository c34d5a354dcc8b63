/-! Runner.take, and what a taken piece answers -/
/-- a piece of n places at a that tells what the record R tells; its rows lie behind it -/
def pcS (h : HS) (a n : Nat) (R : Nat → Int32) : Prop := hK h a = 3 ∧ hI h a 0 = nI n ∧ hI h a 1 = R 1 ∧ hI h a 2 = nI n ∧ (0 < n → (hR h a 3 = some (a + 1) ∧ hR h a 4 = some (a + 2) ∧ hR h a 5 = some (a + 3) ∧ hR h a 6 = some (a + 4)) ∧ (hK h (a + 1) = 12 ∧ hK h (a + 2) = 12 ∧ hK h (a + 3) = 12 ∧ hK h (a + 4) = 12) ∧ hN h (a + 1) = n ∧ hN h (a + 2) = n ∧ hN h (a + 3) = n ∧ hN h (a + 4) = n * n) ∧ ∀ p, p < n → hI h (a + 1) p = R (2 + p) ∧ hI h (a + 2) p = R (18 + p) ∧ hI h (a + 3) p = R (34 + p) ∧ ∀ q, q < n → hI h (a + 4) (p * n + q) = R (50 + 16 * p + q)
/-- while it is taken: rows before P whole, of row P the places before q, of the start those before s; acts of the places before t, ends of those before e -/
def tkI (R : Nat → Int32) (n P q s t e : Nat) (G E B : Nat → Int32) : Prop :=
  (∀ p k b, p < 7 → k < 8 → b < 32 → (hasB (G (8 * p + k)) (nI b) ↔ ((p < P ∧ b < n ∨ p = P ∧ b < q) ∧ p < 6 ∧ hasB (R (50 + 16 * p + b)) (nI k)) ∨ (p = 6 ∧ b < s ∧ hasB (R (18 + b)) (nI k)))) ∧ (∀ p, p < e → E p = R (34 + p)) ∧ ∀ c b, c < 3 → b < 32 → (hasB (B c) (nI b) ↔ b < t ∧ R (2 + b) = nI c)
def tkP (R : Nat → Int32) (n : Nat) (G E B : Nat → Int32) : Prop := tkI R n n 0 n n n G E B ∧ E 6 = R 1
def hU (r : Nat) (h : HS) (G E B : Nat → Int32) : HS := sF (sF (sF h (r + 1) G) (r + 2) E) (r + 3) B
theorem hU_ne {r : Nat} {h : HS} {G E B : Nat → Int32} {b : Nat} (hb : ¬ (r < b ∧ b < r + 4)) : hI (hU r h G E B) b = hI h b := by
  unfold hU
  rw [hI_sF_ne (by omega), hI_sF_ne (by omega), hI_sF_ne (by omega)]
theorem hU_1 {r : Nat} {h : HS} {G E B : Nat → Int32} : hI (hU r h G E B) (r + 1) = G := by
  unfold hU
  rw [hI_sF_ne (by omega), hI_sF_ne (by omega), hI_sF_eq]
theorem hU_2 {r : Nat} {h : HS} {G E B : Nat → Int32} : hI (hU r h G E B) (r + 2) = E := by
  unfold hU
  rw [hI_sF_ne (by omega), hI_sF_eq]
theorem hU_3 {r : Nat} {h : HS} {G E B : Nat → Int32} : hI (hU r h G E B) (r + 3) = B := by
  unfold hU
  rw [hI_sF_eq]
theorem sF_sF_c {h : HS} {a b : Nat} {f g : Nat → Int32} (hab : a ≠ b) : sF (sF h a f) b g = sF (sF h b g) a f := by
  unfold sF
  congr 1
  funext c j
  by_cases e1 : c = a
  · subst e1; simp [hab]
  · simp [e1]
theorem hU_s1 {r : Nat} {h : HS} {G E B G' : Nat → Int32} : sF (hU r h G E B) (r + 1) G' = hU r h G' E B := by
  unfold hU
  rw [sF_sF_c (show r + 3 ≠ r + 1 by omega), sF_sF_c (show r + 2 ≠ r + 1 by omega), sF_sF]
theorem hU_s2 {r : Nat} {h : HS} {G E B E' : Nat → Int32} : sF (hU r h G E B) (r + 2) E' = hU r h G E' B := by
  unfold hU
  rw [sF_sF_c (show r + 3 ≠ r + 2 by omega), sF_sF]
theorem hU_s3 {r : Nat} {h : HS} {G E B B' : Nat → Int32} : sF (hU r h G E B) (r + 3) B' = hU r h G E B' := by
  unfold hU
  rw [sF_sF]
theorem hU_i1 {r : Nat} {h : HS} {G E B : Nat → Int32} {k : Nat} {v : Int32} : sI (hU r h G E B) (r + 1) k v = hU r h (upd G k v) E B := by rw [sI_sF, hU_1, hU_s1]
theorem hU_i2 {r : Nat} {h : HS} {G E B : Nat → Int32} {k : Nat} {v : Int32} : sI (hU r h G E B) (r + 2) k v = hU r h G (upd E k v) B := by rw [sI_sF, hU_2, hU_s2]
theorem hU_i3 {r : Nat} {h : HS} {G E B : Nat → Int32} {k : Nat} {v : Int32} : sI (hU r h G E B) (r + 3) k v = hU r h G E (upd B k v) := by rw [sI_sF, hU_3, hU_s3]
theorem tkI.link {R : Nat → Int32} {n P q s t e : Nat} {G E B : Nat → Int32} (i : tkI R n P q s t e G E B) (hP : P < 6) (hq : q < 32) : tkI R n P (q + 1) s t e (lkF G P q (R (50 + 16 * P + q)) 8) E B := by
  refine ⟨fun p k b hp hk hb => ?_, i.2.1, i.2.2⟩
  rw [lk_has hq hk hb, i.1 p k b hp hk hb]
  constructor
  · rintro ((⟨x1, x2, x3⟩ | x) | ⟨x1, x2, x3⟩)
    · exact Or.inl ⟨by omega, x2, x3⟩
    · exact Or.inr x
    · subst x1; subst x2
      exact Or.inl ⟨by omega, by omega, x3⟩
  · rintro (⟨x1, x2, x3⟩ | x)
    · by_cases e : p = P ∧ b = q
      · obtain ⟨e1, e2⟩ := e
        subst e1; subst e2
        exact Or.inr ⟨rfl, rfl, x3⟩
      · exact Or.inl (Or.inl ⟨by omega, x2, x3⟩)
    · exact Or.inl (Or.inr x)
theorem tkI.start {R : Nat → Int32} {n P q s t e : Nat} {G E B : Nat → Int32} (i : tkI R n P q s t e G E B) (hs : s < 32) : tkI R n P q (s + 1) t e (lkF G 6 s (R (18 + s)) 8) E B := by
  refine ⟨fun p k b hp hk hb => ?_, i.2.1, i.2.2⟩
  rw [lk_has hs hk hb, i.1 p k b hp hk hb]
  constructor
  · rintro ((x | ⟨x1, x2, x3⟩) | ⟨x1, x2, x3⟩)
    · exact Or.inl x
    · exact Or.inr ⟨x1, by omega, x3⟩
    · subst x2
      exact Or.inr ⟨x1, by omega, x3⟩
  · rintro (x | ⟨x1, x2, x3⟩)
    · exact Or.inl (Or.inl x)
    · by_cases e : b = s
      · subst e
        exact Or.inr ⟨x1, rfl, x3⟩
      · exact Or.inl (Or.inr ⟨x1, by omega, x3⟩)
theorem tkI.row {R : Nat → Int32} {n P s t e : Nat} {G E B : Nat → Int32} (i : tkI R n P n s t e G E B) : tkI R n (P + 1) 0 s t e G E B := by
  refine ⟨fun p k b hp hk hb => ?_, i.2.1, i.2.2⟩
  rw [i.1 p k b hp hk hb]
  constructor
  · rintro (⟨x1, x2, x3⟩ | x)
    · exact Or.inl ⟨by omega, x2, x3⟩
    · exact Or.inr x
  · rintro (⟨x1, x2, x3⟩ | x)
    · exact Or.inl ⟨by omega, x2, x3⟩
    · exact Or.inr x
theorem tkI.ends {R : Nat → Int32} {n P q s t e : Nat} {G E B : Nat → Int32} (i : tkI R n P q s t e G E B) : tkI R n P q s t (e + 1) G (upd E e (R (34 + e))) B := by
  refine ⟨i.1, fun p hp => ?_, i.2.2⟩
  unfold upd
  by_cases x : p = e
  · rw [if_pos x, x]
  · rw [if_neg x, i.2.1 p (by omega)]
theorem tkI.act {R : Nat → Int32} {n P q s t e : Nat} {G E B : Nat → Int32} (i : tkI R n P q s t e G E B) (ht : t < 32) {c0 : Nat} (hc : c0 < 3) (hR0 : R (2 + t) = nI c0) : tkI R n P q s (t + 1) e G E (upd B c0 (B c0 ||| 1 <<< (nI t &&& 31))) := by
  refine ⟨i.1, i.2.1, fun c b hc1 hb => ?_⟩
  have hi := i.2.2 c b hc1 hb
  unfold upd
  by_cases x : c = c0
  · subst x
    rw [if_pos rfl, hasB_or hb, hi, hasB_one ht hb]
    constructor
    · rintro (⟨x1, x2⟩ | x1)
      · exact ⟨by omega, x2⟩
      · subst x1; exact ⟨by omega, hR0⟩
    · rintro ⟨x1, x2⟩
      by_cases e1 : b = t
      · exact Or.inr e1
      · exact Or.inl ⟨by omega, x2⟩
  · rw [if_neg x, hi]
    constructor
    · rintro ⟨x1, x2⟩; exact ⟨by omega, x2⟩
    · rintro ⟨x1, x2⟩
      refine ⟨?_, x2⟩
      by_cases e1 : b = t
      · subst e1
        rw [hR0] at x2
        exact absurd ((nI_eq (by omega) (by omega)).mp x2).symm x
      · omega
theorem tkI.noact {R : Nat → Int32} {n P q s t e : Nat} {G E B : Nat → Int32} (i : tkI R n P q s t e G E B) (hR0 : ∀ c, c < 3 → R (2 + t) ≠ nI c) : tkI R n P q s (t + 1) e G E B := by
  refine ⟨i.1, i.2.1, fun c b hc hb => ?_⟩
  rw [i.2.2 c b hc hb]
  constructor
  · rintro ⟨x1, x2⟩; exact ⟨by omega, x2⟩
  · rintro ⟨x1, x2⟩
    refine ⟨?_, x2⟩
    by_cases e1 : b = t
    · subst e1; exact absurd x2 (hR0 c hc)
    · omega
section C3
variable {w : gD} {r : Nat} {h : HS}
theorem e_r_take (hr : rSh r h) {a n : Nat} {R : Nat → Int32} (hn : n ≤ 6) (hp : pcS h a n R) (hd : a + 4 < r ∨ r + 3 < a) : Ev w 1 0 0 yX4_take cX4_take 5 none [.ref r, .ref a] h (fun r' h' => r' = none ∧ ∃ G E B, h' = hU r h G E B ∧ tkP R n G E B) := by
  refine g_start (by decide) (Nat.le_of_ble_eq_true rfl) [(0, _), (1, _)] rfl (fun z hfl C => ?_)
  have key : ∀ y p G E B, p + y = n → tkI R n p 0 p p p G E B → GW z w 5 (gQ z w 0 0 (fun r' h'' => r' = none ∧ ∃ G E B, h'' = hU r h G E B ∧ tkP R n G E B)) 0 0 18 [(0, .ref r), (1, .ref a), (2, .int (nI p))] [] (hU r h G E B) := by
    intro y
    induction y with
    | zero =>
      intro p G E B hy i
      have e : p = n := by omega
      subst e
      refine g_iload_n C (gd DX4_take_0 10 rfl) 2 rfl rfl ?_
      refine g_aload_n C (gd DX4_take_0 11 rfl) 1 rfl rfl ?_
      refine g_geti (ci := 2) (k := 2) C rfl (by decide) rfl lf_TestJudge_Runner_29 hp.1 (gd DX4_take_0 12 rfl) ?_
      rw [hU_ne (by omega), hp.2.2.2.1]
      refine g_icmp_ge C 130 (gd DX4_take_0 13 rfl) (by decide) (fun c23 => ?_) (fun c23 => ?_)
      · refine g_aload_n C (gd DX4_take_1 16 rfl) 0 rfl rfl ?_
        refine g_getr (ci := 4) (k := 1) C rfl (by decide) rfl lf_TestJudge_Runner_17 hr.1 hr.2.2.2.2.1 (gd DX4_take_1 17 rfl) ?_
        refine g_bipush (v := 6) C (gd DX4_take_1 18 rfl) (by decide) ?_
        refine g_aload_n C (gd DX4_take_1 19 rfl) 1 rfl rfl ?_
        refine g_geti (ci := 2) (k := 1) C rfl (by decide) rfl lf_TestJudge_Runner_49 hp.1 (gd DX4_take_1 20 rfl) ?_
        refine g_isj (j := 6) C hr.2.2.2.2.2.1 hr.2.2.2.2.2.2.1 (by first | decide | omega) rfl (by decide) (gd DX4_take_1 21 rfl) ?_
        exact g_vret C (by omega) (by omega) ⟨rfl, G, upd E 6 (R 1), B, by rw [hU_i2, hU_ne (by omega), hp.2.2.1], ⟨i.1, fun q hq => by rw [upd, if_neg (by omega)]; exact i.2.1 q hq, i.2.2⟩, by rw [upd, if_pos rfl]⟩ (gd DX4_take_1 22 rfl)
      · exact absurd (nI_le (by omega) (by omega)) c23
    | succ y ih =>
      intro p G E B hy i
      have hn0 : 0 < n := by omega
      have inner : ∀ x q G E B, q + x = n → tkI R n p q (p + 1) (p + 1) (p + 1) G E B → ∀ v3, GW z w 5 (gQ z w 0 0 (fun r' h'' => r' = none ∧ ∃ G E B, h'' = hU r h G E B ∧ tkP R n G E B)) 0 0 88 [(0, .ref r), (1, .ref a), (2, .int (nI p)), (3, .int v3), (4, .int (nI q))] [] (hU r h G E B) := by
        intro x
        induction x with
        | zero =>
          intro q G E B hx i v3
          have e : q = n := by omega
          subst e
          refine g_iload C (gd DX4_take_0 55 rfl) 4 rfl ?_
          refine g_aload_n C (gd DX4_take_0 56 rfl) 1 rfl rfl ?_
          refine g_geti (ci := 2) (k := 2) C rfl (by decide) rfl lf_TestJudge_Runner_29 hp.1 (gd DX4_take_0 57 rfl) ?_
          rw [hU_ne (by omega), hp.2.2.2.1]
          refine g_icmp_ge C 124 (gd DX4_take_0 58 rfl) (by decide) (fun c94 => ?_) (fun c94 => ?_)
          · refine GW.sub [0, 1, 2, 3, 4] rfl (Nat.le_refl _) (Nat.le_refl _) (lv' := [(0, _), (1, _), (2, _), (3, _), (4, _)]) ?_
            refine g_iinc (lv' := [(0, _), (1, _), (2, _), (3, _), (4, _)]) C (gd DX4_take_1 14 rfl) 2 [1, 2, 0, 3, 4] rfl rfl (by decide) rfl ?_
            refine g_goto (tgt := 18) C (gd DX4_take_1 15 rfl) (by decide) ?_
            refine GW.sub [0, 1, 2] rfl (Nat.le_refl _) (Nat.le_refl _) (lv' := [(0, _), (1, _), (2, _)]) ?_
            exact GW.cast (by rw [inc1]) rfl rfl (ih (p + 1) G E B (by omega) i.row)
          · exact absurd (nI_le (by omega) (by omega)) c94
        | succ x ih2 =>
          intro q G E B hx i v3
          have hpq : p * n + q < n * n := by
            have := Nat.mul_le_mul_right n (show p + 1 ≤ n by omega)
            rw [Nat.succ_mul] at this
            omega
          have hnn : n * n < 2 ^ 31 := Nat.lt_of_le_of_lt (Nat.mul_le_mul hn hn) (by decide)
          refine g_iload C (gd DX4_take_0 55 rfl) 4 rfl ?_
          refine g_aload_n C (gd DX4_take_0 56 rfl) 1 rfl rfl ?_
          refine g_geti (ci := 2) (k := 2) C rfl (by decide) rfl lf_TestJudge_Runner_29 hp.1 (gd DX4_take_0 57 rfl) ?_
          rw [hU_ne (by omega), hp.2.2.2.1]
          refine g_icmp_ge C 124 (gd DX4_take_0 58 rfl) (by decide) (fun c94 => ?_) (fun c94 => ?_)
          · exact absurd c94 (nI_ge (by omega) (by omega))
          · refine g_aload_n C (gd DX4_take_0 59 rfl) 0 rfl rfl ?_
            refine g_iload_n C (gd DX4_take_1 0 rfl) 2 rfl rfl ?_
            refine g_iload C (gd DX4_take_1 1 rfl) 4 rfl ?_
            refine g_aload_n C (gd DX4_take_1 2 rfl) 1 rfl rfl ?_
            refine g_getr (ci := 2) (k := 6) C rfl (by decide) rfl lf_TestJudge_Runner_46 hp.1 (hp.2.2.2.2.1 hn0).1.2.2.2 (gd DX4_take_1 3 rfl) ?_
            refine g_iload_n C (gd DX4_take_1 4 rfl) 2 rfl rfl ?_
            refine g_aload_n C (gd DX4_take_1 5 rfl) 1 rfl rfl ?_
            refine g_geti (ci := 2) (k := 2) C rfl (by decide) rfl lf_TestJudge_Runner_29 hp.1 (gd DX4_take_1 6 rfl) ?_
            rw [hU_ne (by omega), hp.2.2.2.1]
            refine g_imul C (gd DX4_take_1 7 rfl) ?_
            refine g_iload C (gd DX4_take_1 8 rfl) 4 rfl ?_
            refine g_iadd C (gd DX4_take_1 9 rfl) ?_
            refine g_iaj (j := p * n + q) C (hp.2.2.2.2.1 hn0).2.1.2.2.2 (hp.2.2.2.2.1 hn0).2.2.2.2.2 hnn (nx_add (nx_mul rfl rfl) rfl) hpq (gd DX4_take_1 10 rfl) ?_
            rw [hU_ne (by omega), (hp.2.2.2.2.2 p (by omega)).2.2.2 q (by omega)]
            refine g_cV0 (v := .null) (ci := 4) C [_, _, _] mX4_link lm_TestJudge_Runner_42 (by exact hr.1) rfl rfl (e_r_link (h := hU r h G E B) (by exact hr) (by omega) _) hfl (by decide) (by decide) (by omega) (by omega) rfl rfl (Nat.le_of_ble_eq_true rfl) (gd DX4_take_1 11 rfl) ?_
            refine g_iinc (lv' := [(0, _), (1, _), (2, _), (3, _), (4, _)]) C (gd DX4_take_1 12 rfl) 4 [1, 2, 3, 4, 0] rfl rfl (by decide) rfl ?_
            refine g_goto (tgt := 88) C (gd DX4_take_1 13 rfl) (by decide) ?_
            refine GW.cast (by rw [inc1]) rfl ?_ (ih2 (q + 1) _ E B (by omega) (i.link (by omega) (by omega)) v3)
            rw [hU_1, hU_s1]
      have k60 : ∀ B v3, tkI R n p 0 p (p + 1) p G E B → GW z w 5 (gQ z w 0 0 (fun r' h'' => r' = none ∧ ∃ G E B, h'' = hU r h G E B ∧ tkP R n G E B)) 0 0 60 [(0, .ref r), (1, .ref a), (2, .int (nI p)), (3, .int v3)] [] (hU r h G E B) := by
        intro B v3 i
        refine g_aload_n C (gd DX4_take_0 37 rfl) 0 rfl rfl ?_
        refine g_getr (ci := 4) (k := 1) C rfl (by decide) rfl lf_TestJudge_Runner_17 hr.1 hr.2.2.2.2.1 (gd DX4_take_0 38 rfl) ?_
        refine g_iload_n C (gd DX4_take_0 39 rfl) 2 rfl rfl ?_
        refine g_aload_n C (gd DX4_take_0 40 rfl) 1 rfl rfl ?_
        refine g_getr (ci := 2) (k := 5) C rfl (by decide) rfl lf_TestJudge_Runner_36 hp.1 (hp.2.2.2.2.1 hn0).1.2.2.1 (gd DX4_take_0 41 rfl) ?_
        refine g_iload_n C (gd DX4_take_0 42 rfl) 2 rfl rfl ?_
        refine g_iaj (j := p) C (hp.2.2.2.2.1 hn0).2.1.2.2.1 (hp.2.2.2.2.1 hn0).2.2.2.2.1 (by first | decide | omega) rfl (by omega) (gd DX4_take_0 43 rfl) ?_
        rw [hU_ne (by omega), (hp.2.2.2.2.2 p (by omega)).2.2.1]
        refine g_isj (j := p) C hr.2.2.2.2.2.1 hr.2.2.2.2.2.2.1 (by first | decide | omega) rfl (by omega) (gd DX4_take_0 44 rfl) ?_
        refine g_aload_n C (gd DX4_take_0 45 rfl) 0 rfl rfl ?_
        refine g_bipush (v := 6) C (gd DX4_take_0 46 rfl) (by decide) ?_
        refine g_iload_n C (gd DX4_take_0 47 rfl) 2 rfl rfl ?_
        refine g_aload_n C (gd DX4_take_0 48 rfl) 1 rfl rfl ?_
        refine g_getr (ci := 2) (k := 4) C rfl (by decide) rfl lf_TestJudge_Runner_39 hp.1 (hp.2.2.2.2.1 hn0).1.2.1 (gd DX4_take_0 49 rfl) ?_
        refine g_iload_n C (gd DX4_take_0 50 rfl) 2 rfl rfl ?_
        refine g_iaj (j := p) C (hp.2.2.2.2.1 hn0).2.1.2.1 (hp.2.2.2.2.1 hn0).2.2.2.1 (by first | decide | omega) rfl (by omega) (gd DX4_take_0 51 rfl) ?_
        rw [hU_i2, hU_ne (by omega), (hp.2.2.2.2.2 p (by omega)).2.1]
        refine g_cV0 (v := .null) (ci := 4) C [_, _, _] mX4_link lm_TestJudge_Runner_42 (by exact hr.1) rfl rfl (e_r_link (h := hU r h G (upd E p (R (34 + p))) B) (p := 6) (by exact hr) (by omega) _) hfl (by decide) (by decide) (by omega) (by omega) rfl rfl (Nat.le_of_ble_eq_true rfl) (gd DX4_take_0 52 rfl) ?_
        refine g_iconst (v := 0) C (gd DX4_take_0 53 rfl) (by decide) ?_
        refine g_istore (lv' := [(0, _), (1, _), (2, _), (3, _), (4, _)]) C (gd DX4_take_0 54 rfl) [1, 2, 3, 4, 0] (by decide) rfl ?_
        refine GW.cast rfl rfl ?_ (inner n 0 _ _ B (by omega) (i.ends.start (by omega)) v3)
        rw [hU_1, hU_s1]
      refine g_iload_n C (gd DX4_take_0 10 rfl) 2 rfl rfl ?_
      refine g_aload_n C (gd DX4_take_0 11 rfl) 1 rfl rfl ?_
      refine g_geti (ci := 2) (k := 2) C rfl (by decide) rfl lf_TestJudge_Runner_29 hp.1 (gd DX4_take_0 12 rfl) ?_
      rw [hU_ne (by omega), hp.2.2.2.1]
      refine g_icmp_ge C 130 (gd DX4_take_0 13 rfl) (by decide) (fun c23 => ?_) (fun c23 => ?_)
      · exact absurd c23 (nI_ge (by omega) (by omega))
      · refine g_iload_n C (gd DX4_take_0 14 rfl) 2 rfl rfl ?_
        refine g_bipush (v := 6) C (gd DX4_take_0 15 rfl) (by decide) ?_
        refine g_icmp_ge C 130 (gd DX4_take_0 16 rfl) (by decide) (fun c29 => ?_) (fun c29 => ?_)
        · exact absurd c29 (nI_ge (a := p) (b := 6) (by omega) (by omega))
        · refine g_aload_n C (gd DX4_take_0 17 rfl) 1 rfl rfl ?_
          refine g_getr (ci := 2) (k := 3) C rfl (by decide) rfl lf_TestJudge_Runner_33 hp.1 (hp.2.2.2.2.1 hn0).1.1 (gd DX4_take_0 18 rfl) ?_
          refine g_iload_n C (gd DX4_take_0 19 rfl) 2 rfl rfl ?_
          refine g_iaj (j := p) C (hp.2.2.2.2.1 hn0).2.1.1 (hp.2.2.2.2.1 hn0).2.2.1 (by first | decide | omega) rfl (by omega) (gd DX4_take_0 20 rfl) ?_
          rw [hU_ne (by omega), (hp.2.2.2.2.2 p (by omega)).1]
          refine g_istore_n (lv' := [(0, _), (1, _), (2, _), (3, _)]) C (gd DX4_take_0 21 rfl) [1, 2, 3, 0] rfl (by decide) rfl ?_
          refine g_iload_n C (gd DX4_take_0 22 rfl) 3 rfl rfl ?_
          refine g_if_lt C 60 (gd DX4_take_0 23 rfl) (by decide) (fun c40 => ?_) (fun c40 => ?_)
          · refine k60 B _ (i.noact fun c hc e => ?_)
            rw [e] at c40
            have := Int32.lt_iff_toInt_lt.mp c40
            rw [nI_toInt (by omega)] at this
            have h0 : (0 : Int32).toInt = 0 := rfl
            omega
          · refine g_iload_n C (gd DX4_take_0 24 rfl) 3 rfl rfl ?_
            refine g_iconst (v := 3) C (gd DX4_take_0 25 rfl) (by decide) ?_
            refine g_icmp_ge C 60 (gd DX4_take_0 26 rfl) (by decide) (fun c45 => ?_) (fun c45 => ?_)
            · refine k60 B _ (i.noact fun c hc e => ?_)
              rw [e] at c45
              have := (nI_leI (a := 3) (b := c) (by omega) (by omega)).mp c45
              omega
            · obtain ⟨c, hc, ec⟩ := nI_of c40
              rw [ec] at c45 ⊢
              have hc3 : c < 3 := ge_f (a := c) (b := 3) c45 hc (by omega)
              refine g_aload_n C (gd DX4_take_0 27 rfl) 0 rfl rfl ?_
              refine g_getr (ci := 4) (k := 2) C rfl (by decide) rfl lf_TestJudge_Runner_20 hr.1 hr.2.2.2.2.2.2.2.1 (gd DX4_take_0 28 rfl) ?_
              refine g_iload_n C (gd DX4_take_0 29 rfl) 3 rfl rfl ?_
              refine g_dup2 C (gd DX4_take_0 30 rfl) rfl rfl ?_
              refine g_iaj (j := c) C hr.2.2.2.2.2.2.2.2.1 hr.2.2.2.2.2.2.2.2.2 (by first | decide | omega) rfl (by omega) (gd DX4_take_0 31 rfl) ?_
              refine g_iconst (v := 1) C (gd DX4_take_0 32 rfl) (by decide) ?_
              refine g_iload_n C (gd DX4_take_0 33 rfl) 2 rfl rfl ?_
              refine g_ishl C (gd DX4_take_0 34 rfl) ?_
              refine g_ior C (gd DX4_take_0 35 rfl) ?_
              refine g_isj (j := c) C hr.2.2.2.2.2.2.2.2.1 hr.2.2.2.2.2.2.2.2.2 (by first | decide | omega) rfl (by omega) (gd DX4_take_0 36 rfl) ?_
              refine GW.cast rfl rfl ?_ (k60 _ _ (i.act (by omega) hc3 ec))
              rw [hU_i3, hU_3]
  refine g_aload_n C (gd DX4_take_0 0 rfl) 0 rfl rfl ?_
  refine g_getr (ci := 4) (k := 0) C rfl (by decide) rfl lf_TestJudge_Runner_13 hr.1 hr.2.1 (gd DX4_take_0 1 rfl) ?_
  refine g_iconst (v := 0) C (gd DX4_take_0 2 rfl) (by decide) ?_
  refine g_cS0 (v := .null) C [_, _] mJ7_fill_53178 lm_TestJudge_Runner_23 (e_fill hr.2.2.1 hr.2.2.2.1 (by decide) _) hfl (by decide) (by decide) (by omega) (by omega) rfl rfl (Nat.le_of_ble_eq_true rfl) (gd DX4_take_0 3 rfl) ?_
  refine g_aload_n C (gd DX4_take_0 4 rfl) 0 rfl rfl ?_
  refine g_getr (ci := 4) (k := 2) C rfl (by decide) rfl lf_TestJudge_Runner_20 hr.1 hr.2.2.2.2.2.2.2.1 (gd DX4_take_0 5 rfl) ?_
  refine g_iconst (v := 0) C (gd DX4_take_0 6 rfl) (by decide) ?_
  refine g_cS0 (v := .null) C [_, _] mJ7_fill_53178 lm_TestJudge_Runner_23 (e_fill (h := sF h (r + 1) _) hr.2.2.2.2.2.2.2.2.1 hr.2.2.2.2.2.2.2.2.2 (by decide) _) hfl (by decide) (by decide) (by omega) (by omega) rfl rfl (Nat.le_of_ble_eq_true rfl) (gd DX4_take_0 7 rfl) ?_
  refine g_iconst (v := 0) C (gd DX4_take_0 8 rfl) (by decide) ?_
  refine g_istore_n (lv' := [(0, _), (1, _), (2, _)]) C (gd DX4_take_0 9 rfl) [1, 2, 0] rfl (by decide) rfl ?_
  refine GW.cast rfl rfl ?_ (key n 0 (fun j => if j < 56 then 0 else hI h (r + 1) j) (hI h (r + 2)) (fun j => if j < 3 then 0 else hI h (r + 3) j) (by omega) ⟨fun p k b hp0 hk hb => ?_, fun p hp0 => by omega, fun c b hc hb => ?_⟩)
  · unfold hU
    rw [hI_sF_ne (show r + 3 ≠ r + 1 by omega)]
    congr 1
    rw [show hI h (r + 2) = hI (sF h (r + 1) fun j => if j < 56 then 0 else hI h (r + 1) j) (r + 2) from (hI_sF_ne (by omega)).symm, sF_self]
  · show hasB (if 8 * p + k < 56 then 0 else hI h (r + 1) (8 * p + k)) (nI b) ↔ _
    rw [if_pos (by omega)]
    exact ⟨fun x => absurd x (hasB_0 hb), fun x => by omega⟩
  · show hasB (if c < 3 then 0 else hI h (r + 3) c) (nI b) ↔ _
    rw [if_pos (by omega)]
    exact ⟨fun x => absurd x (hasB_0 hb), fun x => by omega⟩
end C3
