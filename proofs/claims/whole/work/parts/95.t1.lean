/-! Tokens: what a text is cut into, without the heap -/
abbrev isL (t : Nat) : Prop := 97 ≤ t ∧ t ≤ 122
abbrev isB (t : Nat) : Prop := t = 10 ∨ t = 32
def sgL : List Nat := [48, 49, 43, 42, 33, 40, 41, 61, 59]
def fxL : List Nat := [21155475, 36499, 12468, 857679, 294, 663726, 176741, 24388997, 143, 5572]
/-- the first place from p on that is no blank, d at most -/
def skB (tx : Nat → Nat) : Nat → Nat → Nat
  | 0, p => p
  | d + 1, p => if isB (tx p) then skB tx d (p + 1) else p
/-- the first place from p on that is no letter -/
def rnE (tx : Nat → Nat) : Nat → Nat → Nat
  | 0, p => p
  | d + 1, p => if isL (tx p) then rnE tx d (p + 1) else p
/-- k letters from q on, five bits each -/
def pkW (tx : Nat → Nat) (q : Nat) : Nat → Nat
  | 0 => 0
  | k + 1 => 32 * pkW tx q k + (tx (q + k) - 96)
/-- the token at q: its code (0 the end, 1 none, 2 a name, else a sign's byte or the word), its word, where it ends -/
def tkG (tx : Nat → Nat) (n q : Nat) : Nat × Nat × Nat :=
  if n ≤ q then (0, 0, q)
  else if isL (tx q) then (if 6 < rnE tx (n - q) q - q then 1 else if pkW tx q (rnE tx (n - q) q - q) ∈ fxL then pkW tx q (rnE tx (n - q) q - q) else 2, pkW tx q (rnE tx (n - q) q - q), rnE tx (n - q) q)
  else (if tx q ∈ sgL then tx q else 1, 0, q + 1)
/-- where token j is looked for, where it stands, its code, its word -/
def psT (tx : Nat → Nat) (n : Nat) : Nat → Nat
  | 0 => 0
  | j + 1 => (tkG tx n (skB tx (n - psT tx n j) (psT tx n j))).2.2
def plT (tx : Nat → Nat) (n j : Nat) : Nat := skB tx (n - psT tx n j) (psT tx n j)
def cdT (tx : Nat → Nat) (n j : Nat) : Nat := (tkG tx n (plT tx n j)).1
def wdT (tx : Nat → Nat) (n j : Nat) : Nat := (tkG tx n (plT tx n j)).2.1
section PT
variable {tx : Nat → Nat} {n : Nat}
theorem skB_in : ∀ d p, p ≤ skB tx d p ∧ skB tx d p ≤ p + d
  | 0, p => ⟨Nat.le_refl _, Nat.le_refl _⟩
  | d + 1, p => by
    rw [skB]
    split
    · have := skB_in d (p + 1); omega
    · omega
theorem skB_nb : ∀ d p, skB tx d p < p + d → ¬ isB (tx (skB tx d p))
  | 0, p => fun h => absurd h (by rw [skB]; omega)
  | d + 1, p => by
    rw [skB]
    split
    · intro h; exact skB_nb d (p + 1) (by omega)
    · intro _; assumption
theorem skB_b {p : Nat} (hp : p < n) (hb : isB (tx p)) : skB tx (n - p) p = skB tx (n - (p + 1)) (p + 1) := by
  rw [show n - p = (n - (p + 1)) + 1 by omega, skB, if_pos hb]
theorem skB_stay {p : Nat} (h : n ≤ p ∨ ¬ isB (tx p)) : skB tx (n - p) p = p := by
  rcases h with h | h
  · rw [show n - p = 0 by omega, skB]
  · generalize n - p = d
    cases d with
    | zero => rfl
    | succ d => rw [skB, if_neg h]
theorem rnE_in : ∀ d p, p ≤ rnE tx d p ∧ rnE tx d p ≤ p + d
  | 0, p => ⟨Nat.le_refl _, Nat.le_refl _⟩
  | d + 1, p => by
    rw [rnE]
    split
    · have := rnE_in d (p + 1); omega
    · omega
theorem rnE_l {p : Nat} (hp : p < n) (hb : isL (tx p)) : rnE tx (n - p) p = rnE tx (n - (p + 1)) (p + 1) := by
  rw [show n - p = (n - (p + 1)) + 1 by omega, rnE, if_pos hb]
theorem rnE_stay {p : Nat} (h : n ≤ p ∨ ¬ isL (tx p)) : rnE tx (n - p) p = p := by
  rcases h with h | h
  · rw [show n - p = 0 by omega, rnE]
  · generalize n - p = d
    cases d with
    | zero => rfl
    | succ d => rw [rnE, if_neg h]
theorem psT_pl (j : Nat) : psT tx n j ≤ n ∧ psT tx n j ≤ plT tx n j ∧ plT tx n j ≤ n ∧ psT tx n (j + 1) ≤ n ∧ (plT tx n j < n → plT tx n j < psT tx n (j + 1)) ∧ (plT tx n j = n → psT tx n (j + 1) = n) := by
  have base : ∀ j, psT tx n j ≤ n → _ := fun j hp => (show psT tx n j ≤ plT tx n j ∧ plT tx n j ≤ n ∧ psT tx n (j + 1) ≤ n ∧ (plT tx n j < n → plT tx n j < psT tx n (j + 1)) ∧ (plT tx n j = n → psT tx n (j + 1) = n) from by
    have h1 := skB_in (tx := tx) (n - psT tx n j) (psT tx n j)
    have h2 : psT tx n (j + 1) = (tkG tx n (plT tx n j)).2.2 := rfl
    have h3 : plT tx n j = skB tx (n - psT tx n j) (psT tx n j) := rfl
    rw [← h3] at h1
    rw [h2]
    have hr := rnE_in (tx := tx) (n - plT tx n j) (plT tx n j)
    refine ⟨h1.1, by omega, ?_, fun hlt => ?_, fun he => ?_⟩
    · unfold tkG
      split
      · show plT tx n j ≤ n; omega
      · split
        · show rnE tx _ _ ≤ n; omega
        · show _ + 1 ≤ n; omega
    · unfold tkG
      rw [if_neg (by omega)]
      split
      · rename_i hl
        show _ < rnE tx _ _
        rw [rnE_l hlt hl]
        have := rnE_in (tx := tx) (n - (plT tx n j + 1)) (plT tx n j + 1)
        omega
      · show _ < _ + 1; omega
    · unfold tkG
      rw [if_pos (by omega)]
      exact he)
  have all : ∀ j, psT tx n j ≤ n := by
    intro j
    induction j with
    | zero => exact Nat.zero_le _
    | succ j ih => exact (base j ih).2.2.1
  exact ⟨all j, base j (all j)⟩
theorem sgL_ge {t : Nat} (h : t ∈ sgL) : 33 ≤ t ∧ t ≤ 61 := (by decide : ∀ t, t ∈ sgL → 33 ≤ t ∧ t ≤ 61) t h
theorem fxL_ge {t : Nat} (h : t ∈ fxL) : 143 ≤ t ∧ t < 2 ^ 30 := (by decide : ∀ t, t ∈ fxL → 143 ≤ t ∧ t < 2 ^ 30) t h
/-- what the code of a token says -/
theorem cd_cases (j : Nat) : (plT tx n j = n ∧ cdT tx n j = 0) ∨ (plT tx n j < n ∧ (cdT tx n j = 1 ∨ cdT tx n j = 2 ∨ cdT tx n j ∈ sgL ∨ cdT tx n j ∈ fxL)) := by
  have h := psT_pl (tx := tx) (n := n) j
  by_cases e : plT tx n j = n
  · exact Or.inl ⟨e, by unfold cdT tkG; rw [if_pos (by omega)]⟩
  · refine Or.inr ⟨by omega, ?_⟩
    unfold cdT tkG
    rw [if_neg (by omega)]
    split
    · dsimp only
      split
      · exact Or.inl rfl
      · split
        · rename_i hf; exact Or.inr (Or.inr (Or.inr hf))
        · exact Or.inr (Or.inl rfl)
    · dsimp only
      split
      · rename_i hf; exact Or.inr (Or.inr (Or.inl hf))
      · exact Or.inl rfl
theorem cd_0 (j : Nat) : cdT tx n j = 0 ↔ plT tx n j = n := by
  rcases cd_cases (tx := tx) (n := n) j with ⟨a, b⟩ | ⟨a, b⟩
  · exact ⟨fun _ => a, fun _ => b⟩
  · refine ⟨fun e => ?_, fun e => by omega⟩
    rcases b with b | b | b | b
    · omega
    · omega
    · have := sgL_ge b; omega
    · have := fxL_ge b; omega
theorem cd_lt (j : Nat) : cdT tx n j < 2 ^ 30 := by
  rcases cd_cases (tx := tx) (n := n) j with ⟨a, b⟩ | ⟨a, b⟩
  · omega
  · rcases b with b | b | b | b
    · omega
    · omega
    · have := sgL_ge b; omega
    · have := fxL_ge b; omega
theorem pl_le (j : Nat) : plT tx n j ≤ n := (psT_pl (tx := tx) (n := n) j).2.2.1
theorem ps_ge : ∀ j, (∀ i, i < j → cdT tx n i ≠ 0) → j ≤ psT tx n j
  | 0, _ => Nat.zero_le _
  | j + 1, h => by
    have h1 := ps_ge j (fun i hi => h i (by omega))
    have h2 := psT_pl (tx := tx) (n := n) j
    have h3 : plT tx n j ≠ n := fun e => h j (by omega) ((cd_0 j).mpr e)
    have := h2.2.2.2.2.1 (by omega)
    omega
end PT
theorem fa_or (a b : Nat) : nI a ||| nI b = nI (a ||| b) := by
  apply Int32.toBitVec_inj.1
  show BitVec.ofNat 32 a ||| BitVec.ofNat 32 b = BitVec.ofNat 32 (a ||| b)
  apply BitVec.eq_of_getLsbD_eq
  intro i hi
  simp [hi]
theorem fb_orL (a b : Nat) : lN a ||| lN b = lN (a ||| b) := by
  apply Int64.toBitVec_inj.1
  show BitVec.ofNat 64 a ||| BitVec.ofNat 64 b = BitVec.ofNat 64 (a ||| b)
  apply BitVec.eq_of_getLsbD_eq
  intro i hi
  simp [hi]
theorem sh5 {a b : Nat} (ha : a < 2 ^ 25) (hb : b < 32) : nI a <<< ((5 : Int32) &&& 31) ||| nI b = nI (32 * a + b) := by
  rw [pk_shlN ((5 : Int32) &&& 31) 5 rfl (by omega), fa_or, show a * 2 ^ 5 = 2 ^ 5 * a by omega, ← Nat.two_pow_add_eq_or_of_lt (by omega : b < 2 ^ 5)]
/-- a byte as the class has it -/
def sb (t : Nat) : Int32 := if t < 128 then nI t else nI t - 256
theorem sb_ltr : ∀ t, t < 256 → ((¬ sb t < 97 ∧ sb t ≤ 122) ↔ isL t) := by decide +kernel
theorem sb_val : ∀ t, t < 256 → isL t → sb t - 97 + 1 = nI (t - 96) := by decide +kernel
theorem sb_10 : ∀ t, t < 256 → (sb t = 10 ↔ t = 10) := by decide +kernel
theorem sb_32 : ∀ t, t < 256 → (sb t = 32 ↔ t = 32) := by decide +kernel
theorem sb_sg : ∀ t, t < 256 → ((33 ≤ (sb t).toInt ∧ (sb t).toInt ≤ 61 ∧ t < 62 ∧ 33 ≤ t) ∨ (((sb t).toInt < 33 ∨ 61 < (sb t).toInt) ∧ ¬ t ∈ sgL)) := by decide +kernel
theorem pkW_lt {tx : Nat → Nat} {q : Nat} : ∀ k, (∀ i, i < k → isL (tx (q + i))) → pkW tx q k < 32 ^ k
  | 0, _ => Nat.one_pos
  | k + 1, h => by
    have h1 := pkW_lt k (fun i hi => h i (by omega))
    have h2 := h k (by omega)
    rw [pkW, Nat.pow_succ]
    omega
/-- tokens in the heap: numbers F, kinds A, words B, places E -/
def kSh (T : Nat) (h : HS) : Prop := hK h T = 8 ∧ (hR h T 5 = some (T + 1) ∧ hK h (T + 1) = 12 ∧ hN h (T + 1) = 501) ∧ (hR h T 6 = some (T + 2) ∧ hK h (T + 2) = 12 ∧ hN h (T + 2) = 501) ∧ hR h T 7 = some (T + 3) ∧ hK h (T + 3) = 12 ∧ hN h (T + 3) = 501
def hTk (T : Nat) (h : HS) (F A B E : Nat → Int32) : HS := sF (sF (sF (sF h T F) (T + 1) A) (T + 2) B) (T + 3) E
section HT
variable {T : Nat} {h : HS} {F A B E : Nat → Int32}
theorem hTk_0 : hI (hTk T h F A B E) T = F := by
  unfold hTk; rw [hI_sF_ne (by omega), hI_sF_ne (by omega), hI_sF_ne (by omega), hI_sF_eq]
theorem hTk_1 : hI (hTk T h F A B E) (T + 1) = A := by
  unfold hTk; rw [hI_sF_ne (by omega), hI_sF_ne (by omega), hI_sF_eq]
theorem hTk_2 : hI (hTk T h F A B E) (T + 2) = B := by
  unfold hTk; rw [hI_sF_ne (by omega), hI_sF_eq]
theorem hTk_3 : hI (hTk T h F A B E) (T + 3) = E := hI_sF_eq _ _ _
theorem hTk_ne {b : Nat} (hb : ¬ (T ≤ b ∧ b ≤ T + 3)) : hI (hTk T h F A B E) b = hI h b := by
  unfold hTk; rw [hI_sF_ne (by omega), hI_sF_ne (by omega), hI_sF_ne (by omega), hI_sF_ne (by omega)]
theorem hTk_i0 {k : Nat} {v : Int32} : sI (hTk T h F A B E) T k v = hTk T h (upd F k v) A B E := by
  rw [sI_sF, hTk_0]; unfold hTk
  rw [sF_sF_c (by omega), sF_sF_c (a := T + 2) (by omega), sF_sF_c (a := T + 1) (by omega), sF_sF]
theorem hTk_i1 {k : Nat} {v : Int32} : sI (hTk T h F A B E) (T + 1) k v = hTk T h F (upd A k v) B E := by
  rw [sI_sF, hTk_1]; unfold hTk
  rw [sF_sF_c (by omega), sF_sF_c (a := T + 2) (by omega), sF_sF]
theorem hTk_i2 {k : Nat} {v : Int32} : sI (hTk T h F A B E) (T + 2) k v = hTk T h F A (upd B k v) E := by
  rw [sI_sF, hTk_2]; unfold hTk
  rw [sF_sF_c (by omega), sF_sF]
theorem hTk_i3 {k : Nat} {v : Int32} : sI (hTk T h F A B E) (T + 3) k v = hTk T h F A B (upd E k v) := by
  rw [sI_sF, hTk_3]; unfold hTk
  rw [sF_sF]
theorem hTk_self : hTk T h (hI h T) (hI h (T + 1)) (hI h (T + 2)) (hI h (T + 3)) = h := by
  unfold hTk
  rw [sF_self, sF_self, sF_self, sF_self]
end HT
section T1
variable {w : gD} {T : Nat} {h : HS}
theorem e_k_put (hk : kSh T h) {F A B E : Nat → Int32} {c : Nat} (hc : c < 501) (h0 : F 0 = nI c) (a b d : Int32) : EvF w 0 0 0 yX7_put cX7_put 4 none [.ref T, .int a, .int b, .int d] (hTk T h F A B E) none (hTk T h (upd F 0 (nI (c + 1))) (upd A c a) (upd B c b) (upd E c d)) := by
  refine g_start (by decide) (Nat.le_of_ble_eq_true rfl) [(0, _), (1, _), (2, _), (3, _)] rfl (fun z hfl C => ?_)
  refine g_aload_n C (gd DX7_put_0 0 rfl) 0 rfl rfl ?_
  refine g_geti (ci := 7) (k := 0) C rfl (by decide) rfl lf_TestJudge_Tokens_9 hk.1 (gd DX7_put_0 1 rfl) ?_
  rw [hTk_0, h0]
  refine g_aload_n C (gd DX7_put_0 2 rfl) 0 rfl rfl ?_
  refine g_getr (ci := 7) (k := 5) C rfl (by decide) rfl lf_TestJudge_Tokens_27 hk.1 hk.2.1.1 (gd DX7_put_0 3 rfl) ?_
  refine g_alen_i C hk.2.1.2.1 (gd DX7_put_0 4 rfl) ?_
  rw [show nI (hN (hTk T h F A B E) (T + 1)) = nI 501 from congrArg nI hk.2.1.2.2]
  refine g_icmp_ge C 52 (gd DX7_put_0 5 rfl) (by decide) (fun c9 => ?_) (fun c9 => ?_)
  · exact absurd c9 (nI_ge (a := c) (b := 501) (by omega) (by omega))
  · refine g_aload_n C (gd DX7_put_0 6 rfl) 0 rfl rfl ?_
    refine g_getr (ci := 7) (k := 5) C rfl (by decide) rfl lf_TestJudge_Tokens_27 hk.1 hk.2.1.1 (gd DX7_put_0 7 rfl) ?_
    refine g_aload_n C (gd DX7_put_0 8 rfl) 0 rfl rfl ?_
    refine g_geti (ci := 7) (k := 0) C rfl (by decide) rfl lf_TestJudge_Tokens_9 hk.1 (gd DX7_put_0 9 rfl) ?_
    rw [hTk_0, h0]
    refine g_iload_n C (gd DX7_put_0 10 rfl) 1 rfl rfl ?_
    refine g_isj (j := c) C hk.2.1.2.1 hk.2.1.2.2 (by first | decide | omega) rfl (by omega) (gd DX7_put_0 11 rfl) ?_
    rw [hTk_i1]
    refine g_aload_n C (gd DX7_put_0 12 rfl) 0 rfl rfl ?_
    refine g_getr (ci := 7) (k := 6) C rfl (by decide) rfl lf_TestJudge_Tokens_31 hk.1 hk.2.2.1.1 (gd DX7_put_0 13 rfl) ?_
    refine g_aload_n C (gd DX7_put_0 14 rfl) 0 rfl rfl ?_
    refine g_geti (ci := 7) (k := 0) C rfl (by decide) rfl lf_TestJudge_Tokens_9 hk.1 (gd DX7_put_0 15 rfl) ?_
    rw [hTk_0, h0]
    refine g_iload_n C (gd DX7_put_0 16 rfl) 2 rfl rfl ?_
    refine g_isj (j := c) C hk.2.2.1.2.1 hk.2.2.1.2.2 (by first | decide | omega) rfl (by omega) (gd DX7_put_0 17 rfl) ?_
    rw [hTk_i2]
    refine g_aload_n C (gd DX7_put_0 18 rfl) 0 rfl rfl ?_
    refine g_getr (ci := 7) (k := 7) C rfl (by decide) rfl lf_TestJudge_Tokens_34 hk.1 hk.2.2.2.1 (gd DX7_put_0 19 rfl) ?_
    refine g_aload_n C (gd DX7_put_0 20 rfl) 0 rfl rfl ?_
    refine g_geti (ci := 7) (k := 0) C rfl (by decide) rfl lf_TestJudge_Tokens_9 hk.1 (gd DX7_put_0 21 rfl) ?_
    rw [hTk_0, h0]
    refine g_iload_n C (gd DX7_put_0 22 rfl) 3 rfl rfl ?_
    refine g_isj (j := c) C hk.2.2.2.2.1 hk.2.2.2.2.2 (by first | decide | omega) rfl (by omega) (gd DX7_put_0 23 rfl) ?_
    rw [hTk_i3]
    refine g_aload_n C (gd DX7_put_0 24 rfl) 0 rfl rfl ?_
    refine g_dup C (gd DX7_put_0 25 rfl) rfl ?_
    refine g_geti (ci := 7) (k := 0) C rfl (by decide) rfl lf_TestJudge_Tokens_9 hk.1 (gd DX7_put_0 26 rfl) ?_
    rw [hTk_0, h0]
    refine g_iconst (v := 1) C (gd DX7_put_0 27 rfl) (by decide) ?_
    refine g_iadd C (gd DX7_put_0 28 rfl) ?_
    rw [show nI c + 1 = nI (c + 1) from nx_add (b := 1) rfl rfl]
    refine g_puti (ci := 7) (k := 0) C rfl (by decide) rfl lf_TestJudge_Tokens_9 hk.1 (Or.inl rfl) rfl (gd DX7_put_0 29 rfl) ?_
    rw [hTk_i0]
    exact g_vret C (by omega) (by omega) ⟨rfl, rfl⟩ (gd DX7_put_0 30 rfl)
theorem e_k_advance (hk : kSh T h) {F A B E : Nat → Int32} {c j : Nat} (hc : c ≤ 501) (hj : j < c) (h0 : F 0 = nI c) (h4 : F 4 = nI j) : EvF w 0 0 0 yX7_advance cX7_advance 1 none [.ref T] (hTk T h F A B E) none (hTk T h (upd (upd (upd (upd F 1 (A j)) 2 (B j)) 3 (E j)) 4 (nI (j + 1))) A B E) := by
  refine g_start (by decide) (Nat.le_of_ble_eq_true rfl) [(0, _)] rfl (fun z hfl C => ?_)
  refine g_aload_n C (gd DX7_advance_0 0 rfl) 0 rfl rfl ?_
  refine g_geti (ci := 7) (k := 4) C rfl (by decide) rfl lf_TestJudge_Tokens_24 hk.1 (gd DX7_advance_0 1 rfl) ?_
  rw [hTk_0, h4]
  refine g_aload_n C (gd DX7_advance_0 2 rfl) 0 rfl rfl ?_
  refine g_geti (ci := 7) (k := 0) C rfl (by decide) rfl lf_TestJudge_Tokens_9 hk.1 (gd DX7_advance_0 3 rfl) ?_
  rw [hTk_0, h0]
  refine g_icmp_ge C 60 (gd DX7_advance_0 4 rfl) (by decide) (fun c8 => ?_) (fun c8 => ?_)
  · exact absurd c8 (nI_ge (by omega) (by omega))
  · refine g_aload_n C (gd DX7_advance_0 5 rfl) 0 rfl rfl ?_
    refine g_aload_n C (gd DX7_advance_0 6 rfl) 0 rfl rfl ?_
    refine g_getr (ci := 7) (k := 5) C rfl (by decide) rfl lf_TestJudge_Tokens_27 hk.1 hk.2.1.1 (gd DX7_advance_0 7 rfl) ?_
    refine g_aload_n C (gd DX7_advance_0 8 rfl) 0 rfl rfl ?_
    refine g_geti (ci := 7) (k := 4) C rfl (by decide) rfl lf_TestJudge_Tokens_24 hk.1 (gd DX7_advance_0 9 rfl) ?_
    rw [hTk_0, h4]
    refine g_iaj (j := j) C hk.2.1.2.1 hk.2.1.2.2 (by first | decide | omega) rfl (by omega) (gd DX7_advance_0 10 rfl) ?_
    rw [hTk_1]
    refine g_puti (ci := 7) (k := 1) C rfl (by decide) rfl lf_TestJudge_Tokens_15 hk.1 (Or.inl rfl) rfl (gd DX7_advance_0 11 rfl) ?_
    rw [hTk_i0]
    refine g_aload_n C (gd DX7_advance_0 12 rfl) 0 rfl rfl ?_
    refine g_aload_n C (gd DX7_advance_0 13 rfl) 0 rfl rfl ?_
    refine g_getr (ci := 7) (k := 6) C rfl (by decide) rfl lf_TestJudge_Tokens_31 hk.1 hk.2.2.1.1 (gd DX7_advance_0 14 rfl) ?_
    refine g_aload_n C (gd DX7_advance_0 15 rfl) 0 rfl rfl ?_
    refine g_geti (ci := 7) (k := 4) C rfl (by decide) rfl lf_TestJudge_Tokens_24 hk.1 (gd DX7_advance_0 16 rfl) ?_
    rw [hTk_0, upd, if_neg (by omega), h4]
    refine g_iaj (j := j) C hk.2.2.1.2.1 hk.2.2.1.2.2 (by first | decide | omega) rfl (by omega) (gd DX7_advance_0 17 rfl) ?_
    rw [hTk_2]
    refine g_puti (ci := 7) (k := 2) C rfl (by decide) rfl lf_TestJudge_Tokens_18 hk.1 (Or.inl rfl) rfl (gd DX7_advance_0 18 rfl) ?_
    rw [hTk_i0]
    refine g_aload_n C (gd DX7_advance_0 19 rfl) 0 rfl rfl ?_
    refine g_aload_n C (gd DX7_advance_0 20 rfl) 0 rfl rfl ?_
    refine g_getr (ci := 7) (k := 7) C rfl (by decide) rfl lf_TestJudge_Tokens_34 hk.1 hk.2.2.2.1 (gd DX7_advance_0 21 rfl) ?_
    refine g_aload_n C (gd DX7_advance_0 22 rfl) 0 rfl rfl ?_
    refine g_geti (ci := 7) (k := 4) C rfl (by decide) rfl lf_TestJudge_Tokens_24 hk.1 (gd DX7_advance_0 23 rfl) ?_
    rw [hTk_0, upd, if_neg (by omega), upd, if_neg (by omega), h4]
    refine g_iaj (j := j) C hk.2.2.2.2.1 hk.2.2.2.2.2 (by first | decide | omega) rfl (by omega) (gd DX7_advance_0 24 rfl) ?_
    rw [hTk_3]
    refine g_puti (ci := 7) (k := 3) C rfl (by decide) rfl lf_TestJudge_Tokens_21 hk.1 (Or.inl rfl) rfl (gd DX7_advance_0 25 rfl) ?_
    rw [hTk_i0]
    refine g_aload_n C (gd DX7_advance_0 26 rfl) 0 rfl rfl ?_
    refine g_dup C (gd DX7_advance_0 27 rfl) rfl ?_
    refine g_geti (ci := 7) (k := 4) C rfl (by decide) rfl lf_TestJudge_Tokens_24 hk.1 (gd DX7_advance_0 28 rfl) ?_
    rw [hTk_0, upd, if_neg (by omega), upd, if_neg (by omega), upd, if_neg (by omega), h4]
    refine g_iconst (v := 1) C (gd DX7_advance_0 29 rfl) (by decide) ?_
    refine g_iadd C (gd DX7_advance_0 30 rfl) ?_
    rw [show nI j + 1 = nI (j + 1) from nx_add (b := 1) rfl rfl]
    refine g_puti (ci := 7) (k := 4) C rfl (by decide) rfl lf_TestJudge_Tokens_24 hk.1 (Or.inl rfl) rfl (gd DX7_advance_0 31 rfl) ?_
    rw [hTk_i0]
    exact g_vret C (by omega) (by omega) ⟨rfl, rfl⟩ (gd DX7_advance_0 32 rfl)
theorem e_k_isSign {t : Nat} (ht : t < 256) : EvF w 0 0 0 yX7_isSign cX7_isSign 1 (some .boolean) [.int (sb t)] h (some (.int (b1 (t ∈ sgL)))) h := by
  refine g_start (by decide) (Nat.le_of_ble_eq_true rfl) [(0, _)] rfl (fun z hfl C => ?_)
  refine g_iload_n C (gd DX7_isSign_0 0 rfl) 0 rfl rfl ?_
  rcases sb_sg t ht with ⟨-, -, q1, q2⟩ | ⟨q, hn⟩
  · have q3 : t = 33 ∨ t = 34 ∨ t = 35 ∨ t = 36 ∨ t = 37 ∨ t = 38 ∨ t = 39 ∨ t = 40 ∨ t = 41 ∨ t = 42 ∨ t = 43 ∨ t = 44 ∨ t = 45 ∨ t = 46 ∨ t = 47 ∨ t = 48 ∨ t = 49 ∨ t = 50 ∨ t = 51 ∨ t = 52 ∨ t = 53 ∨ t = 54 ∨ t = 55 ∨ t = 56 ∨ t = 57 ∨ t = 58 ∨ t = 59 ∨ t = 60 ∨ t = 61 := by omega
    rcases q3 with rfl | rfl | rfl | rfl | rfl | rfl | rfl | rfl | rfl | rfl | rfl | rfl | rfl | rfl | rfl | rfl | rfl | rfl | rfl | rfl | rfl | rfl | rfl | rfl | rfl | rfl | rfl | rfl | rfl
    all_goals first
      | (refine g_tableIn C 132 (gd DX7_isSign_0 1 rfl) (by decide) (by decide) rfl (by decide) ?_
         refine g_iconst (v := 1) C (gd DX7_isSign_0 2 rfl) (by decide) ?_
         exact g_zret C (by decide) (by omega) (by omega) ⟨rfl, rfl⟩ (gd DX7_isSign_0 3 rfl))
      | (refine g_tableIn C 134 (gd DX7_isSign_0 1 rfl) (by decide) (by decide) rfl (by decide) ?_
         refine g_iconst (v := 0) C (gd DX7_isSign_0 4 rfl) (by decide) ?_
         exact g_zret C (by decide) (by omega) (by omega) ⟨rfl, rfl⟩ (gd DX7_isSign_0 5 rfl))
  · refine g_tableOut C 134 (gd DX7_isSign_0 1 rfl) q (by decide) ?_
    refine g_iconst (v := 0) C (gd DX7_isSign_0 4 rfl) (by decide) ?_
    exact g_zret C (by decide) (by omega) (by omega) ⟨by rw [b1_f hn], rfl⟩ (gd DX7_isSign_0 5 rfl)
theorem e_k_isFixed {t : Nat} (ht : t < 2 ^ 31) : EvF w 0 0 0 yX7_isFixed cX7_isFixed 1 (some .boolean) [.int (nI t)] h (some (.int (b1 (t ∈ fxL)))) h := by
  refine g_start (by decide) (Nat.le_of_ble_eq_true rfl) [(0, _)] rfl (fun z hfl C => ?_)
  refine g_iload_n C (gd DX7_isFixed_0 0 rfl) 0 rfl rfl ?_
  by_cases hm : t ∈ fxL
  · rw [b1_t hm]
    have hm2 : t = 21155475 ∨ t = 36499 ∨ t = 12468 ∨ t = 857679 ∨ t = 294 ∨ t = 663726 ∨ t = 176741 ∨ t = 24388997 ∨ t = 143 ∨ t = 5572 := by simpa [fxL] using hm
    rcases hm2 with rfl | rfl | rfl | rfl | rfl | rfl | rfl | rfl | rfl | rfl
    all_goals
      refine g_lookup (off := 91) C 92 (gd DX7_isFixed_0 1 rfl) (by decide) (by decide) (by decide) ?_
      refine g_iconst (v := 1) C (gd DX7_isFixed_0 2 rfl) (by decide) ?_
      exact g_zret C (by decide) (by omega) (by omega) ⟨rfl, rfl⟩ (gd DX7_isFixed_0 3 rfl)
  · rw [b1_f hm]
    refine g_lookup (off := 93) C 94 (gd DX7_isFixed_0 1 rfl) (by decide) ?_ (by decide) ?_
    · have hm2 : ¬ (t = 21155475 ∨ t = 36499 ∨ t = 12468 ∨ t = 857679 ∨ t = 294 ∨ t = 663726 ∨ t = 176741 ∨ t = 24388997 ∨ t = 143 ∨ t = 5572) := fun q => hm (by simpa [fxL] using q)
      rw [nI_toInt ht]
      simp only [Op.lookupswitch.offset_cons, Op.lookupswitch.offset_nil]
      rw [if_neg (by omega), if_neg (by omega), if_neg (by omega), if_neg (by omega), if_neg (by omega), if_neg (by omega), if_neg (by omega), if_neg (by omega), if_neg (by omega), if_neg (by omega)]
    · refine g_iconst (v := 0) C (gd DX7_isFixed_0 4 rfl) (by decide) ?_
      exact g_zret C (by decide) (by omega) (by omega) ⟨rfl, rfl⟩ (gd DX7_isFixed_0 5 rfl)
end T1
