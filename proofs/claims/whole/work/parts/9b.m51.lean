/-! reading in the reference: small steps over tokens -/
theorem fx_inj : ∀ i, i < 10 → ∀ k, k < 10 → fxL.getD i 0 = fxL.getD k 0 → i = k := by decide
theorem fx_in : ∀ i, i < 10 → fxL.getD i 0 ∈ fxL := by decide
theorem b1_cg {p q : Prop} [Decidable p] [Decidable q] (h : p ↔ q) : b1 p = b1 q := by
  by_cases e : p
  · rw [b1_t e, b1_t (h.mp e)]
  · rw [b1_f e, b1_f (fun x => e (h.mpr x))]
section MC
variable {F : Nat → Int32} {v : Int64} {c wv : Nat}
theorem mCd.sg (h : mCd F v c wv) {k : Nat} (hk : k ∈ sgL) : (F 20 = 3 ∧ F 21 = nI k) ↔ c = k := by
  have hk2 := sgL_ge hk
  rcases h with ⟨h1, h2⟩ | ⟨h1, h2⟩ | ⟨h1, h2, -⟩ | ⟨h1, h2, h3⟩ | ⟨i, i1, i2, i3, i4⟩
  · exact ⟨fun q => by rw [h2] at q; exact absurd q.1 (by decide), fun q => by omega⟩
  · exact ⟨fun q => by rw [h2] at q; exact absurd q.1 (by decide), fun q => by omega⟩
  · exact ⟨fun q => by rw [h2] at q; exact absurd q.1 (by decide), fun q => by omega⟩
  · have h4 := sgL_ge h1
    exact ⟨fun q => by rw [h3] at q; exact (nI_eq (by omega) (by omega)).mp q.2, fun q => ⟨h2, by rw [h3, q]⟩⟩
  · exact ⟨fun q => by rw [i3] at q; exact absurd q.1 (by decide), fun q => by have := fxL_ge (fx_in i i1); omega⟩
theorem mCd.wo (h : mCd F v c wv) {k : Nat} (hk : k < 10) : (F 20 = 2 ∧ F 22 = nI k) ↔ c = fxL.getD k 0 := by
  have hk2 := fxL_ge (fx_in k hk)
  rcases h with ⟨h1, h2⟩ | ⟨h1, h2⟩ | ⟨h1, h2, h3, -⟩ | ⟨h1, h2, h3⟩ | ⟨i, i1, i2, i3, i4⟩
  · exact ⟨fun q => by rw [h2] at q; exact absurd q.1 (by decide), fun q => by omega⟩
  · exact ⟨fun q => by rw [h2] at q; exact absurd q.1 (by decide), fun q => by omega⟩
  · exact ⟨fun q => by rw [h3] at q; exact absurd q.2.symm (nI_neg1 (by omega)), fun q => by omega⟩
  · have h4 := sgL_ge h1
    exact ⟨fun q => by rw [h2] at q; exact absurd q.1 (by decide), fun q => by omega⟩
  · refine ⟨fun q => ?_, fun q => ⟨i3, ?_⟩⟩
    · rw [i4] at q
      have := (nI_eq (by omega) (by omega)).mp q.2
      rw [← i2, this]
    · rw [i4, fx_inj i i1 k hk (by omega)]
theorem mCd.nm (h : mCd F v c wv) : (F 20 = 2 ∧ F 22 = -1) ↔ c = 2 := by
  rcases h with ⟨h1, h2⟩ | ⟨h1, h2⟩ | ⟨h1, h2, h3, -⟩ | ⟨h1, h2, h3⟩ | ⟨i, i1, i2, i3, i4⟩
  · exact ⟨fun q => by rw [h2] at q; exact absurd q.1 (by decide), fun q => by omega⟩
  · exact ⟨fun q => by rw [h2] at q; exact absurd q.1 (by decide), fun q => by omega⟩
  · exact ⟨fun _ => h1, fun _ => ⟨h2, h3⟩⟩
  · have h4 := sgL_ge h1
    exact ⟨fun q => by rw [h2] at q; exact absurd q.1 (by decide), fun q => by omega⟩
  · exact ⟨fun q => by rw [i4] at q; exact absurd q.2 (nI_neg1 (by omega)), fun q => by have := fxL_ge (fx_in i i1); omega⟩
theorem mCd.bd (h : mCd F v c wv) : F 20 = 1 ↔ c = 1 := by
  rcases h with ⟨h1, h2⟩ | ⟨h1, h2⟩ | ⟨h1, h2, -⟩ | ⟨h1, h2, h3⟩ | ⟨i, i1, i2, i3, i4⟩
  · exact ⟨fun q => by rw [h2] at q; exact absurd q (by decide), fun q => by omega⟩
  · exact ⟨fun _ => h1, fun _ => h2⟩
  · exact ⟨fun q => by rw [h2] at q; exact absurd q (by decide), fun q => by omega⟩
  · have h4 := sgL_ge h1
    exact ⟨fun q => by rw [h2] at q; exact absurd q (by decide), fun q => by omega⟩
  · exact ⟨fun q => by rw [i3] at q; exact absurd q (by decide), fun q => by have := fxL_ge (fx_in i i1); omega⟩
theorem mCd.en (h : mCd F v c wv) : F 20 = 0 ↔ c = 0 := by
  rcases h with ⟨h1, h2⟩ | ⟨h1, h2⟩ | ⟨h1, h2, -⟩ | ⟨h1, h2, h3⟩ | ⟨i, i1, i2, i3, i4⟩
  · exact ⟨fun _ => h1, fun _ => h2⟩
  · exact ⟨fun q => by rw [h2] at q; exact absurd q (by decide), fun q => by omega⟩
  · exact ⟨fun q => by rw [h2] at q; exact absurd q (by decide), fun q => by omega⟩
  · have h4 := sgL_ge h1
    exact ⟨fun q => by rw [h2] at q; exact absurd q (by decide), fun q => by omega⟩
  · exact ⟨fun q => by rw [i3] at q; exact absurd q (by decide), fun q => by have := fxL_ge (fx_in i i1); omega⟩
theorem mCd.w2 (h : mCd F v c wv) (hc : c = 2) : v = lN wv ∧ wv < 2 ^ 30 := by
  rcases h with ⟨h1, h2⟩ | ⟨h1, h2⟩ | ⟨h1, h2, h3, h4⟩ | ⟨h1, h2, h3⟩ | ⟨i, i1, i2, i3, i4⟩
  · omega
  · omega
  · exact h4
  · have h4 := sgL_ge h1; omega
  · have := fxL_ge (fx_in i i1); omega
end MC
/-- the least of k names from o on that is the word w -/
def fndN (W : Nat → Nat) (o w : Nat) : Nat → Option Nat
  | 0 => none
  | k + 1 => match fndN W o w k with
    | some i => some i
    | none => if W (o + k) = w then some k else none
theorem fndN_stay {W : Nat → Nat} {o w k x : Nat} (h : fndN W o w k = some x) : ∀ d, fndN W o w (k + d) = some x
  | 0 => h
  | d + 1 => by show (match fndN W o w (k + d) with | some i => some i | none => _) = some x; rw [fndN_stay h d]
theorem fndN_lt {W : Nat → Nat} {o w : Nat} : ∀ k x, fndN W o w k = some x → x < k ∧ W (o + x) = w
  | 0, _, h => by cases h
  | k + 1, x, h => by
    rw [fndN] at h
    cases e : fndN W o w k with
    | some i =>
      rw [e] at h
      have := fndN_lt k i e
      cases h
      exact ⟨by omega, this.2⟩
    | none =>
      rw [e] at h
      dsimp only at h
      by_cases q : W (o + k) = w
      · rw [if_pos q] at h
        cases h
        exact ⟨by omega, q⟩
      · rw [if_neg q] at h
        cases h
def vN : Option Nat → Int32
  | some i => nI i
  | none => -1
theorem vN_1 {x : Option Nat} {k : Nat} (hx : ∀ i, x = some i → i < k) (hk : k < 2 ^ 31) : vN x = -1 ↔ x = none := by
  cases x with
  | none => exact ⟨fun _ => rfl, fun _ => rfl⟩
  | some i => exact ⟨fun q => absurd q (nI_neg1 (by have := hx i rfl; omega)), fun q => by cases q⟩
/-- what a name tells -/
def nmOf (nt na np : Nat) (W : Nat → Nat) (PR : Nat → pR) (w : Nat) : Option pR :=
  match fndN W 0 w nt with
  | some k => some (0, rPlain (holdF (nI k) (2 ^ nt)))
  | none => match fndN W 3 w na with
    | some k => some (1, rAct (nI k) (allF (nI nt)))
    | none => match fndN W 6 w np with
      | some k => some (PR k)
      | none => none
def envT (tx : Nat → Nat) (n nt na np : Nat) (W : Nat → Nat) (PR : Nat → pR) : pE := (cdT tx n, wdT tx n, nmOf nt na np W PR, allF (nI nt))
/-- only what reading sums may change has changed: tokens, free, open, records from f on -/
def rdF (m f : Nat) (h h' : HS) : Prop := h'.2.2 = h.2.2 ∧ (∀ b j, ¬ (b = m ∧ 18 ≤ j ∧ j ≤ 26 ∧ j ≠ 23 ∧ j ≠ 24) → ¬ (b = m + 1 ∧ 307 * f ≤ j) → hI h' b j = hI h b j) ∧ ∀ b j, ¬ (b = m ∧ j = 27) → hL h' b j = hL h b j
/-- the same, fault and place too -/
def rdG (m f : Nat) (h h' : HS) : Prop := h'.2.2 = h.2.2 ∧ (∀ b j, ¬ (b = m ∧ 18 ≤ j ∧ j ≤ 26) → ¬ (b = m + 1 ∧ 307 * f ≤ j) → hI h' b j = hI h b j) ∧ ∀ b j, ¬ (b = m ∧ j = 27) → hL h' b j = hL h b j
theorem rdF.rf (m f : Nat) (h : HS) : rdF m f h h := ⟨rfl, fun _ _ _ _ => rfl, fun _ _ _ => rfl⟩
theorem rdF.tr {m f : Nat} {h h1 h2 : HS} (a : rdF m f h h1) (b : rdF m f h1 h2) : rdF m f h h2 := ⟨b.1.trans a.1, fun x j p q => (b.2.1 x j p q).trans (a.2.1 x j p q), fun x j p => (b.2.2 x j p).trans (a.2.2 x j p)⟩
theorem rdG.tr {m f : Nat} {h h1 h2 : HS} (a : rdG m f h h1) (b : rdG m f h1 h2) : rdG m f h h2 := ⟨b.1.trans a.1, fun x j p q => (b.2.1 x j p q).trans (a.2.1 x j p q), fun x j p => (b.2.2 x j p).trans (a.2.2 x j p)⟩
theorem rdF.le {m f f' : Nat} {h h1 : HS} (a : rdF m f' h h1) (hf : f ≤ f') : rdF m f h h1 := ⟨a.1, fun x j p q => a.2.1 x j p (fun r => q ⟨r.1, by have := r.2; omega⟩), a.2.2⟩
theorem rdG.le {m f f' : Nat} {h h1 : HS} (a : rdG m f' h h1) (hf : f ≤ f') : rdG m f h h1 := ⟨a.1, fun x j p q => a.2.1 x j p (fun r => q ⟨r.1, by have := r.2; omega⟩), a.2.2⟩
theorem rdF.g {m f : Nat} {h h1 : HS} (a : rdF m f h h1) : rdG m f h h1 := ⟨a.1, fun x j p q => a.2.1 x j (fun r => p ⟨r.1, by omega⟩) q, a.2.2⟩
theorem rdF.nx {m f : Nat} {h h1 : HS} (a : nxF m h h1) : rdF m f h h1 := ⟨a.1, fun x j p _ => a.2.1 x j (fun r => p ⟨r.1, by omega⟩), a.2.2⟩
theorem rdF.i {m f k : Nat} {h : HS} {v : Int32} (h1 : 25 ≤ k) (h2 : k ≤ 26) : rdF m f h (sI h m k v) := ⟨rfl, fun x j p _ => by rw [hI_sI, if_neg (fun r => p ⟨r.1, by omega⟩)], fun _ _ _ => rfl⟩
theorem rdG.i {m f k : Nat} {h : HS} {v : Int32} (h1 : 18 ≤ k) (h2 : k ≤ 26) : rdG m f h (sI h m k v) := ⟨rfl, fun x j p _ => by rw [hI_sI, if_neg (fun r => p ⟨r.1, by omega⟩)], fun _ _ _ => rfl⟩
theorem rdF.sh {m f : Nat} {h h1 : HS} (a : rdF m f h h1) (hm : mSh m h) : mSh m h1 := by
  obtain ⟨a1, -, -⟩ := a
  have e1 : hR h1 = hR h := congrArg (fun x => x.1) a1
  have e2 : hK h1 = hK h := congrArg (fun x => x.2.1) a1
  have e3 : hN h1 = hN h := congrArg (fun x => x.2.2.1) a1
  unfold mSh
  rw [e1, e2, e3]
  exact hm
/-- record t is R -/
def hRc (m : Nat) (h : HS) (t : Nat) (R : Nat → Int32) : HS := sF h (m + 1) (pRec (hI h (m + 1)) t R)
theorem rdF.rc {m f t : Nat} {h : HS} {R : Nat → Int32} (hf : f ≤ t) : rdF m f h (hRc m h t R) := by
  refine ⟨rfl, fun b j p q => ?_, fun _ _ _ => rfl⟩
  unfold hRc
  by_cases e : b = m + 1
  · subst e
    rw [hI_sF_eq]
    exact if_neg (fun r => q ⟨rfl, by have : 307 * f ≤ 307 * t := Nat.mul_le_mul_left 307 hf; omega⟩)
  · rw [hI_sF_ne e]
theorem hRc_at {m t : Nat} {h : HS} {R : Nat → Int32} : Ag (gRec (hI (hRc m h t R) (m + 1)) t) R := fun k hk => by
  unfold hRc
  rw [hI_sF_eq]
  exact gRec_pRec hk
theorem hRc_o {m t q : Nat} {h : HS} {R : Nat → Int32} (hq : q ≠ t) : Ag (gRec (hI (hRc m h t R) (m + 1)) q) (gRec (hI h (m + 1)) q) := fun k hk => by
  unfold hRc
  rw [hI_sF_eq]
  exact gRec_pRec_ne hk hq
theorem hRc_m {m t : Nat} {h : HS} {R : Nat → Int32} : hI (hRc m h t R) m = hI h m := hI_sF_ne (by omega)
/-- a record below f stays -/
theorem rdF.rec {m f q : Nat} {h h1 : HS} (a : rdF m f h h1) (hq : q < f) : Ag (gRec (hI h1 (m + 1)) q) (gRec (hI h (m + 1)) q) := fun k hk => by
  have : 307 * (q + 1) ≤ 307 * f := Nat.mul_le_mul_left 307 hq
  exact a.2.1 (m + 1) _ (fun r => by omega) (fun r => by have := r.2; omega)
/-- the names that are told so far -/
def rdN (m : Nat) (h : HS) (nt na np : Nat) (W : Nat → Nat) (PR : Nat → pR) : Prop := (nt ≤ 3 ∧ na ≤ 3 ∧ np ≤ 8) ∧ (hI h m 29 = nI nt ∧ hI h m 30 = nI na ∧ hI h m 31 = nI np) ∧ (∀ k, W k < 2 ^ 30) ∧ ((∀ k, k < nt → hL h (m + 4) (0 + k) = lN (W (0 + k))) ∧ (∀ k, k < na → hL h (m + 4) (3 + k) = lN (W (3 + k))) ∧ ∀ k, k < np → hL h (m + 4) (6 + k) = lN (W (6 + k))) ∧ ∀ k, k < np → Ag (gRec (hI h (m + 1)) (11 + k)) (PR k).2 ∧ (PR k).1 ≤ 5 ∧ okT (allF (nI nt)) (PR k)
theorem rdN.fr {m f nt na np : Nat} {h h1 : HS} {W : Nat → Nat} {PR : Nat → pR} (r : rdN m h nt na np W PR) (a : rdF m f h h1) (hf : 22 ≤ f) : rdN m h1 nt na np W PR := by
  obtain ⟨⟨r1, r2, r3⟩, ⟨r4, r5, r6⟩, r7, ⟨r8, r9, r10⟩, r11⟩ := r
  have hl : ∀ k, hL h1 (m + 4) k = hL h (m + 4) k := fun k => a.2.2 _ _ (fun q => by omega)
  have hi : ∀ k, 27 ≤ k → hI h1 m k = hI h m k := fun k hk => a.2.1 _ _ (fun q => by omega) (fun q => by omega)
  refine ⟨⟨r1, r2, r3⟩, ⟨by rw [hi 29 (by omega)]; exact r4, by rw [hi 30 (by omega)]; exact r5, by rw [hi 31 (by omega)]; exact r6⟩, r7, ⟨fun k hk => by rw [hl]; exact r8 k hk, fun k hk => by rw [hl]; exact r9 k hk, fun k hk => by rw [hl]; exact r10 k hk⟩, fun k hk => ?_⟩
  obtain ⟨q1, q2⟩ := r11 k hk
  exact ⟨fun i hi => (a.rec (q := 11 + k) (by omega) i hi).trans (q1 i hi), q2⟩
/-- what reading a base, one, row or sum gives: fault and place, or the token behind and a record more -/
def rdP (m : Nat) (h : HS) (tx : Nat → Nat) (n f o : Nat) (r : pRz) (r' : Option Value) (h' : HS) : Prop := match r with
  | .inl x => rdG m f h h' ∧ r' = some (.int 0) ∧ hI h' m 23 = nI x.1 ∧ hI h' m 24 = nI (plT tx n x.2)
  | .inr x => rdF m f h h' ∧ r' = some (.int 1) ∧ mTk m h' tx n x.1 ∧ hI h' m 26 = nI o ∧ hI h' m 25 = nI (f + 1) ∧ Ag (gRec (hI h' (m + 1)) f) x.2.2
section M51
variable {w : gD} {m : Nat} {h : HS} {tx : Nat → Nat} {n j : Nat}
theorem mTk.fr {h1 : HS} (T : mTk m h tx n j) (e1 : ∀ k, 17 ≤ k → k ≤ 22 → hI h1 m k = hI h m k) (e3 : hI h1 (m + 3) = hI h (m + 3)) (e2 : hL h1 m 27 = hL h m 27) : mTk m h1 tx n j := by
  obtain ⟨⟨t1, t2, t3⟩, t4, t5, t6⟩ := T
  refine ⟨⟨t1, by rw [e1 17 (by omega) (by omega)]; exact t2, by rw [e3]; exact t3⟩, by rw [e1 18 (by omega) (by omega)]; exact t4, by rw [e1 19 (by omega) (by omega)]; exact t5, ?_⟩
  unfold mCd at t6 ⊢
  rw [e1 20 (by omega) (by omega), e1 21 (by omega) (by omega), e1 22 (by omega) (by omega), e2]
  exact t6
theorem mTk.i (T : mTk m h tx n j) {k : Nat} {v : Int32} (hk : 23 ≤ k) : mTk m (sI h m k v) tx n j := T.fr (fun i h1 h2 => by rw [hI_sI, if_neg (by omega)]) (hI_sI_ne (by omega)) rfl
theorem mTk.rc (T : mTk m h tx n j) {t : Nat} {R : Nat → Int32} : mTk m (hRc m h t R) tx n j := T.fr (fun i h1 h2 => by rw [hRc_m]) (hI_sF_ne (by omega)) rfl
theorem e_t_sign (hm : mSh m h) (T : mTk m h tx n j) {k : Nat} (hk : k ∈ sgL) : EvF w 0 0 0 yX10_isSign cX10_isSign 2 (some .boolean) [.ref m, .int (nI k)] h (some (.int (b1 (cdT tx n j = k)))) h := by
  have e := e_m_isSign (w := w) hm (nI k)
  rw [b1_cg (T.2.2.2.sg hk)] at e
  exact e
theorem e_t_word (hm : mSh m h) (T : mTk m h tx n j) {i c : Nat} (hi : i < 10) (hc : fxL.getD i 0 = c) : EvF w 0 0 0 yX10_isWord cX10_isWord 2 (some .boolean) [.ref m, .int (nI i)] h (some (.int (b1 (cdT tx n j = c)))) h := by
  have e := e_m_isWord (w := w) hm (nI i)
  rw [b1_cg (T.2.2.2.wo hi), hc] at e
  exact e
theorem e_t_name (hm : mSh m h) (T : mTk m h tx n j) : EvF w 0 0 0 yX10_isName cX10_isName 1 (some .boolean) [.ref m] h (some (.int (b1 (cdT tx n j = 2)))) h := by
  have e := e_m_isName (w := w) hm
  rw [b1_cg T.2.2.2.nm] at e
  exact e
theorem e_t_bad (hm : mSh m h) (T : mTk m h tx n j) (k : Nat) : EvF w 0 0 0 yX10_bad cX10_bad 2 (some .boolean) [.ref m, .int (nI k)] h (some (.int 0)) (sI (sI h m 23 (nI (if cdT tx n j = 1 then 1 else k))) m 24 (nI (plT tx n j))) := by
  have e := e_m_bad (w := w) hm (nI k)
  have e2 : (if hI h m 20 = 1 then (1 : Int32) else nI k) = nI (if cdT tx n j = 1 then 1 else k) := by
    by_cases q : cdT tx n j = 1
    · rw [if_pos q, if_pos (T.2.2.2.bd.mpr q)]; rfl
    · rw [if_neg q, if_neg (fun x => q (T.2.2.2.bd.mp x))]
  rw [e2, T.2.1] at e
  exact e
theorem e_t_goes (si : gSI w) (hm : mSh m h) (T : mTk m h tx n j) : Ev w 6 0 0 yX10_goes cX10_goes 1 (some .boolean) [.ref m] h (fun r' h' => r' = some (.int 1) ∧ nxF m h h' ∧ mTk m h' tx n (j + 1)) := by
  refine g_start (by decide) (Nat.le_of_ble_eq_true rfl) [(0, _)] rfl (fun z hfl C => ?_)
  refine g_aload_n C (gd DX10_goes_0 0 rfl) 0 rfl rfl ?_
  refine g_callV (ci := 10) C [] mX10_next lm_TestJudgeModel_197 (by exact hm.1) rfl rfl (e_m_next si hm T.1 T.2.2.1) hfl (by first | decide | omega) (by decide) (by omega) (by omega) rfl rfl (Nat.le_of_ble_eq_true rfl) (gd DX10_goes_0 1 rfl) (fun r h2 hp => ?_)
  obtain ⟨rfl, a1, a2⟩ := hp
  show GW z w 1 _ 0 0 _ _ [] _
  refine g_iconst (v := 1) C (gd DX10_goes_0 2 rfl) (by decide) ?_
  exact g_zret C (by decide) (by omega) (by omega) ⟨rfl, a1, a2⟩ (gd DX10_goes_0 3 rfl)
theorem e_t_begins (hm : mSh m h) (T : mTk m h tx n j) : EvF w 1 0 0 yX10_beginsOne cX10_beginsOne 1 (some .boolean) [.ref m] h (some (.int (b1 (pBeg (cdT tx n j))))) h := by
  refine g_start (by decide) (Nat.le_of_ble_eq_true rfl) [(0, _)] rfl (fun z hfl C => ?_)
  have yes : pBeg (cdT tx n j) → GW z w 1 (gQ z w 0 0 (fun r' h'' => r' = some (.int (b1 (pBeg (cdT tx n j)))) ∧ h'' = h)) 0 0 60 [(0, .ref m)] [] h := by
    intro q
    refine g_iconst (v := 1) C (gd DX10_beginsOne_0 27 rfl) (by decide) ?_
    refine g_goto (tgt := 65) C (gd DX10_beginsOne_0 28 rfl) (by decide) ?_
    exact g_zret C (by decide) (by omega) (by omega) ⟨by rw [b1_t q], rfl⟩ (gd DX10_beginsOne_0 30 rfl)
  refine g_aload_n C (gd DX10_beginsOne_0 0 rfl) 0 rfl rfl ?_
  refine g_bipush (v := 48) C (gd DX10_beginsOne_0 1 rfl) (by decide) ?_
  refine g_cV1 (ci := 10) C [_] mX10_isSign lm_TestJudgeModel_240 (by exact hm.1) rfl rfl (e_t_sign hm T (k := 48) (by decide)) hfl (by first | decide | omega) (by decide) (by omega) (by omega) rfl rfl (Nat.le_of_ble_eq_true rfl) (gd DX10_beginsOne_0 2 rfl) ?_
  by_cases q1 : cdT tx n j = 48
  · rw [b1_t q1]
    refine g_if_ne C 60 (gd DX10_beginsOne_0 3 rfl) (by decide) (fun c6 => ?_) (fun c6 => ?_)
    · exact yes (Or.inl q1)
    · exact absurd c6 (by decide)
  rw [b1_f q1]
  refine g_if_ne C 60 (gd DX10_beginsOne_0 3 rfl) (by decide) (fun c6 => ?_) (fun c6 => ?_)
  · exact absurd rfl c6
  refine g_aload_n C (gd DX10_beginsOne_0 4 rfl) 0 rfl rfl ?_
  refine g_bipush (v := 49) C (gd DX10_beginsOne_0 5 rfl) (by decide) ?_
  refine g_cV1 (ci := 10) C [_] mX10_isSign lm_TestJudgeModel_240 (by exact hm.1) rfl rfl (e_t_sign hm T (k := 49) (by decide)) hfl (by first | decide | omega) (by decide) (by omega) (by omega) rfl rfl (Nat.le_of_ble_eq_true rfl) (gd DX10_beginsOne_0 6 rfl) ?_
  by_cases q2 : cdT tx n j = 49
  · rw [b1_t q2]
    refine g_if_ne C 60 (gd DX10_beginsOne_0 7 rfl) (by decide) (fun c15 => ?_) (fun c15 => ?_)
    · exact yes (Or.inr (Or.inl q2))
    · exact absurd c15 (by decide)
  rw [b1_f q2]
  refine g_if_ne C 60 (gd DX10_beginsOne_0 7 rfl) (by decide) (fun c15 => ?_) (fun c15 => ?_)
  · exact absurd rfl c15
  refine g_aload_n C (gd DX10_beginsOne_0 8 rfl) 0 rfl rfl ?_
  refine g_bipush (v := 33) C (gd DX10_beginsOne_0 9 rfl) (by decide) ?_
  refine g_cV1 (ci := 10) C [_] mX10_isSign lm_TestJudgeModel_240 (by exact hm.1) rfl rfl (e_t_sign hm T (k := 33) (by decide)) hfl (by first | decide | omega) (by decide) (by omega) (by omega) rfl rfl (Nat.le_of_ble_eq_true rfl) (gd DX10_beginsOne_0 10 rfl) ?_
  by_cases q3 : cdT tx n j = 33
  · rw [b1_t q3]
    refine g_if_ne C 60 (gd DX10_beginsOne_0 11 rfl) (by decide) (fun c24 => ?_) (fun c24 => ?_)
    · exact yes (Or.inr (Or.inr (Or.inr (Or.inl q3))))
    · exact absurd c24 (by decide)
  rw [b1_f q3]
  refine g_if_ne C 60 (gd DX10_beginsOne_0 11 rfl) (by decide) (fun c24 => ?_) (fun c24 => ?_)
  · exact absurd rfl c24
  refine g_aload_n C (gd DX10_beginsOne_0 12 rfl) 0 rfl rfl ?_
  refine g_bipush (v := 40) C (gd DX10_beginsOne_0 13 rfl) (by decide) ?_
  refine g_cV1 (ci := 10) C [_] mX10_isSign lm_TestJudgeModel_240 (by exact hm.1) rfl rfl (e_t_sign hm T (k := 40) (by decide)) hfl (by first | decide | omega) (by decide) (by omega) (by omega) rfl rfl (Nat.le_of_ble_eq_true rfl) (gd DX10_beginsOne_0 14 rfl) ?_
  by_cases q4 : cdT tx n j = 40
  · rw [b1_t q4]
    refine g_if_ne C 60 (gd DX10_beginsOne_0 15 rfl) (by decide) (fun c33 => ?_) (fun c33 => ?_)
    · exact yes (Or.inr (Or.inr (Or.inr (Or.inr (Or.inl q4)))))
    · exact absurd c33 (by decide)
  rw [b1_f q4]
  refine g_if_ne C 60 (gd DX10_beginsOne_0 15 rfl) (by decide) (fun c33 => ?_) (fun c33 => ?_)
  · exact absurd rfl c33
  refine g_aload_n C (gd DX10_beginsOne_0 16 rfl) 0 rfl rfl ?_
  refine g_cV1 (ci := 10) C [] mX10_isName lm_TestJudgeModel_249 (by exact hm.1) rfl rfl (e_t_name hm T) hfl (by first | decide | omega) (by decide) (by omega) (by omega) rfl rfl (Nat.le_of_ble_eq_true rfl) (gd DX10_beginsOne_0 17 rfl) ?_
  by_cases q5 : cdT tx n j = 2
  · rw [b1_t q5]
    refine g_if_ne C 60 (gd DX10_beginsOne_0 18 rfl) (by decide) (fun c40 => ?_) (fun c40 => ?_)
    · exact yes (Or.inr (Or.inr (Or.inl q5)))
    · exact absurd c40 (by decide)
  rw [b1_f q5]
  refine g_if_ne C 60 (gd DX10_beginsOne_0 18 rfl) (by decide) (fun c40 => ?_) (fun c40 => ?_)
  · exact absurd rfl c40
  refine g_aload_n C (gd DX10_beginsOne_0 19 rfl) 0 rfl rfl ?_
  refine g_iconst (v := 4) C (gd DX10_beginsOne_0 20 rfl) (by decide) ?_
  refine g_cV1 (ci := 10) C [_] mX10_isWord lm_TestJudgeModel_252 (by exact hm.1) rfl rfl (e_t_word hm T (i := 4) (c := 294) (by decide) rfl) hfl (by first | decide | omega) (by decide) (by omega) (by omega) rfl rfl (Nat.le_of_ble_eq_true rfl) (gd DX10_beginsOne_0 21 rfl) ?_
  by_cases q6 : cdT tx n j = 294
  · rw [b1_t q6]
    refine g_if_ne C 60 (gd DX10_beginsOne_0 22 rfl) (by decide) (fun c48 => ?_) (fun c48 => ?_)
    · exact yes (Or.inr (Or.inr (Or.inr (Or.inr (Or.inr (Or.inl q6))))))
    · exact absurd c48 (by decide)
  rw [b1_f q6]
  refine g_if_ne C 60 (gd DX10_beginsOne_0 22 rfl) (by decide) (fun c48 => ?_) (fun c48 => ?_)
  · exact absurd rfl c48
  refine g_aload_n C (gd DX10_beginsOne_0 23 rfl) 0 rfl rfl ?_
  refine g_bipush (v := 7) C (gd DX10_beginsOne_0 24 rfl) (by decide) ?_
  refine g_cV1 (ci := 10) C [_] mX10_isWord lm_TestJudgeModel_252 (by exact hm.1) rfl rfl (e_t_word hm T (i := 7) (c := 24388997) (by decide) rfl) hfl (by first | decide | omega) (by decide) (by omega) (by omega) rfl rfl (Nat.le_of_ble_eq_true rfl) (gd DX10_beginsOne_0 25 rfl) ?_
  by_cases q7 : cdT tx n j = 24388997
  · rw [b1_t q7]
    refine g_if_eq C 64 (gd DX10_beginsOne_0 26 rfl) (by decide) (fun c57 => ?_) (fun c57 => ?_)
    · exact absurd c57 (by decide)
    · exact yes (Or.inr (Or.inr (Or.inr (Or.inr (Or.inr (Or.inr q7))))))
  rw [b1_f q7]
  refine g_if_eq C 64 (gd DX10_beginsOne_0 26 rfl) (by decide) (fun c57 => ?_) (fun c57 => ?_)
  · refine g_iconst (v := 0) C (gd DX10_beginsOne_0 29 rfl) (by decide) ?_
    exact g_zret C (by decide) (by omega) (by omega) ⟨by rw [b1_f (fun q => by rcases q with q | q | q | q | q | q | q <;> omega)], rfl⟩ (gd DX10_beginsOne_0 30 rfl)
  · exact absurd rfl c57
theorem e_t_nameIn (hm : mSh m h) {W : Nat → Nat} {o k wv : Nat} (ho : o + k ≤ 14) (hw : hL h m 27 = lN wv) (hwv : wv < 2 ^ 30) (hW : ∀ i, W i < 2 ^ 30) (hn : ∀ i, i < k → hL h (m + 4) (o + i) = lN (W (o + i))) : EvF w 0 0 0 yX10_nameIn cX10_nameIn 4 (some .int) [.ref m, .int (nI o), .int (nI k)] h (some (.int (vN (fndN W o wv k)))) h := by
  refine g_start (by decide) (Nat.le_of_ble_eq_true rfl) [(0, _), (1, _), (2, _)] rfl (fun z hfl C => ?_)
  have loop : ∀ y i, i + y = k → fndN W o wv i = none → GW z w 4 (gQ z w 0 0 (fun r' h'' => r' = some (.int (vN (fndN W o wv k))) ∧ h'' = h)) 0 0 2 [(0, .ref m), (1, .int (nI o)), (2, .int (nI k)), (3, .int (nI i))] [] h := by
    intro y
    induction y with
    | zero =>
      intro i hi hf
      have ei : i = k := hi
      subst ei
      refine g_iload_n C (gd DX10_nameIn_0 2 rfl) 3 rfl rfl ?_
      refine g_iload_n C (gd DX10_nameIn_0 3 rfl) 2 rfl rfl ?_
      refine g_icmp_ge C 31 (gd DX10_nameIn_0 4 rfl) (by decide) (fun c4 => ?_) (fun c4 => ?_)
      · refine g_iconst (v := -1) C (gd DX10_nameIn_0 19 rfl) (by decide) ?_
        exact g_iret C (by omega) (by omega) ⟨by rw [hf]; rfl, rfl⟩ (gd DX10_nameIn_0 20 rfl)
      · exact absurd (nI_le (Nat.le_refl _) (by omega)) c4
    | succ y ih =>
      intro i hi hf
      refine g_iload_n C (gd DX10_nameIn_0 2 rfl) 3 rfl rfl ?_
      refine g_iload_n C (gd DX10_nameIn_0 3 rfl) 2 rfl rfl ?_
      refine g_icmp_ge C 31 (gd DX10_nameIn_0 4 rfl) (by decide) (fun c4 => ?_) (fun c4 => ?_)
      · exact absurd c4 (nI_ge (by omega) (by omega))
      · refine g_aload_n C (gd DX10_nameIn_0 5 rfl) 0 rfl rfl ?_
        refine g_getr (ci := 10) (k := 28) C rfl (by decide) rfl lf_TestJudgeModel_29 hm.1 (hm.2 28 4 13 14 rfl).1 (gd DX10_nameIn_0 6 rfl) ?_
        refine g_iload_n C (gd DX10_nameIn_0 7 rfl) 1 rfl rfl ?_
        refine g_iload_n C (gd DX10_nameIn_0 8 rfl) 3 rfl rfl ?_
        refine g_iadd C (gd DX10_nameIn_0 9 rfl) ?_
        refine g_laj (j := o + i) C (hm.2 28 4 13 14 rfl).2.1 (hm.2 28 4 13 14 rfl).2.2 (by first | decide | omega) (nx_add rfl rfl) (by omega) (gd DX10_nameIn_0 10 rfl) ?_
        rw [hn i (by omega)]
        refine g_aload_n C (gd DX10_nameIn_0 11 rfl) 0 rfl rfl ?_
        refine g_getl (ci := 10) (k := 27) C rfl (by decide) rfl lf_TestJudgeModel_180 hm.1 (gd DX10_nameIn_0 12 rfl) ?_
        rw [hw]
        refine g_lcmp C (gd DX10_nameIn_0 13 rfl) ?_
        refine g_if_ne C 25 (gd DX10_nameIn_0 14 rfl) (by decide) (fun c20 => ?_) (fun c20 => ?_)
        · have hne : W (o + i) ≠ wv := fun q => c20 (lcmp_0.mpr (by rw [q]))
          refine g_iinc (lv' := [(0, _), (1, _), (2, _), (3, _)]) C (gd DX10_nameIn_0 17 rfl) 3 [1, 2, 3, 0] rfl rfl (by decide) rfl ?_
          refine g_goto (tgt := 2) C (gd DX10_nameIn_0 18 rfl) (by decide) ?_
          refine GW.cast (by rw [inc1]) rfl rfl (ih (i + 1) (by omega) ?_)
          rw [fndN, hf]
          exact if_neg hne
        · have he : W (o + i) = wv := (pk_lEQ (by have := hW (o + i); omega) (by omega)).mp (lcmp_0.mp c20)
          refine g_iload_n C (gd DX10_nameIn_0 15 rfl) 3 rfl rfl ?_
          exact g_iret C (by omega) (by omega) ⟨by rw [show k = (i + 1) + (k - (i + 1)) by omega, fndN_stay (x := i) (by rw [fndN, hf]; exact if_pos he)]; rfl, rfl⟩ (gd DX10_nameIn_0 16 rfl)
  refine g_iconst (v := 0) C (gd DX10_nameIn_0 0 rfl) (by decide) ?_
  refine g_istore_n (lv' := [(0, _), (1, _), (2, _), (3, _)]) C (gd DX10_nameIn_0 1 rfl) [1, 2, 3, 0] rfl (by decide) rfl ?_
  exact loop k 0 (by omega) rfl
theorem e_t_isTaken (hm : mSh m h) {nt na np wv : Nat} {W : Nat → Nat} {PR : Nat → pR} (N : rdN m h nt na np W PR) (hw : hL h m 27 = lN wv) (hwv : wv < 2 ^ 30) : EvF w 1 0 0 yX10_isTaken cX10_isTaken 1 (some .boolean) [.ref m] h (some (.int (b1 (¬ (fndN W 0 wv nt = none ∧ fndN W 3 wv na = none ∧ fndN W 6 wv np = none))))) h := by
  refine g_start (by decide) (Nat.le_of_ble_eq_true rfl) [(0, _)] rfl (fun z hfl C => ?_)
  obtain ⟨⟨r1, r2, r3⟩, ⟨r4, r5, r6⟩, r7, ⟨r8, r9, r10⟩, r11⟩ := N
  have v0 := vN_1 (x := fndN W 0 wv nt) (k := nt) (fun i hi => (fndN_lt _ _ hi).1) (by omega)
  have v3 := vN_1 (x := fndN W 3 wv na) (k := na) (fun i hi => (fndN_lt _ _ hi).1) (by omega)
  have v6 := vN_1 (x := fndN W 6 wv np) (k := np) (fun i hi => (fndN_lt _ _ hi).1) (by omega)
  have yes : ¬ (fndN W 0 wv nt = none ∧ fndN W 3 wv na = none ∧ fndN W 6 wv np = none) → GW z w 1 (gQ z w 0 0 (fun r' h'' => r' = some (.int (b1 (¬ (fndN W 0 wv nt = none ∧ fndN W 3 wv na = none ∧ fndN W 6 wv np = none)))) ∧ h'' = h)) 0 0 40 [(0, .ref m)] [] h := by
    intro q
    refine g_iconst (v := 1) C (gd DX10_isTaken_0 21 rfl) (by decide) ?_
    refine g_goto (tgt := 45) C (gd DX10_isTaken_0 22 rfl) (by decide) ?_
    exact g_zret C (by decide) (by omega) (by omega) ⟨by rw [b1_t q], rfl⟩ (gd DX10_isTaken_0 24 rfl)
  refine g_aload_n C (gd DX10_isTaken_0 0 rfl) 0 rfl rfl ?_
  refine g_iconst (v := 0) C (gd DX10_isTaken_0 1 rfl) (by decide) ?_
  refine g_aload_n C (gd DX10_isTaken_0 2 rfl) 0 rfl rfl ?_
  refine g_geti (ci := 10) (k := 29) C rfl (by decide) rfl lf_TestJudgeModel_222 hm.1 (gd DX10_isTaken_0 3 rfl) ?_
  rw [r4]
  refine g_cV1 (ci := 10) C [_, _] mX10_nameIn lm_TestJudgeModel_225 (by exact hm.1) rfl rfl (e_t_nameIn hm (o := 0) (k := nt) (by omega) hw hwv r7 r8) hfl (by first | decide | omega) (by decide) (by omega) (by omega) rfl rfl (Nat.le_of_ble_eq_true rfl) (gd DX10_isTaken_0 4 rfl) ?_
  refine g_iconst (v := -1) C (gd DX10_isTaken_0 5 rfl) (by decide) ?_
  refine g_icmp_ne C 40 (gd DX10_isTaken_0 6 rfl) (by decide) (fun c10 => ?_) (fun c10 => ?_)
  · exact yes (fun q => c10 (v0.mpr q.1))
  refine g_aload_n C (gd DX10_isTaken_0 7 rfl) 0 rfl rfl ?_
  refine g_iconst (v := 3) C (gd DX10_isTaken_0 8 rfl) (by decide) ?_
  refine g_aload_n C (gd DX10_isTaken_0 9 rfl) 0 rfl rfl ?_
  refine g_geti (ci := 10) (k := 30) C rfl (by decide) rfl lf_TestJudgeModel_228 hm.1 (gd DX10_isTaken_0 10 rfl) ?_
  rw [r5]
  refine g_cV1 (ci := 10) C [_, _] mX10_nameIn lm_TestJudgeModel_225 (by exact hm.1) rfl rfl (e_t_nameIn hm (o := 3) (k := na) (by omega) hw hwv r7 r9) hfl (by first | decide | omega) (by decide) (by omega) (by omega) rfl rfl (Nat.le_of_ble_eq_true rfl) (gd DX10_isTaken_0 11 rfl) ?_
  refine g_iconst (v := -1) C (gd DX10_isTaken_0 12 rfl) (by decide) ?_
  refine g_icmp_ne C 40 (gd DX10_isTaken_0 13 rfl) (by decide) (fun c23 => ?_) (fun c23 => ?_)
  · exact yes (fun q => c23 (v3.mpr q.2.1))
  refine g_aload_n C (gd DX10_isTaken_0 14 rfl) 0 rfl rfl ?_
  refine g_bipush (v := 6) C (gd DX10_isTaken_0 15 rfl) (by decide) ?_
  refine g_aload_n C (gd DX10_isTaken_0 16 rfl) 0 rfl rfl ?_
  refine g_geti (ci := 10) (k := 31) C rfl (by decide) rfl lf_TestJudgeModel_231 hm.1 (gd DX10_isTaken_0 17 rfl) ?_
  rw [r6]
  refine g_cV1 (ci := 10) C [_, _] mX10_nameIn lm_TestJudgeModel_225 (by exact hm.1) rfl rfl (e_t_nameIn hm (o := 6) (k := np) (by omega) hw hwv r7 r10) hfl (by first | decide | omega) (by decide) (by omega) (by omega) rfl rfl (Nat.le_of_ble_eq_true rfl) (gd DX10_isTaken_0 18 rfl) ?_
  refine g_iconst (v := -1) C (gd DX10_isTaken_0 19 rfl) (by decide) ?_
  refine g_icmp_eq C 44 (gd DX10_isTaken_0 20 rfl) (by decide) (fun c37 => ?_) (fun c37 => ?_)
  · refine g_iconst (v := 0) C (gd DX10_isTaken_0 23 rfl) (by decide) ?_
    exact g_zret C (by decide) (by omega) (by omega) ⟨by rw [b1_f (fun q => q ⟨v0.mp c10, v3.mp c23, v6.mp c37⟩)], rfl⟩ (gd DX10_isTaken_0 24 rfl)
  · exact yes (fun q => c37 (v6.mpr q.2.2))
end M51
