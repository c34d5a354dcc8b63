/-! what a question leaves as it was; the string to a state -/
/-- what outlives a call -/
def mKp (m : Nat) (h h' : HS) : Prop := Fr3 h h' ∧ (∀ k, k ≤ 16 → k ≠ 1 → k ≠ 11 → hI h' m k = hI h m k) ∧ hI h' m 57 = hI h m 57 ∧ (∀ r k, r < 11 → k < 307 → gRec (hI h' (m + 1)) r k = gRec (hI h (m + 1)) r k) ∧ hI h' (m + 2) = hI h (m + 2) ∧ hI h' (m + 3) = hI h (m + 3) ∧ hI h' (m + 26) = hI h (m + 26)
theorem mKp.rf (m : Nat) (h : HS) : mKp m h h := ⟨Fr3.rf h, fun _ _ _ _ => rfl, rfl, fun _ _ _ _ => rfl, rfl, rfl, rfl⟩
theorem mKp.tr {m : Nat} {h h1 h2 : HS} (a : mKp m h h1) (b : mKp m h1 h2) : mKp m h h2 := by
  obtain ⟨a1, a2, a3, a4, a5, a6, a7⟩ := a
  obtain ⟨b1, b2, b3, b4, b5, b6, b7⟩ := b
  exact ⟨a1.tr b1, fun k k1 k2 k3 => (b2 k k1 k2 k3).trans (a2 k k1 k2 k3), b3.trans a3, fun r k hr hk => (b4 r k hr hk).trans (a4 r k hr hk), b5.trans a5, b6.trans a6, b7.trans a7⟩
/-- rows that no call leaves to the next -/
theorem mKp.of {m : Nat} {h h1 : HS} (hf : Fr3 h h1) (hb : ∀ b j, ¬ (m + 4 ≤ b ∧ b ≤ m + 25) → ¬ (b = m ∧ 16 < j ∧ j ≠ 57) → ¬ (b = m ∧ (j = 1 ∨ j = 11)) → ¬ b = m + 1 → hI h1 b j = hI h b j) (hr : ∀ r k, r < 11 → k < 307 → gRec (hI h1 (m + 1)) r k = gRec (hI h (m + 1)) r k) : mKp m h h1 :=
  ⟨hf, fun k k1 k2 k3 => hb m k (by omega) (by omega) (by omega) (by omega), hb m 57 (by omega) (by omega) (by omega) (by omega), hr, funext fun j => hb (m + 2) j (by omega) (by omega) (by omega) (by omega), funext fun j => hb (m + 3) j (by omega) (by omega) (by omega) (by omega), funext fun j => hb (m + 26) j (by omega) (by omega) (by omega) (by omega)⟩
theorem mKp_st (m : Nat) (h : HS) (a b : Int32) : mKp m h (sI (sI h m 1 a) m 11 b) := by
  refine mKp.of ⟨rfl, rfl, rfl, rfl⟩ (fun b j h1 h2 h3 h4 => ?_) (fun r k _ _ => ?_)
  · rw [hI_sI, if_neg (by omega), hI_sI, if_neg (by omega)]
  · unfold gRec
    rw [hI_sI, if_neg (by omega), hI_sI, if_neg (by omega)]
theorem mKp_lay {m nf : Nat} {h h1 : HS} {s : Int32} {r o : Nat} (hp : layP m h nf s r o h1) : mKp m h h1 := by
  obtain ⟨N, hL, hU, hf, hrc, hb, hbL⟩ := hp
  refine mKp.of hf (fun b j g1 g2 g3 g4 => hb b j (by unfold layW; omega)) (fun r k hr hk => ?_)
  rw [hrc, fbR_other hk (by omega) (by omega)]
theorem mKp_92 (m : Nat) (h : HS) : mKp m h (hs92 m h) := by
  refine mKp.of ⟨rfl, rfl, rfl, rfl⟩ (fun b j h1 h2 h3 h4 => ?_) (fun r k hr hk => ?_)
  · unfold hs92
    rw [hI_sF_ne h4]
  · unfold hs92
    rw [hI_sF_eq, gRec_pRec_ne hk (by omega)]
theorem mKp_sF {m : Nat} {h : HS} {a : Nat} (f : Nat → Int32) (h1 : m + 4 ≤ a) (h2 : a ≤ m + 25) : mKp m h (sF h a f) := by
  refine mKp.of ⟨rfl, rfl, rfl, rfl⟩ (fun b j g1 g2 g3 g4 => ?_) (fun r k hr hk => ?_)
  · rw [hI_sF_ne (by omega)]
  · rw [hI_sF_ne (by omega)]
theorem mKp_B2 (m : Nat) (h : HS) (MT LN : Nat → Int32) : mKp m h (hB2 m h MT LN) := (mKp_sF MT (by omega) (by omega)).tr (mKp_sF LN (by omega) (by omega))
theorem mKp_W2 (m : Nat) (h : HS) (A B : Nat → Int64) : mKp m h (hW2 m h A B) := ⟨Fr3.rf h, fun _ _ _ _ => rfl, rfl, fun _ _ _ _ => rfl, rfl, rfl, rfl⟩
theorem mKp_C3 (m : Nat) (h : HS) (T CN C : Nat → Int32) : mKp m h (hC3 m h T CN C) := ((mKp_sF T (by omega) (by omega)).tr (mKp_sF CN (by omega) (by omega))).tr (mKp_sF C (by omega) (by omega))
theorem mKp_R5 (m : Nat) (h : HS) (RO RS RF : Nat → Int32) (n : Nat) : mKp m h (hR5 m h RO RS RF n) := by
  refine mKp.of ⟨rfl, rfl, rfl, rfl⟩ (fun b j g1 g2 g3 g4 => hR5_ne (by omega) (by omega) (by omega) (by omega)) (fun r k hr hk => ?_)
  rw [hR5_row (by omega) (by omega) (by omega) (by omega)]
theorem mKp_rs {m nf r N : Nat} {h h1 h2 : HS} {R : List (Nat × Nat)} {C1 RO : Nat → Int32} (hp : rsP m h nf r h1 N R C1 RO h2) : mKp m h h2 := by
  obtain ⟨hL, hU, hf, hrc, hb, hbL, rp, T, CN, RS, RF, -, -, -, -, rfl⟩ := hp
  refine mKp.tr (h1 := h1) ?_ ((mKp_C3 m h1 T CN C1).tr (mKp_R5 m _ RO RS RF _))
  refine mKp.of hf (fun b j g1 g2 g3 g4 => hb b j (by unfold layW; omega)) (fun r k hr hk => ?_)
  rw [hrc, fbR_other hk (by omega) (by omega)]
  exact (mKp_92 m h).2.2.2.1 r k hr hk
/-- a call that answers and leaves all else: its status -/
def pQ (m : Nat) (h h' : HS) (st : Int32) : Prop := mKp m h h' ∧ hI h' m 1 = 0 ∧ hI h' m 11 = st
theorem mKp.q {m : Nat} {h h1 : HS} (a : mKp m h h1) (st : Int32) : pQ m h (sI (sI h1 m 1 0) m 11 st) st := by
  refine ⟨a.tr (mKp_st m h1 0 st), ?_, ?_⟩
  · rw [hI_sI, if_neg (by omega), hI_sI, if_pos ⟨rfl, rfl⟩]
  · rw [hI_sI, if_pos ⟨rfl, rfl⟩]
theorem mFa.kp {m nf : Nat} {fw : Nat → Nat} {h h' : HS} (ok : mFa m h nf fw) (k : mKp m h h') : mFa m h' nf fw := by
  obtain ⟨a1, a2, a3, a4⟩ := ok
  obtain ⟨k1, k2, k3, k4, k5, k6, k7⟩ := k
  exact ⟨a1, by rw [k2 5 (by omega) (by omega) (by omega)]; exact a2, fun f hf => by rw [k4 _ _ (by omega) (by omega)]; exact a3 f hf, a4⟩
theorem mOK.kp {m nt na np nf : Nat} {fw : Nat → Nat} {h h' : HS} (ok : mOK m h nt na np nf fw) (k : mKp m h h') : mOK m h' nt na np nf fw := by
  obtain ⟨hm, hnt, hna, hnp, hF, hw⟩ := ok
  have hF' := hF.kp k
  obtain ⟨k1, k2, k3, k4, k5, k6, k7⟩ := k
  refine ⟨hm.fr k1, ⟨hnt.1, by rw [k2 2 (by omega) (by omega) (by omega)]; exact hnt.2⟩, ⟨hna.1, by rw [k2 3 (by omega) (by omega) (by omega)]; exact hna.2⟩, ⟨hnp.1, by rw [k2 4 (by omega) (by omega) (by omega)]; exact hnp.2⟩, hF', fun p hp => ?_⟩
  obtain ⟨wr, lr, e⟩ := hw p hp
  exact ⟨wr, lr, by rw [k4 _ _ (by omega) (by omega)]; exact e⟩
/-- the states that lie before s on its way -/
def anc (cf : Nat → Int32) (s : Nat) : Nat → Nat
  | 0 => s
  | d + 1 => (cf (anc cf s d)).toNatClampNeg
theorem anc_s (cf : Nat → Int32) (s : Nat) : ∀ d, anc cf s (d + 1) = anc cf (anc cf s 1) d := by
  intro d
  induction d with
  | zero => rfl
  | succ d ih => rw [anc, ih, ← anc]
/-- the way to s: its length n, and that it can be walked back -/
def wayP (m : Nat) (h : HS) (N s n : Nat) : Prop := n ≤ s ∧ hI h (m + 12) s = nI n ∧ ∀ d, d < n → anc (hI h (m + 10)) s d < N ∧ hI h (m + 10) (anc (hI h (m + 10)) s d) = nI (anc (hI h (m + 10)) s (d + 1)) ∧ ∃ c, c < 24 ∧ hI h (m + 11) (anc (hI h (m + 10)) s d) = nI c
theorem mLS.way {m : Nat} {h : HS} {L : List (Int64 × Nat)} (l : mLS m h L) (hlen : L.length ≤ 16400) : ∀ b s, s < b → s < L.length → ∃ n, wayP m h L.length s n := by
  intro b
  induction b with
  | zero => intro s hs; omega
  | succ b ih =>
    intro s hsb hs
    obtain ⟨q, hq⟩ : ∃ q, L[s]? = some q := ⟨L[s], List.getElem?_eq_getElem hs⟩
    obtain ⟨-, l2, l3, l4, l5⟩ := l.2.2 s q hq
    by_cases e : s = 0
    · exact ⟨0, by omega, l4 e, fun d hd => by omega⟩
    · obtain ⟨l6, l7⟩ := l5 (by omega)
      rw [if_neg e] at l2
      obtain ⟨n, n1, n2, n3⟩ := ih (q.2 / 24) (by omega) (by omega)
      have e1 : anc (hI h (m + 10)) s 1 = q.2 / 24 := by
        show (hI h (m + 10) s).toNatClampNeg = _
        rw [l2, nI_clamp (by omega)]
      refine ⟨n + 1, by omega, by rw [l7, n2]; exact inc1 n, fun d hd => ?_⟩
      cases d with
      | zero => exact ⟨hs, by rw [e1]; exact l2, q.2 % 24, by omega, l3⟩
      | succ d =>
        rw [anc_s, e1, anc_s _ s (d + 1), e1]
        exact n3 d (by omega)
theorem LD.way {P : kP} {m : Nat} {h : HS} {N : Nat} (l : LD P m h N) {s : Nat} (hs : s < N) : ∃ n, wayP m h N s n := by
  have h1 := l.2.2.1.way (by rw [l.2.2.2.1]; exact l.1) (s + 1) s (by omega) (by rw [l.2.2.2.1]; exact hs)
  rw [l.2.2.2.1] at h1
  exact h1
/-- answer and status of a string's k-th place -/
def strA (n s : Nat) (cf cb : Nat → Int32) (atom k : Int32) : Int32 × Int32 := if k = -1 then (nI n, 0) else if k ≤ nI (2 * n) then (if k = nI (2 * n) then atom else if k.toNatClampNeg % 2 = 0 then nI ((cb (anc cf s (n - 1 - k.toNatClampNeg / 2))).toNatClampNeg / 3) else nI ((cb (anc cf s (n - 1 - k.toNatClampNeg / 2))).toNatClampNeg % 3), 0) else (-1, 5)
section M35
variable {w : gD} {m : Nat} {h : HS}
theorem e_m_stringAt (hm : mSh m h) {s n N : Nat} (hN : N ≤ 16400) (hs : s < N) (hw : wayP m h N s n) (atom : Int32) {k : Int32} (hk : k = -1 ∨ ∃ j, j < 2 ^ 31 ∧ k = nI j) :
    Ev w 1 0 0 yX10_stringAt cX10_stringAt 7 (some .int) [.ref m, .int (nI s), .int atom, .int k] h (fun r' h' => ∃ WY, r' = some (.int (strA n s (hI h (m + 10)) (hI h (m + 11)) atom k).1) ∧ h' = sI (sI (sF h (m + 14) WY) m 1 0) m 11 (strA n s (hI h (m + 10)) (hI h (m + 11)) atom k).2) := by
  refine g_start (by decide) (Nat.le_of_ble_eq_true rfl) [(0, _), (1, _), (2, _), (3, _)] rfl (fun z hfl C => ?_)
  obtain ⟨w1, w2, w3⟩ := hw
  generalize hV : strA n s (hI h (m + 10)) (hI h (m + 11)) atom k = V
  refine g_aload_n C (gd DX10_stringAt_0 0 rfl) 0 rfl rfl ?_
  refine g_getr (ci := 10) (k := 40) C rfl (by decide) rfl lf_TestJudgeModel_56 hm.1 (hm.2 40 12 12 16500 rfl).1 (gd DX10_stringAt_0 1 rfl) ?_
  refine g_iload_n C (gd DX10_stringAt_0 2 rfl) 1 rfl rfl ?_
  refine g_iaj (j := s) C (hm.2 40 12 12 16500 rfl).2.1 (hm.2 40 12 12 16500 rfl).2.2 (by decide) rfl (by omega) (gd DX10_stringAt_0 3 rfl) ?_
  rw [w2]
  refine g_istore (lv' := [(0, _), (1, _), (2, _), (3, _), (4, _)]) C (gd DX10_stringAt_0 4 rfl) [1, 2, 3, 4, 0] (by decide) rfl ?_
  refine g_iload_n C (gd DX10_stringAt_0 5 rfl) 3 rfl rfl ?_
  refine g_iconst (v := -1) C (gd DX10_stringAt_0 6 rfl) (by decide) ?_
  refine g_icmp_ne C 20 (gd DX10_stringAt_0 7 rfl) (by decide) (fun c10 => ?_) (fun c10 => ?_)
  · have hk1 : ¬ k = -1 := c10
    obtain ⟨j, hj, rfl⟩ : ∃ j, j < 2 ^ 31 ∧ k = nI j := by
      rcases hk with q | q
      · exact absurd q hk1
      · exact q
    refine g_iload_n C (gd DX10_stringAt_0 12 rfl) 3 rfl rfl ?_
    refine g_iconst (v := 2) C (gd DX10_stringAt_0 13 rfl) (by decide) ?_
    refine g_iload C (gd DX10_stringAt_0 14 rfl) 4 rfl ?_
    refine g_imul C (gd DX10_stringAt_0 15 rfl) ?_
    rw [show (2 : Int32) * nI n = nI (2 * n) from nx_mul (a := 2) rfl rfl]
    refine g_icmp_le C 34 (gd DX10_stringAt_0 16 rfl) (by decide) (fun c25 => ?_) (fun c25 => ?_)
    · have hj2 : j ≤ 2 * n := (nI_leI (by omega) (by omega)).mp c25
      have loop : ∀ y d WY, d + y = n → (∀ i, i < d → WY (n - 1 - i) = hI h (m + 11) (anc (hI h (m + 10)) s i)) → GW z w 7 (gQ z w 0 0 (fun r' h'' => ∃ WY, r' = some (.int V.1) ∧ h'' = sI (sI (sF h (m + 14) WY) m 1 0) m 11 V.2)) 0 0 43 [(0, .ref m), (1, .int (nI s)), (2, .int atom), (3, .int (nI j)), (4, .int (nI n)), (5, .int (nI (anc (hI h (m + 10)) s d))), (6, .int (nI y - 1))] [] (sF h (m + 14) WY) := by
        intro y
        induction y with
        | zero =>
          intro d WY hd hW
          have fin : ∀ v, v = V.1 → GW z w 7 (gQ z w 0 0 (fun r' h'' => ∃ WY, r' = some (.int V.1) ∧ h'' = sI (sI (sF h (m + 14) WY) m 1 0) m 11 V.2)) 0 0 119 [(0, .ref m), (1, .int (nI s)), (2, .int atom), (3, .int (nI j)), (4, .int (nI n)), (5, .int (nI (anc (hI h (m + 10)) s d))), (6, .int (nI 0 - 1))] [.int v, .ref m] (sF h (m + 14) WY) := by
            intro v hv
            refine g_cV1 (ci := 10) C [_] mX10_gives lm_TestJudgeModel_349 (by exact hm.1) rfl rfl (e_m_gives (h := sF h (m + 14) WY) (by exact hm) _) hfl (by decide) (by decide) (by omega) (by omega) rfl rfl (Nat.le_of_ble_eq_true rfl) (gd DX10_stringAt_1 13 rfl) ?_
            exact g_iret C (by omega) (by omega) ⟨WY, by rw [hv], by rw [← hV]; unfold strA; rw [if_neg hk1, if_pos c25]⟩ (gd DX10_stringAt_1 14 rfl)
          refine g_iload C (gd DX10_stringAt_0 27 rfl) 6 rfl ?_
          refine g_if_lt C 77 (gd DX10_stringAt_0 28 rfl) (by decide) (fun c45 => ?_) (fun c45 => ?_)
          · refine g_aload_n C (gd DX10_stringAt_0 44 rfl) 0 rfl rfl ?_
            refine g_iload_n C (gd DX10_stringAt_0 45 rfl) 3 rfl rfl ?_
            refine g_iconst (v := 2) C (gd DX10_stringAt_0 46 rfl) (by decide) ?_
            refine g_iload C (gd DX10_stringAt_0 47 rfl) 4 rfl ?_
            refine g_imul C (gd DX10_stringAt_0 48 rfl) ?_
            rw [show (2 : Int32) * nI n = nI (2 * n) from nx_mul (a := 2) rfl rfl]
            refine g_icmp_ne C 90 (gd DX10_stringAt_0 49 rfl) (by decide) (fun c83 => ?_) (fun c83 => ?_)
            · have hne : ¬ j = 2 * n := fun q => c83 (by rw [q])
              have hi : j / 2 < n := by omega
              have hWj := hW (n - 1 - j / 2) (by omega)
              rw [show n - 1 - (n - 1 - j / 2) = j / 2 by omega] at hWj
              obtain ⟨-, -, c, hc, ec⟩ := w3 (n - 1 - j / 2) (by omega)
              rw [ec] at hWj
              refine g_iload_n C (gd DX10_stringAt_0 52 rfl) 3 rfl rfl ?_
              refine g_iconst (v := 2) C (gd DX10_stringAt_0 53 rfl) (by decide) ?_
              refine g_irem C (gd DX10_stringAt_0 54 rfl) (by decide) ?_
              rw [show nI j - nI j / 2 * 2 = nI (j % 2) from nx_rem (a := j) (b := 2) rfl rfl (by omega) (by decide) (by decide)]
              refine g_if_ne C 109 (gd DX10_stringAt_0 55 rfl) (by decide) (fun c93 => ?_) (fun c93 => ?_)
              · have h2 : ¬ j % 2 = 0 := fun q => c93 (by rw [q]; rfl)
                refine g_aload_n C (gd DX10_stringAt_1 5 rfl) 0 rfl rfl ?_
                refine g_getr (ci := 10) (k := 43) C rfl (by decide) rfl lf_TestJudgeModel_63 hm.1 (hm.2 43 14 12 16500 rfl).1 (gd DX10_stringAt_1 6 rfl) ?_
                refine g_iload_n C (gd DX10_stringAt_1 7 rfl) 3 rfl rfl ?_
                refine g_iconst (v := 2) C (gd DX10_stringAt_1 8 rfl) (by decide) ?_
                refine g_idiv C (gd DX10_stringAt_1 9 rfl) (by decide) ?_
                refine g_iaj (j := (j / 2)) C (hm.2 43 14 12 16500 rfl).2.1 (hm.2 43 14 12 16500 rfl).2.2 (by decide) (nx_div rfl rfl (by omega) (by decide) (by decide)) (by omega) (gd DX10_stringAt_1 10 rfl) ?_
                rw [hI_sF_eq, hWj]
                refine g_iconst (v := 3) C (gd DX10_stringAt_1 11 rfl) (by decide) ?_
                refine g_irem C (gd DX10_stringAt_1 12 rfl) (by decide) ?_
                refine fin _ ?_
                rw [← hV]; unfold strA; rw [if_neg hk1, if_pos c25, if_neg c83, nI_clamp (by omega), if_neg h2, ec, nI_clamp (by omega)]; exact nx_rem (a := c) (b := 3) rfl rfl (by omega) (by decide) (by decide)
              · have h2 : j % 2 = 0 := by
                  by_cases q : j % 2 = 0
                  · exact q
                  · exact absurd c93 (nI_ne0 (by omega) (by omega))
                refine g_aload_n C (gd DX10_stringAt_0 56 rfl) 0 rfl rfl ?_
                refine g_getr (ci := 10) (k := 43) C rfl (by decide) rfl lf_TestJudgeModel_63 hm.1 (hm.2 43 14 12 16500 rfl).1 (gd DX10_stringAt_0 57 rfl) ?_
                refine g_iload_n C (gd DX10_stringAt_0 58 rfl) 3 rfl rfl ?_
                refine g_iconst (v := 2) C (gd DX10_stringAt_0 59 rfl) (by decide) ?_
                refine g_idiv C (gd DX10_stringAt_1 0 rfl) (by decide) ?_
                refine g_iaj (j := (j / 2)) C (hm.2 43 14 12 16500 rfl).2.1 (hm.2 43 14 12 16500 rfl).2.2 (by decide) (nx_div rfl rfl (by omega) (by decide) (by decide)) (by omega) (gd DX10_stringAt_1 1 rfl) ?_
                rw [hI_sF_eq, hWj]
                refine g_iconst (v := 3) C (gd DX10_stringAt_1 2 rfl) (by decide) ?_
                refine g_idiv C (gd DX10_stringAt_1 3 rfl) (by decide) ?_
                refine g_goto (tgt := 119) C (gd DX10_stringAt_1 4 rfl) (by decide) ?_
                refine fin _ ?_
                rw [← hV]; unfold strA; rw [if_neg hk1, if_pos c25, if_neg c83, nI_clamp (by omega), if_pos h2, ec, nI_clamp (by omega)]; exact nx_div (a := c) (b := 3) rfl rfl (by omega) (by decide) (by decide)
            · refine g_iload_n C (gd DX10_stringAt_0 50 rfl) 2 rfl rfl ?_
              refine g_goto (tgt := 119) C (gd DX10_stringAt_0 51 rfl) (by decide) ?_
              refine fin _ ?_
              rw [← hV]; unfold strA; rw [if_neg hk1, if_pos c25, if_pos c83]
          · exact absurd (show nI 0 - 1 < 0 by decide) c45
        | succ y ih =>
          intro d WY hd hW
          obtain ⟨v1, v2, c, hc, v3⟩ := w3 d (by omega)
          rw [show nI (y + 1) - 1 = nI y from nx_sub (a := y + 1) (b := 1) rfl rfl (by omega)]
          refine g_iload C (gd DX10_stringAt_0 27 rfl) 6 rfl ?_
          refine g_if_lt C 77 (gd DX10_stringAt_0 28 rfl) (by decide) (fun c45 => ?_) (fun c45 => ?_)
          · exact absurd c45 (Int32.not_lt.mpr (nI_pos' (by omega)))
          · refine g_aload_n C (gd DX10_stringAt_0 29 rfl) 0 rfl rfl ?_
            refine g_getr (ci := 10) (k := 43) C rfl (by decide) rfl lf_TestJudgeModel_63 hm.1 (hm.2 43 14 12 16500 rfl).1 (gd DX10_stringAt_0 30 rfl) ?_
            refine g_iload C (gd DX10_stringAt_0 31 rfl) 6 rfl ?_
            refine g_aload_n C (gd DX10_stringAt_0 32 rfl) 0 rfl rfl ?_
            refine g_getr (ci := 10) (k := 39) C rfl (by decide) rfl lf_TestJudgeModel_53 hm.1 (hm.2 39 11 12 16500 rfl).1 (gd DX10_stringAt_0 33 rfl) ?_
            refine g_iload C (gd DX10_stringAt_0 34 rfl) 5 rfl ?_
            refine g_iaj (j := (anc (hI h (m + 10)) s d)) C (hm.2 39 11 12 16500 rfl).2.1 (hm.2 39 11 12 16500 rfl).2.2 (by decide) rfl (by omega) (gd DX10_stringAt_0 35 rfl) ?_
            rw [hI_sF_ne (by omega)]
            refine g_isj (j := y) C (hm.2 43 14 12 16500 rfl).2.1 (hm.2 43 14 12 16500 rfl).2.2 (by decide) rfl (by omega) (gd DX10_stringAt_0 36 rfl) ?_
            refine g_aload_n C (gd DX10_stringAt_0 37 rfl) 0 rfl rfl ?_
            refine g_getr (ci := 10) (k := 38) C rfl (by decide) rfl lf_TestJudgeModel_50 hm.1 (hm.2 38 10 12 16500 rfl).1 (gd DX10_stringAt_0 38 rfl) ?_
            refine g_iload C (gd DX10_stringAt_0 39 rfl) 5 rfl ?_
            refine g_iaj (j := (anc (hI h (m + 10)) s d)) C (hm.2 38 10 12 16500 rfl).2.1 (hm.2 38 10 12 16500 rfl).2.2 (by decide) rfl (by omega) (gd DX10_stringAt_0 40 rfl) ?_
            rw [sI_sF_same, hI_sF_ne (by omega), v2]
            refine g_istore (lv' := [(0, _), (1, _), (2, _), (3, _), (4, _), (5, _), (6, _)]) C (gd DX10_stringAt_0 41 rfl) [1, 2, 3, 4, 5, 0, 6] (by decide) rfl ?_
            refine g_iinc (lv' := [(0, _), (1, _), (2, _), (3, _), (4, _), (5, _), (6, _)]) C (gd DX10_stringAt_0 42 rfl) 6 [1, 2, 3, 4, 5, 6, 0] rfl rfl (by decide) rfl ?_
            refine g_goto (tgt := 43) C (gd DX10_stringAt_0 43 rfl) (by decide) ?_
            refine GW.cast (by rw [show nI y + Int32.ofInt (-1) = nI y - 1 from by rw [Int32.sub_eq_add_neg]; rfl]) rfl rfl (ih (d + 1) _ (by omega) (fun i hi => ?_))
            by_cases e : i = d
            · subst e
              rw [show n - 1 - i = y by omega, pk_us]
            · rw [pk_un (by omega)]
              exact hW i (by omega)
      refine g_iload_n C (gd DX10_stringAt_0 21 rfl) 1 rfl rfl ?_
      refine g_istore (lv' := [(0, _), (1, _), (2, _), (3, _), (4, _), (5, _)]) C (gd DX10_stringAt_0 22 rfl) [1, 2, 3, 4, 5, 0] (by decide) rfl ?_
      refine g_iload C (gd DX10_stringAt_0 23 rfl) 4 rfl ?_
      refine g_iconst (v := 1) C (gd DX10_stringAt_0 24 rfl) (by decide) ?_
      refine g_isub C (gd DX10_stringAt_0 25 rfl) ?_
      refine g_istore (lv' := [(0, _), (1, _), (2, _), (3, _), (4, _), (5, _), (6, _)]) C (gd DX10_stringAt_0 26 rfl) [1, 2, 3, 4, 5, 6, 0] (by decide) rfl ?_
      refine GW.cast rfl rfl ?_ (loop n 0 (hI h (m + 14)) (by omega) (fun i hi => by omega))
      rw [sF_self]
    · refine g_aload_n C (gd DX10_stringAt_0 17 rfl) 0 rfl rfl ?_
      refine g_iconst (v := 5) C (gd DX10_stringAt_0 18 rfl) (by decide) ?_
      refine g_cV1 (ci := 10) C [_] mX10_refuse lm_TestJudgeModel_331 (by exact hm.1) rfl rfl (e_m_refuse hm _) hfl (by decide) (by decide) (by omega) (by omega) rfl rfl (Nat.le_of_ble_eq_true rfl) (gd DX10_stringAt_0 19 rfl) ?_
      exact g_iret C (by omega) (by omega) ⟨hI h (m + 14), by rw [← hV]; unfold strA; rw [if_neg hk1, if_neg c25], by rw [sF_self, ← hV]; unfold strA; rw [if_neg hk1, if_neg c25]⟩ (gd DX10_stringAt_0 20 rfl)
  · have hk1 : k = -1 := c10
    refine g_aload_n C (gd DX10_stringAt_0 8 rfl) 0 rfl rfl ?_
    refine g_iload C (gd DX10_stringAt_0 9 rfl) 4 rfl ?_
    refine g_cV1 (ci := 10) C [_] mX10_gives lm_TestJudgeModel_349 (by exact hm.1) rfl rfl (e_m_gives hm _) hfl (by decide) (by decide) (by omega) (by omega) rfl rfl (Nat.le_of_ble_eq_true rfl) (gd DX10_stringAt_0 10 rfl) ?_
    exact g_iret C (by omega) (by omega) ⟨hI h (m + 14), by rw [← hV]; unfold strA; rw [if_pos hk1], by rw [sF_self, ← hV]; unfold strA; rw [if_pos hk1]⟩ (gd DX10_stringAt_0 11 rfl)
end M35
