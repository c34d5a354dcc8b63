/-! the reference's next: a token comes in hand -/
theorem upd_upd (f : Nat → Int32) (k : Nat) (u v : Int32) : upd (upd f k u) k v = upd f k v := by
  funext j
  unfold upd
  by_cases e : j = k
  · rw [if_pos e, if_pos e]
  · rw [if_neg e, if_neg e, if_neg e]
theorem upd_same (f : Nat → Int32) (k : Nat) : upd f k (f k) = f := by
  funext j
  unfold upd
  by_cases e : j = k
  · rw [if_pos e, e]
  · rw [if_neg e]
/-- the reference with its ints F and the word v -/
def nH (m : Nat) (h : HS) (F : Nat → Int32) (v : Int64) : HS := sL (sF h m F) m 27 v
section NH
variable {m : Nat} {h : HS} {F : Nat → Int32} {v : Int64}
theorem nH_0 : hI (nH m h F v) m = F := hI_sF_eq _ _ _
theorem nH_ne {b : Nat} (hb : b ≠ m) : hI (nH m h F v) b = hI h b := hI_sF_ne hb
theorem nH_w : hL (nH m h F v) m 27 = v := if_pos ⟨rfl, rfl⟩
theorem nH_i {k : Nat} {x : Int32} : sI (nH m h F v) m k x = nH m h (upd F k x) v := by
  show sL (sI (sF h m F) m k x) m 27 v = _
  rw [sI_sF, hI_sF_eq, sF_sF]
  rfl
theorem nH_l {x : Int64} : sL (nH m h F v) m 27 x = nH m h F x := by
  unfold nH sL
  congr 2
  funext b j
  by_cases e : b = m ∧ j = 27
  · rw [if_pos e, if_pos e]
  · rw [if_neg e, if_neg e]; exact if_neg e
theorem nH_self : nH m h (hI h m) (hL h m 27) = h := by
  unfold nH
  rw [sF_self]
  unfold sL
  refine Prod.ext rfl (Prod.ext (funext fun b => funext fun j => ?_) rfl)
  show (if b = m ∧ j = 27 then hL h m 27 else h.2.1 b j) = h.2.1 b j
  by_cases e : b = m ∧ j = 27
  · rw [if_pos e, e.1, e.2]; rfl
  · rw [if_neg e]
end NH
/-- how the reference holds a token of code c and word wv: kind, sign, which, word -/
def mCd (F : Nat → Int32) (v : Int64) (c wv : Nat) : Prop := (c = 0 ∧ F 20 = 0) ∨ (c = 1 ∧ F 20 = 1) ∨ (c = 2 ∧ F 20 = 2 ∧ F 22 = -1 ∧ v = lN wv ∧ wv < 2 ^ 30) ∨ (c ∈ sgL ∧ F 20 = 3 ∧ F 21 = nI c) ∨ (∃ i, i < 10 ∧ fxL.getD i 0 = c ∧ F 20 = 2 ∧ F 22 = nI i)
/-- the text in the reference: its length, its bytes -/
def mTx (m : Nat) (h : HS) (tx : Nat → Nat) (n : Nat) : Prop := n ≤ 500 ∧ hI h m 17 = nI n ∧ ∀ k, k < n → hI h (m + 3) k = nI (tx k) ∧ tx k < 256
/-- token j is in hand -/
def mTk (m : Nat) (h : HS) (tx : Nat → Nat) (n j : Nat) : Prop := mTx m h tx n ∧ hI h m 18 = nI (plT tx n j) ∧ hI h m 19 = nI (psT tx n (j + 1)) ∧ mCd (hI h m) (hL h m 27) (cdT tx n j) (wdT tx n j)
/-- only what a token says has changed -/
def nxF (m : Nat) (h h' : HS) : Prop := h'.2.2 = h.2.2 ∧ (∀ b j, ¬ (b = m ∧ 18 ≤ j ∧ j ≤ 22) → hI h' b j = hI h b j) ∧ ∀ b j, ¬ (b = m ∧ j = 27) → hL h' b j = hL h b j
theorem nxF.nh {m : Nat} {h : HS} {F : Nat → Int32} {v : Int64} (hF : ∀ j, ¬ (18 ≤ j ∧ j ≤ 22) → F j = hI h m j) : nxF m h (nH m h F v) := by
  refine ⟨rfl, fun b j hn => ?_, fun b j hn => if_neg hn⟩
  by_cases e : b = m
  · rw [e, nH_0]; exact hF j (fun q => hn ⟨e, q⟩)
  · rw [nH_ne e]
theorem ltr_i : ∀ t, t < 256 → ((97 ≤ nI t ∧ nI t ≤ 122) ↔ isL t) := by decide +kernel
theorem nI_32 : ∀ t, t < 256 → (nI t = 32 ↔ t = 32) := by decide +kernel
theorem nI_10 : ∀ t, t < 256 → (nI t = 10 ↔ t = 10) := by decide +kernel
section M50
variable {w : gD} {m : Nat} {h : HS}
theorem e_m_byteT (hm : mSh m h) {tx : Nat → Nat} {n : Nat} (ht : mTx m h tx n) {F : Nat → Int32} {v : Int64} (hF : F 17 = nI n) {k : Nat} (hk : k < 100000) : EvF w 0 0 0 yX10_byteAt cX10_byteAt 2 (some .int) [.ref m, .int (nI k)] (nH m h F v) (some (.int (if k < n then nI (tx k) else -1))) (nH m h F v) := by
  have e := e_m_byteAt (w := w) (h := nH m h F v) (by exact hm) ht.1 (by rw [nH_0]; exact hF) hk
  have e2 : (if k < n then hI (nH m h F v) (m + 3) k else -1) = (if k < n then nI (tx k) else -1) := by
    by_cases q : k < n
    · rw [if_pos q, if_pos q, nH_ne (by omega)]; exact (ht.2.2 k q).1
    · rw [if_neg q, if_neg q]
  rw [e2] at e
  exact e
theorem e_m_next (si : gSI w) (hm : mSh m h) {tx : Nat → Nat} {n j : Nat} (ht : mTx m h tx n) (h19 : hI h m 19 = nI (psT tx n j)) : Ev w 5 0 0 yX10_next cX10_next 2 none [.ref m] h (fun r' h' => r' = none ∧ nxF m h h' ∧ mTk m h' tx n j) := by
  refine g_start (by decide) (Nat.le_of_ble_eq_true rfl) [(0, _)] rfl (fun z hfl C => ?_)
  obtain ⟨hn, h17, htx⟩ := ht
  have ht : mTx m h tx n := ⟨hn, h17, htx⟩
  obtain ⟨b1, b2, b3, b4, b5, b6⟩ := psT_pl (tx := tx) (n := n) j
  have fin : ∀ F v, (∀ i, ¬ (18 ≤ i ∧ i ≤ 22) → F i = hI h m i) → F 18 = nI (plT tx n j) → F 19 = nI (psT tx n (j + 1)) → mCd F v (cdT tx n j) (wdT tx n j) → ((none : Option Value) = none ∧ nxF m h (nH m h F v) ∧ mTk m (nH m h F v) tx n j) := by
    intro F v f1 f2 f3 f4
    refine ⟨rfl, nxF.nh f1, ⟨hn, by rw [nH_0, f1 17 (by omega)]; exact h17, fun k hk => by rw [nH_ne (by omega)]; exact htx k hk⟩, ?_, ?_, ?_⟩
    · rw [nH_0]; exact f2
    · rw [nH_0]; exact f3
    · rw [nH_0, nH_w]; exact f4
  have k39 : ∀ F, (∀ i, ¬ (18 ≤ i ∧ i ≤ 22) → F i = hI h m i) → F 19 = nI (plT tx n j) → GW z w 2 (gQ z w 0 0 (fun r' h'' => r' = none ∧ nxF m h h'' ∧ mTk m h'' tx n j)) 0 0 39 [(0, .ref m)] [] (nH m h F (hL h m 27)) := by
    intro F f1 f2
    generalize hp : plT tx n j = p at *
    have hpn : p ≤ n := by omega
    refine g_aload_n C (gd DX10_next_0 19 rfl) 0 rfl rfl ?_
    refine g_aload_n C (gd DX10_next_0 20 rfl) 0 rfl rfl ?_
    refine g_geti (ci := 10) (k := 19) C rfl (by decide) rfl lf_TestJudgeModel_158 hm.1 (gd DX10_next_0 21 rfl) ?_
    rw [nH_0, f2]
    refine g_puti (ci := 10) (k := 18) C rfl (by decide) rfl lf_TestJudgeModel_165 hm.1 (Or.inl rfl) rfl (gd DX10_next_0 22 rfl) ?_
    rw [nH_i]
    refine g_aload_n C (gd DX10_next_0 23 rfl) 0 rfl rfl ?_
    refine g_iconst (v := -1) C (gd DX10_next_0 24 rfl) (by decide) ?_
    refine g_puti (ci := 10) (k := 22) C rfl (by decide) rfl lf_TestJudgeModel_168 hm.1 (Or.inl rfl) rfl (gd DX10_next_0 25 rfl) ?_
    rw [nH_i]
    refine g_aload_n C (gd DX10_next_0 26 rfl) 0 rfl rfl ?_
    refine g_iconst (v := 0) C (gd DX10_next_0 27 rfl) (by decide) ?_
    refine g_puti (ci := 10) (k := 21) C rfl (by decide) rfl lf_TestJudgeModel_171 hm.1 (Or.inl rfl) rfl (gd DX10_next_0 28 rfl) ?_
    rw [nH_i]
    obtain ⟨G, hG⟩ : ∃ G, G = upd (upd (upd F 18 (nI p)) 22 (-1)) 21 0 := ⟨_, rfl⟩
    have g19 : G 19 = nI p := by rw [hG]; exact f2
    have g18 : G 18 = nI p := by rw [hG]; rfl
    have g22 : G 22 = -1 := by rw [hG]; rfl
    have gO : ∀ i, ¬ (18 ≤ i ∧ i ≤ 22) → G i = hI h m i := fun i hi => by rw [hG, upd, if_neg (by omega), upd, if_neg (by omega), upd, if_neg (by omega)]; exact f1 i hi
    rw [← hG]
    clear hG f1 f2
    have g17 : G 17 = nI n := by rw [gO 17 (by omega)]; exact h17
    refine g_aload_n C (gd DX10_next_0 29 rfl) 0 rfl rfl ?_
    refine g_aload_n C (gd DX10_next_0 30 rfl) 0 rfl rfl ?_
    refine g_geti (ci := 10) (k := 19) C rfl (by decide) rfl lf_TestJudgeModel_158 hm.1 (gd DX10_next_0 31 rfl) ?_
    rw [nH_0, g19]
    refine g_cV1 (ci := 10) C [_] mX10_byteAt lm_TestJudgeModel_161 (by exact hm.1) rfl rfl (e_m_byteT hm ht g17 (k := p) (by omega)) hfl (by decide) (by decide) (by omega) (by omega) rfl rfl (Nat.le_of_ble_eq_true rfl) (gd DX10_next_0 32 rfl) ?_
    by_cases hlt : p < n
    · rw [if_pos hlt]
      obtain ⟨t1, t2⟩ := htx p hlt
      refine g_istore_n (lv' := [(0, _), (1, _)]) C (gd DX10_next_0 33 rfl) [1, 0] rfl (by decide) rfl ?_
      refine g_iload_n C (gd DX10_next_0 34 rfl) 1 rfl rfl ?_
      refine g_iconst (v := -1) C (gd DX10_next_0 35 rfl) (by decide) ?_
      refine g_icmp_ne C 79 (gd DX10_next_0 36 rfl) (by decide) (fun c68 => ?_) (fun c68 => ?_)
      rotate_left
      · exact absurd c68 (nI_neg1 (by omega))
      · refine g_iload_n C (gd DX10_next_0 41 rfl) 1 rfl rfl ?_
        refine g_cS1 C [_] mX10_isLetter lm_TestJudgeModel_177 (e_m_isLetter _) hfl (by decide) (by decide) (by omega) (by omega) rfl rfl (Nat.le_of_ble_eq_true rfl) (gd DX10_next_0 42 rfl) ?_
        by_cases hl : isL (tx p)
        · rw [b1_t ((ltr_i _ t2).mpr hl)]
          refine g_if_eq C 198 (gd DX10_next_0 43 rfl) (by decide) (fun c83 => ?_) (fun c83 => ?_)
          · exact absurd c83 (by decide)
          · have etk : ∀ e, rnE tx (n - p) p = e → tkG tx n p = (if 6 < e - p then 1 else if pkW tx p (e - p) ∈ fxL then pkW tx p (e - p) else 2, pkW tx p (e - p), e) := fun e he => by
              rw [tkG, if_neg (by omega), if_pos hl, he]
            -- the kind is laid
            have k176 : ∀ e wv kd, p ≤ e → e ≤ n → (∀ i, p ≤ i → i < e → isL (tx i)) → rnE tx (n - p) p = e → (e - p ≤ 6 → wv = lN (pkW tx p (e - p))) → ((6 < e - p ∧ kd = 1) ∨ (e - p ≤ 6 ∧ kd = 2)) → GW z w 2 (gQ z w 0 0 (fun r' h'' => r' = none ∧ nxF m h h'' ∧ mTk m h'' tx n j)) 0 0 176 [(0, .ref m), (1, .int (nI (tx p)))] [.int kd, .ref m] (nH m h (upd G 19 (nI e)) wv) := by
              intro e wv kd hpe hen hls hrn hw hkd
              have ecd : cdT tx n j = if 6 < e - p then 1 else if pkW tx p (e - p) ∈ fxL then pkW tx p (e - p) else 2 := by rw [cdT, hp, etk e hrn]
              have ewd : wdT tx n j = pkW tx p (e - p) := by rw [wdT, hp, etk e hrn]
              have eps : psT tx n (j + 1) = e := by
                show (tkG tx n (plT tx n j)).2.2 = e
                rw [hp, etk e hrn]
              refine g_puti (ci := 10) (k := 20) C rfl (by decide) rfl lf_TestJudgeModel_174 hm.1 (Or.inl rfl) rfl (gd DX10_next_1 32 rfl) ?_
              rw [nH_i]
              refine g_aload_n C (gd DX10_next_1 33 rfl) 0 rfl rfl ?_
              refine g_geti (ci := 10) (k := 20) C rfl (by decide) rfl lf_TestJudgeModel_174 hm.1 (gd DX10_next_1 34 rfl) ?_
              rw [nH_0, show upd (upd G 19 (nI e)) 20 kd 20 = kd from rfl]
              rcases hkd with ⟨h6, rfl⟩ | ⟨h6, rfl⟩
              · refine g_iconst (v := 2) C (gd DX10_next_1 35 rfl) (by decide) ?_
                refine g_icmp_ne C 231 (gd DX10_next_1 36 rfl) (by decide) (fun c184 => ?_) (fun c184 => ?_)
                · refine g_vret C (by omega) (by omega) (fin _ _ (fun i hi => by rw [upd, if_neg (by omega), upd, if_neg (by omega)]; exact gO i hi) g18 (by rw [eps]; rfl) (Or.inr (Or.inl ⟨by rw [ecd, if_pos h6], rfl⟩))) (gd DX10_next_2 0 rfl)
                · exact absurd c184 (by decide)
              · have hb := pkW_lt (tx := tx) (q := p) (e - p) (fun i hi => hls (p + i) (by omega) (by omega))
                have hb2 : 32 ^ (e - p) ≤ 32 ^ 6 := Nat.pow_le_pow_right (by omega) h6
                rw [if_neg (by omega)] at ecd
                refine g_iconst (v := 2) C (gd DX10_next_1 35 rfl) (by decide) ?_
                refine g_icmp_ne C 231 (gd DX10_next_1 36 rfl) (by decide) (fun c184 => ?_) (fun c184 => ?_)
                · exact absurd rfl c184
                · refine g_aload_n C (gd DX10_next_1 37 rfl) 0 rfl rfl ?_
                  refine g_aload_n C (gd DX10_next_1 38 rfl) 0 rfl rfl ?_
                  refine g_callV (ci := 10) C [] mX10_own lm_TestJudgeModel_186 (by exact hm.1) rfl rfl (e_m_own (h := nH m h (upd (upd G 19 (nI e)) 20 2) wv) si (by exact hm) (W := pkW tx p (e - p)) (by omega) (by rw [nH_w]; exact hw h6)) hfl (by decide) (by decide) (by omega) (by omega) rfl rfl (Nat.le_of_ble_eq_true rfl) (gd DX10_next_1 39 rfl) (fun r h2 hp => ?_)
                  obtain ⟨rfl, ⟨i, i1, rfl, i2⟩ | ⟨rfl, i1⟩⟩ := hp
                  · show GW z w 2 _ 0 0 _ _ (.int (nI i) :: _) _
                    refine g_puti (ci := 10) (k := 22) C rfl (by decide) rfl lf_TestJudgeModel_168 hm.1 (Or.inl rfl) rfl (gd DX10_next_1 40 rfl) ?_
                    rw [nH_i]
                    refine g_goto (tgt := 231) C (gd DX10_next_1 41 rfl) (by decide) ?_
                    have hmem : pkW tx p (e - p) ∈ fxL := by rw [← i2]; exact (by decide : ∀ i, i < 10 → fxL.getD i 0 ∈ fxL) i i1
                    refine g_vret C (by omega) (by omega) (fin _ _ (fun i hi => by rw [upd, if_neg (by omega), upd, if_neg (by omega), upd, if_neg (by omega)]; exact gO i hi) g18 (by rw [eps]; rfl) (Or.inr (Or.inr (Or.inr (Or.inr ⟨i, i1, by rw [ecd, if_pos hmem]; exact i2, rfl, rfl⟩))))) (gd DX10_next_2 0 rfl)
                  · show GW z w 2 _ 0 0 _ _ (.int (-1) :: _) _
                    refine g_puti (ci := 10) (k := 22) C rfl (by decide) rfl lf_TestJudgeModel_168 hm.1 (Or.inl rfl) rfl (gd DX10_next_1 40 rfl) ?_
                    rw [nH_i]
                    refine g_goto (tgt := 231) C (gd DX10_next_1 41 rfl) (by decide) ?_
                    refine g_vret C (by omega) (by omega) (fin _ _ (fun i hi => by rw [upd, if_neg (by omega), upd, if_neg (by omega), upd, if_neg (by omega)]; exact gO i hi) g18 (by rw [eps]; rfl) (Or.inr (Or.inr (Or.inl ⟨by rw [ecd, if_neg i1], rfl, rfl, by rw [ewd]; exact hw h6, by rw [ewd]; omega⟩)))) (gd DX10_next_2 0 rfl)
            have out : ∀ e wv, p ≤ e → e ≤ n → (∀ i, p ≤ i → i < e → isL (tx i)) → rnE tx (n - p) p = e → (e - p ≤ 6 → wv = lN (pkW tx p (e - p))) → GW z w 2 (gQ z w 0 0 (fun r' h'' => r' = none ∧ nxF m h h'' ∧ mTk m h'' tx n j)) 0 0 156 [(0, .ref m), (1, .int (nI (tx p)))] [] (nH m h (upd G 19 (nI e)) wv) := by
              intro e wv hpe hen hls hrn hw
              refine g_aload_n C (gd DX10_next_1 21 rfl) 0 rfl rfl ?_
              refine g_aload_n C (gd DX10_next_1 22 rfl) 0 rfl rfl ?_
              refine g_geti (ci := 10) (k := 19) C rfl (by decide) rfl lf_TestJudgeModel_158 hm.1 (gd DX10_next_1 23 rfl) ?_
              rw [nH_0, show upd G 19 (nI e) 19 = nI e from rfl]
              refine g_aload_n C (gd DX10_next_1 24 rfl) 0 rfl rfl ?_
              refine g_geti (ci := 10) (k := 18) C rfl (by decide) rfl lf_TestJudgeModel_165 hm.1 (gd DX10_next_1 25 rfl) ?_
              rw [nH_0, show upd G 19 (nI e) 18 = nI p from g18]
              refine g_isub C (gd DX10_next_1 26 rfl) ?_
              rw [show nI e - nI p = nI (e - p) from nx_sub rfl rfl hpe]
              refine g_bipush (v := 6) C (gd DX10_next_1 27 rfl) (by decide) ?_
              refine g_icmp_le C 175 (gd DX10_next_1 28 rfl) (by decide) (fun c168 => ?_) (fun c168 => ?_)
              · refine g_iconst (v := 2) C (gd DX10_next_1 31 rfl) (by decide) ?_
                exact k176 e wv 2 hpe hen hls hrn hw (Or.inr ⟨(nI_leI (a := e - p) (b := 6) (by omega) (by omega)).mp c168, rfl⟩)
              · refine g_iconst (v := 1) C (gd DX10_next_1 29 rfl) (by decide) ?_
                refine g_goto (tgt := 176) C (gd DX10_next_1 30 rfl) (by decide) ?_
                exact k176 e wv 1 hpe hen hls hrn hw (Or.inl ⟨Nat.lt_of_not_le (fun q => c168 (nI_le (a := e - p) (b := 6) q (by omega))), rfl⟩)
            have loop : ∀ y e wv, n ≤ e + y → p ≤ e → e ≤ n → (∀ i, p ≤ i → i < e → isL (tx i)) → rnE tx (n - p) p = rnE tx (n - e) e → (e - p ≤ 6 → wv = lN (pkW tx p (e - p))) → GW z w 2 (gQ z w 0 0 (fun r' h'' => r' = none ∧ nxF m h h'' ∧ mTk m h'' tx n j)) 0 0 91 [(0, .ref m), (1, .int (nI (tx p)))] [] (nH m h (upd G 19 (nI e)) wv) := by
              intro y
              induction y with
              | zero =>
                intro e wv hy hpe hen hls hrn hw
                have ee : e = n := by omega
                subst ee
                refine g_aload_n C (gd DX10_next_0 47 rfl) 0 rfl rfl ?_
                refine g_aload_n C (gd DX10_next_0 48 rfl) 0 rfl rfl ?_
                refine g_geti (ci := 10) (k := 19) C rfl (by decide) rfl lf_TestJudgeModel_158 hm.1 (gd DX10_next_0 49 rfl) ?_
                rw [nH_0, show upd G 19 (nI e) 19 = nI e from rfl]
                refine g_cV1 (ci := 10) C [_] mX10_byteAt lm_TestJudgeModel_161 (by exact hm.1) rfl rfl (e_m_byteT hm ht (F := upd G 19 (nI e)) g17 (k := e) (by omega)) hfl (by decide) (by decide) (by omega) (by omega) rfl rfl (Nat.le_of_ble_eq_true rfl) (gd DX10_next_0 50 rfl) ?_
                rw [if_neg (Nat.lt_irrefl _)]
                refine g_cS1 C [_] mX10_isLetter lm_TestJudgeModel_177 (e_m_isLetter _) hfl (by decide) (by decide) (by omega) (by omega) rfl rfl (Nat.le_of_ble_eq_true rfl) (gd DX10_next_0 51 rfl) ?_
                rw [b1_f (by decide)]
                refine g_if_eq C 156 (gd DX10_next_0 52 rfl) (by decide) (fun c102 => ?_) (fun c102 => ?_)
                · exact out e wv hpe (Nat.le_refl _) hls (by rw [hrn]; exact rnE_stay (Or.inl (Nat.le_refl _))) hw
                · exact absurd rfl c102
              | succ y ih =>
                intro e wv hy hpe hen hls hrn hw
                refine g_aload_n C (gd DX10_next_0 47 rfl) 0 rfl rfl ?_
                refine g_aload_n C (gd DX10_next_0 48 rfl) 0 rfl rfl ?_
                refine g_geti (ci := 10) (k := 19) C rfl (by decide) rfl lf_TestJudgeModel_158 hm.1 (gd DX10_next_0 49 rfl) ?_
                rw [nH_0, show upd G 19 (nI e) 19 = nI e from rfl]
                refine g_cV1 (ci := 10) C [_] mX10_byteAt lm_TestJudgeModel_161 (by exact hm.1) rfl rfl (e_m_byteT hm ht (F := upd G 19 (nI e)) g17 (k := e) (by omega)) hfl (by decide) (by decide) (by omega) (by omega) rfl rfl (Nat.le_of_ble_eq_true rfl) (gd DX10_next_0 50 rfl) ?_
                by_cases hlt2 : e < n
                · rw [if_pos hlt2]
                  obtain ⟨u1, u2⟩ := htx e hlt2
                  refine g_cS1 C [_] mX10_isLetter lm_TestJudgeModel_177 (e_m_isLetter _) hfl (by decide) (by decide) (by omega) (by omega) rfl rfl (Nat.le_of_ble_eq_true rfl) (gd DX10_next_0 51 rfl) ?_
                  by_cases hl2 : isL (tx e)
                  · rw [b1_t ((ltr_i _ u2).mpr hl2)]
                    have nxt : ∀ wv', (e + 1 - p ≤ 6 → wv' = lN (pkW tx p (e + 1 - p))) → GW z w 2 (gQ z w 0 0 (fun r' h'' => r' = none ∧ nxF m h h'' ∧ mTk m h'' tx n j)) 0 0 143 [(0, .ref m), (1, .int (nI (tx p)))] [] (nH m h (upd G 19 (nI e)) wv') := by
                      intro wv' hw'
                      refine g_aload_n C (gd DX10_next_1 14 rfl) 0 rfl rfl ?_
                      refine g_dup C (gd DX10_next_1 15 rfl) rfl ?_
                      refine g_geti (ci := 10) (k := 19) C rfl (by decide) rfl lf_TestJudgeModel_158 hm.1 (gd DX10_next_1 16 rfl) ?_
                      rw [nH_0, show upd G 19 (nI e) 19 = nI e from rfl]
                      refine g_iconst (v := 1) C (gd DX10_next_1 17 rfl) (by decide) ?_
                      refine g_iadd C (gd DX10_next_1 18 rfl) ?_
                      rw [show nI e + 1 = nI (e + 1) from nx_add (b := 1) rfl rfl]
                      refine g_puti (ci := 10) (k := 19) C rfl (by decide) rfl lf_TestJudgeModel_158 hm.1 (Or.inl rfl) rfl (gd DX10_next_1 19 rfl) ?_
                      rw [nH_i, show upd (upd G 19 (nI e)) 19 (nI (e + 1)) = upd G 19 (nI (e + 1)) from upd_upd _ _ _ _]
                      refine g_goto (tgt := 91) C (gd DX10_next_1 20 rfl) (by decide) ?_
                      refine ih (e + 1) wv' (by omega) (by omega) (by omega) (fun i i1 i2 => ?_) (by rw [hrn, rnE_l hlt2 hl2]) hw'
                      by_cases ei : i = e
                      · rw [ei]; exact hl2
                      · exact hls i i1 (by omega)
                    refine g_if_eq C 156 (gd DX10_next_0 52 rfl) (by decide) (fun c102 => ?_) (fun c102 => ?_)
                    · exact absurd c102 (by decide)
                    · refine g_aload_n C (gd DX10_next_0 53 rfl) 0 rfl rfl ?_
                      refine g_geti (ci := 10) (k := 19) C rfl (by decide) rfl lf_TestJudgeModel_158 hm.1 (gd DX10_next_0 54 rfl) ?_
                      rw [nH_0, show upd G 19 (nI e) 19 = nI e from rfl]
                      refine g_aload_n C (gd DX10_next_0 55 rfl) 0 rfl rfl ?_
                      refine g_geti (ci := 10) (k := 18) C rfl (by decide) rfl lf_TestJudgeModel_165 hm.1 (gd DX10_next_0 56 rfl) ?_
                      rw [nH_0, show upd G 19 (nI e) 18 = nI p from g18]
                      refine g_isub C (gd DX10_next_0 57 rfl) ?_
                      rw [show nI e - nI p = nI (e - p) from nx_sub rfl rfl hpe]
                      refine g_bipush (v := 6) C (gd DX10_next_0 58 rfl) (by decide) ?_
                      refine g_icmp_ge C 143 (gd DX10_next_0 59 rfl) (by decide) (fun c116 => ?_) (fun c116 => ?_)
                      · have := ge_t (a := e - p) (b := 6) c116 (by omega) (by omega)
                        exact nxt wv (fun q => by omega)
                      · have h5 := ge_f (a := e - p) (b := 6) c116 (by omega) (by omega)
                        have hb := pkW_lt (tx := tx) (q := p) (e - p) (fun i hi => hls (p + i) (by omega) (by omega))
                        have hb2 : 32 ^ (e - p) ≤ 32 ^ 5 := Nat.pow_le_pow_right (by omega) (by omega)
                        refine g_aload_n C (gd DX10_next_1 0 rfl) 0 rfl rfl ?_
                        refine g_aload_n C (gd DX10_next_1 1 rfl) 0 rfl rfl ?_
                        refine g_getl (ci := 10) (k := 27) C rfl (by decide) rfl lf_TestJudgeModel_180 hm.1 (gd DX10_next_1 2 rfl) ?_
                        rw [nH_w, hw (by omega)]
                        refine g_iconst (v := 5) C (gd DX10_next_1 3 rfl) (by decide) ?_
                        refine g_lshl C (gd DX10_next_1 4 rfl) ?_
                        refine g_aload_n C (gd DX10_next_1 5 rfl) 0 rfl rfl ?_
                        refine g_aload_n C (gd DX10_next_1 6 rfl) 0 rfl rfl ?_
                        refine g_geti (ci := 10) (k := 19) C rfl (by decide) rfl lf_TestJudgeModel_158 hm.1 (gd DX10_next_1 7 rfl) ?_
                        rw [nH_0, show upd G 19 (nI e) 19 = nI e from rfl]
                        refine g_cV1 (ci := 10) C [_] mX10_byteAt lm_TestJudgeModel_161 (by exact hm.1) rfl rfl (e_m_byteT hm ht (F := upd G 19 (nI e)) g17 (k := e) (by omega)) hfl (by decide) (by decide) (by omega) (by omega) rfl rfl (Nat.le_of_ble_eq_true rfl) (gd DX10_next_1 8 rfl) ?_
                        rw [if_pos hlt2]
                        refine g_i2l C (gd DX10_next_1 9 rfl) ?_
                        refine g_ldc2 (v := 96) C (gd DX10_next_1 10 rfl) lK_TestJudgeModel_184 ?_
                        refine g_lsub C (gd DX10_next_1 11 rfl) ?_
                        refine g_lor C (gd DX10_next_1 12 rfl) ?_
                        rw [sh5L (by omega) hl2]
                        refine g_putl (ci := 10) (k := 27) C rfl (by decide) rfl lf_TestJudgeModel_180 hm.1 (Or.inl rfl) rfl (gd DX10_next_1 13 rfl) ?_
                        rw [nH_l]
                        refine nxt _ (fun _ => ?_)
                        rw [show e + 1 - p = (e - p) + 1 by omega, pkW, show p + (e - p) = e by omega]
                  · rw [b1_f (fun q => hl2 ((ltr_i _ u2).mp q))]
                    refine g_if_eq C 156 (gd DX10_next_0 52 rfl) (by decide) (fun c102 => ?_) (fun c102 => ?_)
                    · exact out e wv hpe hen hls (by rw [hrn]; exact rnE_stay (Or.inr hl2)) hw
                    · exact absurd rfl c102
                · rw [if_neg hlt2]
                  refine g_cS1 C [_] mX10_isLetter lm_TestJudgeModel_177 (e_m_isLetter _) hfl (by decide) (by decide) (by omega) (by omega) rfl rfl (Nat.le_of_ble_eq_true rfl) (gd DX10_next_0 51 rfl) ?_
                  rw [b1_f (by decide)]
                  refine g_if_eq C 156 (gd DX10_next_0 52 rfl) (by decide) (fun c102 => ?_) (fun c102 => ?_)
                  · exact out e wv hpe hen hls (by rw [hrn]; exact rnE_stay (Or.inl (by omega))) hw
                  · exact absurd rfl c102
            refine g_aload_n C (gd DX10_next_0 44 rfl) 0 rfl rfl ?_
            refine g_lconst (v := 0) C (gd DX10_next_0 45 rfl) (by decide) ?_
            refine g_putl (ci := 10) (k := 27) C rfl (by decide) rfl lf_TestJudgeModel_180 hm.1 (Or.inl rfl) rfl (gd DX10_next_0 46 rfl) ?_
            rw [nH_l]
            refine GW.cast rfl rfl ?_ (loop (n - p) p 0 (by omega) (Nat.le_refl _) hpn (fun i i1 i2 => by omega) rfl (fun _ => by rw [Nat.sub_self]; rfl))
            rw [show upd G 19 (nI p) = G from by rw [← g19]; exact upd_same _ _]
        · rw [b1_f (fun q => hl ((ltr_i _ t2).mp q))]
          have ecd : cdT tx n j = if tx p ∈ sgL then tx p else 1 := by rw [cdT, hp, tkG, if_neg (by omega), if_neg hl]
          have eps : psT tx n (j + 1) = p + 1 := by
            show (tkG tx n (plT tx n j)).2.2 = p + 1
            rw [hp, tkG, if_neg (by omega), if_neg hl]
          obtain ⟨qa, va, hZ, sc⟩ := si.s1
          refine g_if_eq C 198 (gd DX10_next_0 43 rfl) (by decide) (fun c83 => ?_) (fun c83 => ?_)
          · refine g_aload_n C (gd DX10_next_1 42 rfl) 0 rfl rfl ?_
            refine g_dup C (gd DX10_next_1 43 rfl) rfl ?_
            refine g_geti (ci := 10) (k := 19) C rfl (by decide) rfl lf_TestJudgeModel_158 hm.1 (gd DX10_next_1 44 rfl) ?_
            rw [nH_0, g19]
            refine g_iconst (v := 1) C (gd DX10_next_1 45 rfl) (by decide) ?_
            refine g_iadd C (gd DX10_next_1 46 rfl) ?_
            rw [show nI p + 1 = nI (p + 1) from nx_add (b := 1) rfl rfl]
            refine g_puti (ci := 10) (k := 19) C rfl (by decide) rfl lf_TestJudgeModel_158 hm.1 (Or.inl rfl) rfl (gd DX10_next_1 47 rfl) ?_
            rw [nH_i]
            refine g_aload_n C (gd DX10_next_1 48 rfl) 0 rfl rfl ?_
            refine g_strC C hZ (gd DX10_next_1 49 rfl) ?_
            refine g_iload_n C (gd DX10_next_1 50 rfl) 1 rfl rfl ?_
            refine g_cVs C [_] mJ0_indexOf_0f7a4 lm_TestJudgeModel_192 sc.1 (e_j_indexOf si sc t2 (by decide) (by decide)) hfl (by decide) (by decide) (by omega) (by omega) rfl rfl (Nat.le_of_ble_eq_true rfl) (gd DX10_next_1 51 rfl) (fun r h2 hp2 => ?_)
            obtain ⟨rfl, ⟨i, i1, rfl, i2⟩ | ⟨rfl, i1⟩⟩ := hp2
            · have hs : tx p ∈ sgL := (sg_mem _ t2).mpr ⟨i, i1, i2⟩
              show GW z w 2 _ 0 0 _ _ (.int (nI i) :: _) _
              refine g_if_ge C 222 (gd DX10_next_1 52 rfl) (by decide) (fun c215 => ?_) (fun c215 => ?_)
              · refine g_iconst (v := 3) C (gd DX10_next_1 55 rfl) (by decide) ?_
                refine g_puti (ci := 10) (k := 20) C rfl (by decide) rfl lf_TestJudgeModel_174 hm.1 (Or.inl rfl) rfl (gd DX10_next_1 56 rfl) ?_
                rw [nH_i]
                refine g_aload_n C (gd DX10_next_1 57 rfl) 0 rfl rfl ?_
                refine g_iload_n C (gd DX10_next_1 58 rfl) 1 rfl rfl ?_
                refine g_puti (ci := 10) (k := 21) C rfl (by decide) rfl lf_TestJudgeModel_171 hm.1 (Or.inl rfl) rfl (gd DX10_next_1 59 rfl) ?_
                rw [nH_i]
                refine g_vret C (by omega) (by omega) (fin _ _ (fun i hi => by rw [upd, if_neg (by omega), upd, if_neg (by omega), upd, if_neg (by omega)]; exact gO i hi) g18 (by rw [eps]; rfl) (Or.inr (Or.inr (Or.inr (Or.inl ⟨by rw [ecd, if_pos hs]; exact hs, rfl, by rw [ecd, if_pos hs]; rfl⟩))))) (gd DX10_next_2 0 rfl)
              · exact absurd (nI_pos' (by have : i < 9 := i1; omega)) c215
            · have hs : ¬ tx p ∈ sgL := fun q => by obtain ⟨k, k1, k2⟩ := (sg_mem _ t2).mp q; exact i1 k k1 k2
              show GW z w 2 _ 0 0 _ _ (.int (-1) :: _) _
              refine g_if_ge C 222 (gd DX10_next_1 52 rfl) (by decide) (fun c215 => ?_) (fun c215 => ?_)
              · exact absurd c215 (by decide)
              · refine g_iconst (v := 1) C (gd DX10_next_1 53 rfl) (by decide) ?_
                refine g_goto (tgt := 223) C (gd DX10_next_1 54 rfl) (by decide) ?_
                refine g_puti (ci := 10) (k := 20) C rfl (by decide) rfl lf_TestJudgeModel_174 hm.1 (Or.inl rfl) rfl (gd DX10_next_1 56 rfl) ?_
                rw [nH_i]
                refine g_aload_n C (gd DX10_next_1 57 rfl) 0 rfl rfl ?_
                refine g_iload_n C (gd DX10_next_1 58 rfl) 1 rfl rfl ?_
                refine g_puti (ci := 10) (k := 21) C rfl (by decide) rfl lf_TestJudgeModel_171 hm.1 (Or.inl rfl) rfl (gd DX10_next_1 59 rfl) ?_
                rw [nH_i]
                refine g_vret C (by omega) (by omega) (fin _ _ (fun i hi => by rw [upd, if_neg (by omega), upd, if_neg (by omega), upd, if_neg (by omega)]; exact gO i hi) g18 (by rw [eps]; rfl) (Or.inr (Or.inl ⟨by rw [ecd, if_neg hs], rfl⟩))) (gd DX10_next_2 0 rfl)
          · exact absurd rfl c83
    · rw [if_neg hlt]
      have ep : p = n := by omega
      refine g_istore_n (lv' := [(0, _), (1, _)]) C (gd DX10_next_0 33 rfl) [1, 0] rfl (by decide) rfl ?_
      refine g_iload_n C (gd DX10_next_0 34 rfl) 1 rfl rfl ?_
      refine g_iconst (v := -1) C (gd DX10_next_0 35 rfl) (by decide) ?_
      refine g_icmp_ne C 79 (gd DX10_next_0 36 rfl) (by decide) (fun c68 => ?_) (fun c68 => ?_)
      · exact absurd rfl c68
      · refine g_aload_n C (gd DX10_next_0 37 rfl) 0 rfl rfl ?_
        refine g_iconst (v := 0) C (gd DX10_next_0 38 rfl) (by decide) ?_
        refine g_puti (ci := 10) (k := 20) C rfl (by decide) rfl lf_TestJudgeModel_174 hm.1 (Or.inl rfl) rfl (gd DX10_next_0 39 rfl) ?_
        rw [nH_i]
        refine g_goto (tgt := 231) C (gd DX10_next_0 40 rfl) (by decide) ?_
        refine g_vret C (by omega) (by omega) (fin _ _ (fun i hi => by rw [upd, if_neg (by omega)]; exact gO i hi) g18 (by rw [b6 ep]; exact g19.trans (congrArg nI ep)) (Or.inl ⟨(cd_0 j).mpr (hp.trans ep), rfl⟩)) (gd DX10_next_2 0 rfl)
  have skip : ∀ y p, n ≤ p + y → p ≤ n → skB tx (n - p) p = plT tx n j → GW z w 2 (gQ z w 0 0 (fun r' h'' => r' = none ∧ nxF m h h'' ∧ mTk m h'' tx n j)) 0 0 0 [(0, .ref m)] [] (nH m h (upd (hI h m) 19 (nI p)) (hL h m 27)) := by
    intro y
    induction y with
    | zero =>
      intro p hy hp hs
      have ep : p = n := by omega
      rw [skB_stay (Or.inl (by omega))] at hs
      refine g_aload_n C (gd DX10_next_0 0 rfl) 0 rfl rfl ?_
      refine g_aload_n C (gd DX10_next_0 1 rfl) 0 rfl rfl ?_
      refine g_geti (ci := 10) (k := 19) C rfl (by decide) rfl lf_TestJudgeModel_158 hm.1 (gd DX10_next_0 2 rfl) ?_
      rw [nH_0, show upd (hI h m) 19 (nI p) 19 = nI p from rfl]
      refine g_cV1 (ci := 10) C [_] mX10_byteAt lm_TestJudgeModel_161 (by exact hm.1) rfl rfl (e_m_byteT hm ht (F := upd (hI h m) 19 (nI p)) h17 (k := p) (by omega)) hfl (by decide) (by decide) (by omega) (by omega) rfl rfl (Nat.le_of_ble_eq_true rfl) (gd DX10_next_0 3 rfl) ?_
      rw [if_neg (by omega)]
      refine g_bipush (v := 32) C (gd DX10_next_0 4 rfl) (by decide) ?_
      refine g_icmp_eq C 26 (gd DX10_next_0 5 rfl) (by decide) (fun c10 => ?_) (fun c10 => ?_)
      · exact absurd c10 (by decide)
      · refine g_aload_n C (gd DX10_next_0 6 rfl) 0 rfl rfl ?_
        refine g_aload_n C (gd DX10_next_0 7 rfl) 0 rfl rfl ?_
        refine g_geti (ci := 10) (k := 19) C rfl (by decide) rfl lf_TestJudgeModel_158 hm.1 (gd DX10_next_0 8 rfl) ?_
        rw [nH_0, show upd (hI h m) 19 (nI p) 19 = nI p from rfl]
        refine g_cV1 (ci := 10) C [_] mX10_byteAt lm_TestJudgeModel_161 (by exact hm.1) rfl rfl (e_m_byteT hm ht (F := upd (hI h m) 19 (nI p)) h17 (k := p) (by omega)) hfl (by decide) (by decide) (by omega) (by omega) rfl rfl (Nat.le_of_ble_eq_true rfl) (gd DX10_next_0 9 rfl) ?_
        rw [if_neg (by omega)]
        refine g_bipush (v := 10) C (gd DX10_next_0 10 rfl) (by decide) ?_
        refine g_icmp_ne C 39 (gd DX10_next_0 11 rfl) (by decide) (fun c23 => ?_) (fun c23 => ?_)
        · exact k39 _ (fun i hi => by rw [upd, if_neg (by omega)]) (by rw [← hs]; rfl)
        · exact absurd c23 (by decide)
    | succ y ih =>
      intro p hy hp hs
      have again : isB (tx p) → p < n → GW z w 2 (gQ z w 0 0 (fun r' h'' => r' = none ∧ nxF m h h'' ∧ mTk m h'' tx n j)) 0 0 26 [(0, .ref m)] [] (nH m h (upd (hI h m) 19 (nI p)) (hL h m 27)) := by
        intro hb hlt
        refine g_aload_n C (gd DX10_next_0 12 rfl) 0 rfl rfl ?_
        refine g_dup C (gd DX10_next_0 13 rfl) rfl ?_
        refine g_geti (ci := 10) (k := 19) C rfl (by decide) rfl lf_TestJudgeModel_158 hm.1 (gd DX10_next_0 14 rfl) ?_
        rw [nH_0, show upd (hI h m) 19 (nI p) 19 = nI p from rfl]
        refine g_iconst (v := 1) C (gd DX10_next_0 15 rfl) (by decide) ?_
        refine g_iadd C (gd DX10_next_0 16 rfl) ?_
        rw [show nI p + 1 = nI (p + 1) from nx_add (b := 1) rfl rfl]
        refine g_puti (ci := 10) (k := 19) C rfl (by decide) rfl lf_TestJudgeModel_158 hm.1 (Or.inl rfl) rfl (gd DX10_next_0 17 rfl) ?_
        rw [nH_i, show upd (upd (hI h m) 19 (nI p)) 19 (nI (p + 1)) = upd (hI h m) 19 (nI (p + 1)) from upd_upd _ _ _ _]
        refine g_goto (tgt := 0) C (gd DX10_next_0 18 rfl) (by decide) ?_
        exact ih (p + 1) (by omega) (by omega) (by rw [← skB_b hlt hb]; exact hs)
      refine g_aload_n C (gd DX10_next_0 0 rfl) 0 rfl rfl ?_
      refine g_aload_n C (gd DX10_next_0 1 rfl) 0 rfl rfl ?_
      refine g_geti (ci := 10) (k := 19) C rfl (by decide) rfl lf_TestJudgeModel_158 hm.1 (gd DX10_next_0 2 rfl) ?_
      rw [nH_0, show upd (hI h m) 19 (nI p) 19 = nI p from rfl]
      refine g_cV1 (ci := 10) C [_] mX10_byteAt lm_TestJudgeModel_161 (by exact hm.1) rfl rfl (e_m_byteT hm ht (F := upd (hI h m) 19 (nI p)) h17 (k := p) (by omega)) hfl (by decide) (by decide) (by omega) (by omega) rfl rfl (Nat.le_of_ble_eq_true rfl) (gd DX10_next_0 3 rfl) ?_
      by_cases hlt : p < n
      · obtain ⟨t1, t2⟩ := htx p hlt
        rw [if_pos hlt]
        refine g_bipush (v := 32) C (gd DX10_next_0 4 rfl) (by decide) ?_
        refine g_icmp_eq C 26 (gd DX10_next_0 5 rfl) (by decide) (fun c10 => ?_) (fun c10 => ?_)
        · exact again (Or.inr ((nI_32 _ t2).mp c10)) hlt
        · refine g_aload_n C (gd DX10_next_0 6 rfl) 0 rfl rfl ?_
          refine g_aload_n C (gd DX10_next_0 7 rfl) 0 rfl rfl ?_
          refine g_geti (ci := 10) (k := 19) C rfl (by decide) rfl lf_TestJudgeModel_158 hm.1 (gd DX10_next_0 8 rfl) ?_
          rw [nH_0, show upd (hI h m) 19 (nI p) 19 = nI p from rfl]
          refine g_cV1 (ci := 10) C [_] mX10_byteAt lm_TestJudgeModel_161 (by exact hm.1) rfl rfl (e_m_byteT hm ht (F := upd (hI h m) 19 (nI p)) h17 (k := p) (by omega)) hfl (by decide) (by decide) (by omega) (by omega) rfl rfl (Nat.le_of_ble_eq_true rfl) (gd DX10_next_0 9 rfl) ?_
          rw [if_pos hlt]
          refine g_bipush (v := 10) C (gd DX10_next_0 10 rfl) (by decide) ?_
          refine g_icmp_ne C 39 (gd DX10_next_0 11 rfl) (by decide) (fun c23 => ?_) (fun c23 => ?_)
          · have nb : ¬ isB (tx p) := fun q => q.elim (fun q => c23 ((nI_10 _ t2).mpr q)) (fun q => c10 ((nI_32 _ t2).mpr q))
            rw [skB_stay (Or.inr nb)] at hs
            exact k39 _ (fun i hi => by rw [upd, if_neg (by omega)]) (by rw [← hs]; rfl)
          · exact again (Or.inl ((nI_10 _ t2).mp c23)) hlt
      · rw [skB_stay (Or.inl (by omega))] at hs
        rw [if_neg hlt]
        refine g_bipush (v := 32) C (gd DX10_next_0 4 rfl) (by decide) ?_
        refine g_icmp_eq C 26 (gd DX10_next_0 5 rfl) (by decide) (fun c10 => ?_) (fun c10 => ?_)
        · exact absurd c10 (by decide)
        · refine g_aload_n C (gd DX10_next_0 6 rfl) 0 rfl rfl ?_
          refine g_aload_n C (gd DX10_next_0 7 rfl) 0 rfl rfl ?_
          refine g_geti (ci := 10) (k := 19) C rfl (by decide) rfl lf_TestJudgeModel_158 hm.1 (gd DX10_next_0 8 rfl) ?_
          rw [nH_0, show upd (hI h m) 19 (nI p) 19 = nI p from rfl]
          refine g_cV1 (ci := 10) C [_] mX10_byteAt lm_TestJudgeModel_161 (by exact hm.1) rfl rfl (e_m_byteT hm ht (F := upd (hI h m) 19 (nI p)) h17 (k := p) (by omega)) hfl (by decide) (by decide) (by omega) (by omega) rfl rfl (Nat.le_of_ble_eq_true rfl) (gd DX10_next_0 9 rfl) ?_
          rw [if_neg hlt]
          refine g_bipush (v := 10) C (gd DX10_next_0 10 rfl) (by decide) ?_
          refine g_icmp_ne C 39 (gd DX10_next_0 11 rfl) (by decide) (fun c23 => ?_) (fun c23 => ?_)
          · exact k39 _ (fun i hi => by rw [upd, if_neg (by omega)]) (by rw [← hs]; rfl)
          · exact absurd c23 (by decide)
  refine GW.cast rfl rfl ?_ (skip n (psT tx n j) (by omega) b1 rfl)
  rw [show upd (hI h m) 19 (nI (psT tx n j)) = hI h m from by rw [← h19]; exact upd_same _ _, nH_self]
end M50
