/-! the records' methods over a heap whose row rec is on view; what facts forbid -/
/-- the weight of a record -/
def wt (R : Nat → Int32) : Nat := (R 0).toNatClampNeg
theorem wt_of {R : Nat → Int32} {a : Nat} (h : R 0 = nI a) (ha : a < 2 ^ 31) : wt R = a := by rw [wt, h, nI_clamp ha]
theorem rBes_0 {X Y : Nat → Int32} {a b : Nat} : rBes X Y a b 0 = nI (a + b) := by
  unfold rBes
  split
  · rw [besF, if_pos rfl]
  · rw [upd, if_pos rfl]
theorem rSum_0 {X Y : Nat → Int32} {a b : Nat} : rSum X Y a b 0 = nI (a + b) := by
  unfold rSum
  split
  · rw [upd, if_neg (by omega), rBes_0]
  · exact rBes_0
theorem rJoin_0 {X Y : Nat → Int32} {a b : Nat} : rJoin X Y a b 0 = nI (a + b) := by
  unfold rJoin
  split
  · rw [joQ, if_neg (by omega), joP, if_neg (by omega), if_neg (by omega), if_neg (by omega), rBes_0]
  · exact rBes_0
/-- what the facts of a set forbid, those below f; the row rec, with its records 90 and 93 made anew -/
def fbR (some0 : Int32) (ρ : Nat → Int32) : Nat → (Nat → Int32)
  | 0 => pRec ρ 90 (rPlain 0)
  | f + 1 => if some0 >>> (nI f &&& 31) &&& 1 = 1 then
      pRec (pRec (fbR some0 ρ f) 93 (rSum (gRec (fbR some0 ρ f) 90) (gRec (fbR some0 ρ f) (8 + f)) (wt (gRec (fbR some0 ρ f) 90)) (wt (gRec (fbR some0 ρ f) (8 + f))))) 90
        (gRec (pRec (fbR some0 ρ f) 93 (rSum (gRec (fbR some0 ρ f) 90) (gRec (fbR some0 ρ f) (8 + f)) (wt (gRec (fbR some0 ρ f) 90)) (wt (gRec (fbR some0 ρ f) (8 + f))))) 93)
    else fbR some0 ρ f
theorem fbR_other {s : Int32} {ρ : Nat → Int32} {q k : Nat} (hk : k < 307) (h1 : q ≠ 90) (h2 : q ≠ 93) : ∀ f, gRec (fbR s ρ f) q k = gRec ρ q k := by
  intro f
  induction f with
  | zero => exact gRec_pRec_ne hk h1
  | succ f ih =>
    unfold fbR
    split
    · rw [gRec_pRec_ne hk h1, gRec_pRec_ne hk h2, ih]
    · exact ih
theorem fbR_w {s : Int32} {ρ : Nat → Int32} {nf : Nat} (hw : ∀ f, f < nf → ∃ a, a ≤ 16 ∧ gRec ρ (8 + f) 0 = nI a) (hnf : nf ≤ 2) : ∀ f, f ≤ nf → ∃ a, a ≤ 16 * f ∧ gRec (fbR s ρ f) 90 0 = nI a := by
  intro f
  induction f with
  | zero => intro _; exact ⟨0, by omega, by rw [fbR, gRec_pRec (by omega)]; rfl⟩
  | succ f ih =>
    intro hf
    obtain ⟨a, ha1, ha2⟩ := ih (by omega)
    obtain ⟨b, hb1, hb2⟩ := hw f (by omega)
    have hb3 : gRec (fbR s ρ f) (8 + f) 0 = nI b := by rw [fbR_other (by omega) (by omega) (by omega), hb2]
    unfold fbR
    split
    · refine ⟨a + b, by omega, ?_⟩
      rw [gRec_pRec (by omega), gRec_pRec (by omega), rSum_0, wt_of ha2 (by omega), wt_of hb3 (by omega)]
    · exact ⟨a, by omega, ha2⟩
section M8
variable {w : gD} {m : Nat} {h : HS}
theorem r_copies (hm : mSh m h) {ρ : Nat → Int32} {r t : Nat} (hr : r < 102) (ht : t < 102) (hrt : r ≠ t) : EvF w 0 0 0 yX10_copies cX10_copies 4 none [.ref m, .int (nI r), .int (nI t)] (sF h (m + 1) ρ) none (sF h (m + 1) (pRec ρ t (gRec ρ r))) := by
  have e := e_m_copies (w := w) (h := sF h (m + 1) ρ) hm hr ht hrt
  rw [hI_sF_eq, sF_sF] at e
  exact e
theorem r_plain (hm : mSh m h) {ρ : Nat → Int32} {t : Nat} (ht : t < 102) (e : Int32) : EvF w 1 0 0 yX10_plain cX10_plain 4 none [.ref m, .int (nI t), .int e] (sF h (m + 1) ρ) none (sF h (m + 1) (pRec ρ t (rPlain e))) := by
  have e := e_m_plain (w := w) (h := sF h (m + 1) ρ) hm ht e
  rw [hI_sF_eq, sF_sF] at e
  exact e
theorem r_ofAct (hm : mSh m h) {ρ : Nat → Int32} {t : Nat} (ht : t < 102) (act all : Int32) : EvF w 2 0 0 yX10_ofAct cX10_ofAct 4 none [.ref m, .int (nI t), .int act, .int all] (sF h (m + 1) ρ) none (sF h (m + 1) (pRec ρ t (rAct act all))) := by
  have e := e_m_ofAct (w := w) (h := sF h (m + 1) ρ) hm ht act all
  rw [hI_sF_eq, sF_sF] at e
  exact e
theorem r_sums (hm : mSh m h) {ρ : Nat → Int32} {x y t a b : Nat} (hx : x < 102) (hy : y < 102) (ht : t < 102) (hxt : x ≠ t) (hyt : y ≠ t) (ha : gRec ρ x 0 = nI a) (hb : gRec ρ y 0 = nI b) (hab : a + b < 10000) :
    EvF w 3 0 0 yX10_sums cX10_sums 4 none [.ref m, .int (nI x), .int (nI y), .int (nI t)] (sF h (m + 1) ρ) none (sF h (m + 1) (pRec ρ t (rSum (gRec ρ x) (gRec ρ y) a b))) := by
  have e := e_m_sums (w := w) (h := sF h (m + 1) ρ) hm hx hy ht hxt hyt (by rw [hI_sF_eq]; exact ha) (by rw [hI_sF_eq]; exact hb) hab
  rw [hI_sF_eq, sF_sF] at e
  exact e
theorem r_joins (hm : mSh m h) {ρ : Nat → Int32} {x y t a b : Nat} (hx : x < 102) (hy : y < 102) (ht : t < 102) (hxt : x ≠ t) (hyt : y ≠ t) (ha : gRec ρ x 0 = nI a) (hb : gRec ρ y 0 = nI b) (hab : a + b < 10000) :
    EvF w 3 0 0 yX10_joins cX10_joins 7 none [.ref m, .int (nI x), .int (nI y), .int (nI t)] (sF h (m + 1) ρ) none (sF h (m + 1) (pRec ρ t (rJoin (gRec ρ x) (gRec ρ y) a b))) := by
  have e := e_m_joins (w := w) (h := sF h (m + 1) ρ) hm hx hy ht hxt hyt (by rw [hI_sF_eq]; exact ha) (by rw [hI_sF_eq]; exact hb) hab
  rw [hI_sF_eq, sF_sF] at e
  exact e
theorem r_stars (hm : mSh m h) {ρ : Nat → Int32} {t a : Nat} (ht : t < 102) (ha : gRec ρ t 0 = nI a) (hab : a < 10000) (all : Int32) :
    EvF w 2 0 0 yX10_stars cX10_stars 5 none [.ref m, .int (nI t), .int all] (sF h (m + 1) ρ) none (sF h (m + 1) (pRec ρ t (rStar (gRec ρ t) a all))) := by
  have e := e_m_stars (w := w) (h := h) (ρ := ρ) hm ht ha hab all
  rw [pRec_self] at e
  exact e
theorem r_begins (hm : mSh m h) {ρ : Nat → Int32} {t a : Nat} (ht : t < 102) (ha : gRec ρ t 0 = nI a) (hab : a < 10000) (e : Int32) :
    EvF w 2 0 0 yX10_begins cX10_begins 4 none [.ref m, .int (nI t), .int e] (sF h (m + 1) ρ) none (sF h (m + 1) (pRec ρ t (rBegins (gRec ρ t) a e))) := by
  have e := e_m_begins (w := w) (h := h) (ρ := ρ) hm ht ha hab e
  rw [pRec_self] at e
  exact e
theorem r_whiles (hm : mSh m h) {ρ : Nat → Int32} {t a : Nat} (ht : t < 102) (ha : gRec ρ t 0 = nI a) (hab : a < 10000) (e all : Int32) :
    EvF w 3 0 0 yX10_whiles cX10_whiles 4 none [.ref m, .int (nI t), .int e, .int all] (sF h (m + 1) ρ) none (sF h (m + 1) (pRec ρ t (rFinish (rStar (rBegins (gRec ρ t) a e) a all) a (all &&& (e ^^^ -1))))) := by
  have e := e_m_whiles (w := w) (h := h) (ρ := ρ) hm ht ha hab e all
  rw [pRec_self] at e
  exact e
theorem e_m_laysForbidden (hm : mSh m h) {nf : Nat} (hnf : nf ≤ 2) (hf : hI h m 5 = nI nf) (hw : ∀ f, f < nf → ∃ a, a ≤ 16 ∧ gRec (hI h (m + 1)) (8 + f) 0 = nI a) (some0 : Int32) :
    EvF w 4 0 0 yX10_laysForbidden cX10_laysForbidden 3 none [.ref m, .int some0] h none (sF h (m + 1) (fbR some0 (hI h (m + 1)) nf)) := by
  refine g_start (by decide) (Nat.le_of_ble_eq_true rfl) [(0, _), (1, _)] rfl (fun z hfl C => ?_)
  generalize hρ : hI h (m + 1) = ρ at *
  have hf5 : ∀ ρ', hI (sF h (m + 1) ρ') m 5 = nI nf := fun ρ' => by rw [hI_sF, if_neg (by omega), hf]
  have key : ∀ n f, f + n = nf → GW z w 3 (gQ z w 0 0 (fun r' h'' => r' = none ∧ h'' = sF h (m + 1) (fbR some0 ρ nf))) 0 0 9 [(0, .ref m), (1, .int some0), (2, .int (nI f))] [] (sF h (m + 1) (fbR some0 ρ f)) := by
    intro n
    induction n with
    | zero =>
      intro f hfn
      refine g_iload_n C (gd DX10_laysForbidden_0 6 rfl) 2 rfl rfl ?_
      refine g_aload_n C (gd DX10_laysForbidden_0 7 rfl) 0 rfl rfl ?_
      refine g_geti (ci := 10) (k := 5) C rfl (by decide) rfl lf_TestJudgeModel_120 hm.1 (gd DX10_laysForbidden_0 8 rfl) ?_
      rw [hf5]
      refine g_icmp_ge C 54 (gd DX10_laysForbidden_0 9 rfl) (by decide) (fun c14 => ?_) (fun c14 => ?_)
      · exact g_vret C (by omega) (by omega) ⟨rfl, by rw [show f = nf by omega]⟩ (gd DX10_laysForbidden_0 28 rfl)
      · exact absurd (nI_le (by omega) (by omega)) c14
    | succ n ih =>
      intro f hfn
      refine g_iload_n C (gd DX10_laysForbidden_0 6 rfl) 2 rfl rfl ?_
      refine g_aload_n C (gd DX10_laysForbidden_0 7 rfl) 0 rfl rfl ?_
      refine g_geti (ci := 10) (k := 5) C rfl (by decide) rfl lf_TestJudgeModel_120 hm.1 (gd DX10_laysForbidden_0 8 rfl) ?_
      rw [hf5]
      refine g_icmp_ge C 54 (gd DX10_laysForbidden_0 9 rfl) (by decide) (fun c14 => ?_) (fun c14 => ?_)
      · exact absurd c14 (nI_ge (by omega) (by omega))
      · refine g_iload_n C (gd DX10_laysForbidden_0 10 rfl) 1 rfl rfl ?_
        refine g_iload_n C (gd DX10_laysForbidden_0 11 rfl) 2 rfl rfl ?_
        refine g_cS1 C [_, _] mX10_has lm_TestJudgeModel_144 (e_m_has _ _) hfl (by decide) (by decide) (by omega) (by omega) rfl rfl (Nat.le_of_ble_eq_true rfl) (gd DX10_laysForbidden_0 12 rfl) ?_
        by_cases hb : some0 >>> (nI f &&& 31) &&& 1 = 1
        · rw [b1_t hb]
          refine g_if_ne C 28 (gd DX10_laysForbidden_0 13 rfl) (by decide) (fun c22 => ?_) (fun c22 => ?_)
          · obtain ⟨a, ha1, ha2⟩ := fbR_w (s := some0) hw hnf f (by omega)
            obtain ⟨b, hb1, hb2⟩ := hw f (by omega)
            have hb3 : gRec (fbR some0 ρ f) (8 + f) 0 = nI b := by rw [fbR_other (by omega) (by omega) (by omega), hb2]
            refine g_aload_n C (gd DX10_laysForbidden_0 15 rfl) 0 rfl rfl ?_
            refine g_bipush (v := 90) C (gd DX10_laysForbidden_0 16 rfl) (by decide) ?_
            refine g_bipush (v := 8) C (gd DX10_laysForbidden_0 17 rfl) (by decide) ?_
            refine g_iload_n C (gd DX10_laysForbidden_0 18 rfl) 2 rfl rfl ?_
            refine g_iadd C (gd DX10_laysForbidden_0 19 rfl) ?_
            refine g_bipush (v := 93) C (gd DX10_laysForbidden_0 20 rfl) (by decide) ?_
            rw [show (8 : Int32) + nI f = nI (8 + f) from nI_add 8 f]
            refine g_cV0 (v := .null) (ci := 10) C [_, _, _] mX10_sums lm_TestJudgeModel_243 (by exact hm.1) rfl rfl (r_sums hm (x := 90) (y := 8 + f) (t := 93) (by omega) (by omega) (by omega) (by omega) (by omega) ha2 hb3 (by omega)) hfl (by decide) (by decide) (by omega) (by omega) rfl rfl (Nat.le_of_ble_eq_true rfl) (gd DX10_laysForbidden_0 21 rfl) ?_
            refine g_aload_n C (gd DX10_laysForbidden_0 22 rfl) 0 rfl rfl ?_
            refine g_bipush (v := 93) C (gd DX10_laysForbidden_0 23 rfl) (by decide) ?_
            refine g_bipush (v := 90) C (gd DX10_laysForbidden_0 24 rfl) (by decide) ?_
            refine g_cV0 (v := .null) (ci := 10) C [_, _] mX10_copies lm_TestJudgeModel_246 (by exact hm.1) rfl rfl (r_copies hm (r := 93) (t := 90) (by omega) (by omega) (by omega)) hfl (by decide) (by decide) (by omega) (by omega) rfl rfl (Nat.le_of_ble_eq_true rfl) (gd DX10_laysForbidden_0 25 rfl) ?_
            refine g_iinc (lv' := [(0, _), (1, _), (2, _)]) C (gd DX10_laysForbidden_0 26 rfl) 2 [1, 2, 0] rfl rfl (by decide) rfl ?_
            refine g_goto (tgt := 9) C (gd DX10_laysForbidden_0 27 rfl) (by decide) ?_
            exact GW.cast (by rw [inc1]) rfl (by rw [fbR, if_pos hb, wt_of ha2 (by omega), wt_of hb3 (by omega)]) (ih (f + 1) (by omega))
          · exact absurd c22 (by decide)
        · rw [b1_f hb]
          refine g_if_ne C 28 (gd DX10_laysForbidden_0 13 rfl) (by decide) (fun c22 => ?_) (fun c22 => ?_)
          · exact absurd rfl c22
          · refine g_goto (tgt := 48) C (gd DX10_laysForbidden_0 14 rfl) (by decide) ?_
            refine g_iinc (lv' := [(0, _), (1, _), (2, _)]) C (gd DX10_laysForbidden_0 26 rfl) 2 [1, 2, 0] rfl rfl (by decide) rfl ?_
            refine g_goto (tgt := 9) C (gd DX10_laysForbidden_0 27 rfl) (by decide) ?_
            exact GW.cast (by rw [inc1]) rfl (by rw [fbR, if_neg hb]) (ih (f + 1) (by omega))
  refine g_aload_n C (gd DX10_laysForbidden_0 0 rfl) 0 rfl rfl ?_
  refine g_bipush (v := 90) C (gd DX10_laysForbidden_0 1 rfl) (by decide) ?_
  refine g_iconst (v := 0) C (gd DX10_laysForbidden_0 2 rfl) (by decide) ?_
  refine g_cV0 (v := .null) (ci := 10) C [_, _] mX10_plain lm_TestJudgeModel_127 (by exact hm.1) rfl rfl (e_m_plain hm (t := 90) (by omega) _) hfl (by decide) (by decide) (by omega) (by omega) rfl rfl (Nat.le_of_ble_eq_true rfl) (gd DX10_laysForbidden_0 3 rfl) ?_
  rw [hρ]
  refine g_iconst (v := 0) C (gd DX10_laysForbidden_0 4 rfl) (by decide) ?_
  refine g_istore_n (lv' := [(0, _), (1, _), (2, _)]) C (gd DX10_laysForbidden_0 5 rfl) [1, 2, 0] rfl (by decide) rfl ?_
  exact key nf 0 (by omega)
end M8
