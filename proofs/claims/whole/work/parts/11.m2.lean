/-! The reference's records: each 307 ints of its row 'rec' -/
theorem GW.cast {z : gZ} {w : gD} {n : Nat} {Q : State → Prop} {cn sn pc : Nat} {lv lv' : List (Nat × Value)} {st st' : List Value} {h h' : HS} (e1 : lv = lv') (e2 : st = st') (e3 : h = h') (k : GW z w n Q cn sn pc lv' st' h') : GW z w n Q cn sn pc lv st h := by subst e1; subst e2; subst e3; exact k
theorem inc1 (k : Nat) : nI k + Int32.ofInt 1 = nI (k + 1) := nI_1 k
theorem nI_lit (k : Nat) : (OfNat.ofNat k : Int32) = nI k := rfl
/-- record r of a row -/
def gRec (ρ : Nat → Int32) (r : Nat) : Nat → Int32 := fun k => ρ (307 * r + k)
/-- the row with another record r -/
def pRec (ρ : Nat → Int32) (r : Nat) (R : Nat → Int32) : Nat → Int32 := fun j => if 307 * r ≤ j ∧ j < 307 * r + 307 then R (j - 307 * r) else ρ j
theorem gRec_pRec {ρ : Nat → Int32} {r : Nat} {R : Nat → Int32} {k : Nat} (hk : k < 307) : gRec (pRec ρ r R) r k = R k := by
  unfold gRec pRec
  rw [if_pos (by omega)]
  congr 1
  omega
theorem gRec_pRec_ne {ρ : Nat → Int32} {r q : Nat} {R : Nat → Int32} {k : Nat} (hk : k < 307) (hq : q ≠ r) : gRec (pRec ρ r R) q k = gRec ρ q k := by
  unfold gRec pRec
  rw [if_neg (by omega)]
theorem pRec_pRec (ρ : Nat → Int32) (r : Nat) (R R' : Nat → Int32) : pRec (pRec ρ r R) r R' = pRec ρ r R' := by
  funext j
  unfold pRec
  split <;> rfl
theorem pRec_ext {ρ : Nat → Int32} {r : Nat} {R R' : Nat → Int32} (e : ∀ k, k < 307 → R k = R' k) : pRec ρ r R = pRec ρ r R' := by
  funext j
  unfold pRec
  split
  · exact e _ (by omega)
  · rfl
theorem pRec_self (ρ : Nat → Int32) (r : Nat) : pRec ρ r (gRec ρ r) = ρ := by
  funext j
  unfold pRec gRec
  split
  · congr 1; omega
  · rfl
theorem upd_pRec {ρ : Nat → Int32} {r : Nat} {R : Nat → Int32} {k : Nat} {v : Int32} (hk : k < 307) : upd (pRec ρ r R) (307 * r + k) v = pRec ρ r (upd R k v) := by
  funext j
  unfold upd pRec
  by_cases e : j = 307 * r + k
  · subst e
    rw [if_pos rfl, if_pos (by omega)]
    dsimp only
    rw [if_pos (by omega)]
  · rw [if_neg e]
    by_cases e2 : 307 * r ≤ j ∧ j < 307 * r + 307
    · rw [if_pos e2, if_pos e2]
      dsimp only
      rw [if_neg (by omega)]
    · rw [if_neg e2, if_neg e2]
/-- as far as k one, then another -/
def preF (f g : Nat → Int32) (k : Nat) : Nat → Int32 := fun j => if j < k then f j else g j
theorem preF_lt {f g : Nat → Int32} {k j : Nat} (h : j < k) : preF f g k j = f j := if_pos h
theorem preF_ge {f g : Nat → Int32} {k j : Nat} (h : k ≤ j) : preF f g k j = g j := if_neg (by omega)
theorem preF_0 (f g : Nat → Int32) : preF f g 0 = g := by funext j; exact preF_ge (Nat.zero_le j)
theorem preF_s (f g : Nat → Int32) (k : Nat) : upd (preF f g k) k (f k) = preF f g (k + 1) := by
  funext j
  unfold upd
  by_cases e : j = k
  · subst e; rw [if_pos rfl, preF_lt (by omega)]
  · rw [if_neg e]
    by_cases e2 : j < k
    · rw [preF_lt e2, preF_lt (by omega)]
    · rw [preF_ge (by omega), preF_ge (by omega)]
theorem upd_rec {ρ : Nat → Int32} {r k : Nat} {v : Int32} (hk : k < 307) : upd ρ (307 * r + k) v = pRec ρ r (upd (gRec ρ r) k v) := by
  rw [← upd_pRec hk, pRec_self]
theorem r_ix (r k : Nat) : (307 : Int32) * nI r + nI k = nI (307 * r + k) := by
  rw [show (307 : Int32) = nI 307 from rfl, pk_mul, nI_add]
section M2
variable {w : gD} {m : Nat} {h : HS}
theorem e_m_copies (hm : mSh m h) {r t : Nat} (hr : r < 102) (ht : t < 102) (hrt : r ≠ t) : EvF w 0 0 0 yX10_copies cX10_copies 4 none [.ref m, .int (nI r), .int (nI t)] h none (sF h (m + 1) (pRec (hI h (m + 1)) t (gRec (hI h (m + 1)) r))) := by
  refine g_start (by decide) (Nat.le_of_ble_eq_true rfl) [(0, _), (1, _), (2, _)] rfl (fun z hfl C => ?_)
  have key : ∀ n k, k + n = 307 → GW z w 4 (gQ z w 0 0 (fun r' h'' => r' = none ∧ h'' = sF h (m + 1) (pRec (hI h (m + 1)) t (gRec (hI h (m + 1)) r)))) 0 0 2 [(0, .ref m), (1, .int (nI r)), (2, .int (nI t)), (3, .int (nI k))] [] (sF h (m + 1) (pRec (hI h (m + 1)) t (preF (gRec (hI h (m + 1)) r) (gRec (hI h (m + 1)) t) k))) := by
    intro n
    induction n with
    | zero =>
      intro k hk
      refine g_iload_n C (gd DX10_copies_0 2 rfl) 3 rfl rfl ?_
      refine g_sipush (v := 307) C (gd DX10_copies_0 3 rfl) (by decide) ?_
      refine g_icmp_ge C 39 (gd DX10_copies_0 4 rfl) (by decide) (fun c6 => ?_) (fun c6 => ?_)
      · exact g_vret C (by omega) (by omega) ⟨rfl, by rw [pRec_ext (R' := gRec (hI h (m + 1)) r) (fun j hj => preF_lt (by omega))]⟩ (gd DX10_copies_0 23 rfl)
      · exact absurd (nI_le (a := 307) (b := k) (by omega) (by omega)) c6
    | succ n ih =>
      intro k hk
      refine g_iload_n C (gd DX10_copies_0 2 rfl) 3 rfl rfl ?_
      refine g_sipush (v := 307) C (gd DX10_copies_0 3 rfl) (by decide) ?_
      refine g_icmp_ge C 39 (gd DX10_copies_0 4 rfl) (by decide) (fun c6 => ?_) (fun c6 => ?_)
      · exact absurd c6 (nI_ge (a := k) (b := 307) (by omega) (by omega))
      · refine g_aload_n C (gd DX10_copies_0 5 rfl) 0 rfl rfl ?_
        refine g_getr (ci := 10) (k := 0) C rfl (by decide) rfl lf_TestJudgeModel_7 hm.1 (hm.2 0 1 12 31314 rfl).1 (gd DX10_copies_0 6 rfl) ?_
        refine g_sipush (v := 307) C (gd DX10_copies_0 7 rfl) (by decide) ?_
        refine g_iload_n C (gd DX10_copies_0 8 rfl) 2 rfl rfl ?_
        refine g_imul C (gd DX10_copies_0 9 rfl) ?_
        refine g_iload_n C (gd DX10_copies_0 10 rfl) 3 rfl rfl ?_
        refine g_iadd C (gd DX10_copies_0 11 rfl) ?_
        refine g_aload_n C (gd DX10_copies_0 12 rfl) 0 rfl rfl ?_
        refine g_getr (ci := 10) (k := 0) C rfl (by decide) rfl lf_TestJudgeModel_7 hm.1 (hm.2 0 1 12 31314 rfl).1 (gd DX10_copies_0 13 rfl) ?_
        refine g_sipush (v := 307) C (gd DX10_copies_0 14 rfl) (by decide) ?_
        refine g_iload_n C (gd DX10_copies_0 15 rfl) 1 rfl rfl ?_
        refine g_imul C (gd DX10_copies_0 16 rfl) ?_
        refine g_iload_n C (gd DX10_copies_0 17 rfl) 3 rfl rfl ?_
        refine g_iadd C (gd DX10_copies_0 18 rfl) ?_
        refine g_iaj C (hm.2 0 1 12 31314 rfl).2.1 (hm.2 0 1 12 31314 rfl).2.2 (by decide) (r_ix r k) (by omega) (gd DX10_copies_0 19 rfl) ?_
        refine g_isj C (hm.2 0 1 12 31314 rfl).2.1 (hm.2 0 1 12 31314 rfl).2.2 (by decide) (r_ix t k) (by omega) (gd DX10_copies_0 20 rfl) ?_
        refine g_iinc (lv' := [(0, _), (1, _), (2, _), (3, _)]) C (gd DX10_copies_0 21 rfl) 3 [1, 2, 3, 0] rfl rfl (by decide) rfl ?_
        refine g_goto (tgt := 2) C (gd DX10_copies_0 22 rfl) (by decide) ?_
        refine GW.cast (by rw [inc1]) rfl ?_ (ih (k + 1) (by omega))
        rw [sI_sF, hI_sF_eq, sF_sF, upd_pRec (by omega)]
        have e : pRec (hI h (m + 1)) t (preF (gRec (hI h (m + 1)) r) (gRec (hI h (m + 1)) t) k) (307 * r + k) = gRec (hI h (m + 1)) r k := gRec_pRec_ne (q := r) (r := t) (by omega) hrt
        rw [e, preF_s]
  refine g_iconst (v := 0) C (gd DX10_copies_0 0 rfl) (by decide) ?_
  refine g_istore_n (lv' := [(0, _), (1, _), (2, _), (3, _)]) C (gd DX10_copies_0 1 rfl) [1, 2, 3, 0] rfl (by decide) rfl ?_
  refine GW.cast rfl rfl ?_ (key 307 0 rfl)
  rw [preF_0, pRec_self, sF_self]
/-- a record of a plain one -/
def rPlain (e : Int32) : Nat → Int32 := upd (fun _ => 0) 1 e
theorem e_m_plain (hm : mSh m h) {t : Nat} (ht : t < 102) (e : Int32) : EvF w 1 0 0 yX10_plain cX10_plain 4 none [.ref m, .int (nI t), .int e] h none (sF h (m + 1) (pRec (hI h (m + 1)) t (rPlain e))) := by
  refine g_start (by decide) (Nat.le_of_ble_eq_true rfl) [(0, _), (1, _), (2, _)] rfl (fun z hfl C => ?_)
  have key : ∀ n k, k + n = 307 → GW z w 4 (gQ z w 0 0 (fun r' h'' => r' = none ∧ h'' = sF h (m + 1) (pRec (hI h (m + 1)) t (rPlain e)))) 0 0 2 [(0, .ref m), (1, .int (nI t)), (2, .int e), (3, .int (nI k))] [] (sF h (m + 1) (pRec (hI h (m + 1)) t (preF (fun _ => 0) (gRec (hI h (m + 1)) t) k))) := by
    intro n
    induction n with
    | zero =>
      intro k hk
      refine g_iload_n C (gd DX10_plain_0 2 rfl) 3 rfl rfl ?_
      refine g_sipush (v := 307) C (gd DX10_plain_0 3 rfl) (by decide) ?_
      refine g_icmp_ge C 28 (gd DX10_plain_0 4 rfl) (by decide) (fun c6 => ?_) (fun c6 => ?_)
      · refine g_aload_n C (gd DX10_plain_0 16 rfl) 0 rfl rfl ?_
        refine g_iload_n C (gd DX10_plain_0 17 rfl) 1 rfl rfl ?_
        refine g_iconst (v := 1) C (gd DX10_plain_0 18 rfl) (by decide) ?_
        refine g_iload_n C (gd DX10_plain_0 19 rfl) 2 rfl rfl ?_
        refine g_cV0 (v := .null) (ci := 10) C [_, _, _] mX10_puts lm_TestJudgeModel_123 (by exact hm.1) rfl rfl (e_m_puts (by exact hm) (r_ix t 1) (by omega)) hfl (by decide) (by decide) (by omega) (by omega) rfl rfl (Nat.le_of_ble_eq_true rfl) (gd DX10_plain_0 20 rfl) ?_
        exact g_vret C (by omega) (by omega) ⟨rfl, by rw [sI_sF, hI_sF_eq, sF_sF, pRec_ext (R' := fun _ => 0) (fun j hj => preF_lt (by omega)), upd_pRec (by omega)]; rfl⟩ (gd DX10_plain_0 21 rfl)
      · exact absurd (nI_le (a := 307) (b := k) (by omega) (by omega)) c6
    | succ n ih =>
      intro k hk
      refine g_iload_n C (gd DX10_plain_0 2 rfl) 3 rfl rfl ?_
      refine g_sipush (v := 307) C (gd DX10_plain_0 3 rfl) (by decide) ?_
      refine g_icmp_ge C 28 (gd DX10_plain_0 4 rfl) (by decide) (fun c6 => ?_) (fun c6 => ?_)
      · exact absurd c6 (nI_ge (a := k) (b := 307) (by omega) (by omega))
      · refine g_aload_n C (gd DX10_plain_0 5 rfl) 0 rfl rfl ?_
        refine g_getr (ci := 10) (k := 0) C rfl (by decide) rfl lf_TestJudgeModel_7 hm.1 (hm.2 0 1 12 31314 rfl).1 (gd DX10_plain_0 6 rfl) ?_
        refine g_sipush (v := 307) C (gd DX10_plain_0 7 rfl) (by decide) ?_
        refine g_iload_n C (gd DX10_plain_0 8 rfl) 1 rfl rfl ?_
        refine g_imul C (gd DX10_plain_0 9 rfl) ?_
        refine g_iload_n C (gd DX10_plain_0 10 rfl) 3 rfl rfl ?_
        refine g_iadd C (gd DX10_plain_0 11 rfl) ?_
        refine g_iconst (v := 0) C (gd DX10_plain_0 12 rfl) (by decide) ?_
        refine g_isj C (hm.2 0 1 12 31314 rfl).2.1 (hm.2 0 1 12 31314 rfl).2.2 (by decide) (r_ix t k) (by omega) (gd DX10_plain_0 13 rfl) ?_
        refine g_iinc (lv' := [(0, _), (1, _), (2, _), (3, _)]) C (gd DX10_plain_0 14 rfl) 3 [1, 2, 3, 0] rfl rfl (by decide) rfl ?_
        refine g_goto (tgt := 2) C (gd DX10_plain_0 15 rfl) (by decide) ?_
        refine GW.cast (by rw [inc1]) rfl ?_ (ih (k + 1) (by omega))
        rw [sI_sF, hI_sF_eq, sF_sF, upd_pRec (by omega), ← preF_s]
  refine g_iconst (v := 0) C (gd DX10_plain_0 0 rfl) (by decide) ?_
  refine g_istore_n (lv' := [(0, _), (1, _), (2, _), (3, _)]) C (gd DX10_plain_0 1 rfl) [1, 2, 3, 0] rfl (by decide) rfl ?_
  refine GW.cast rfl rfl ?_ (key 307 0 rfl)
  rw [preF_0, pRec_self, sF_self]
end M2
