/-! beside, sums -/
def rSel (X Y : Nat → Int32) (a o p : Nat) : Int32 := if p < a then X (o + p) else Y (o + (p - a))
def rBet (X Y : Nat → Int32) (a b p q : Nat) : Int32 := if p < a then (if q < a then X (50 + 16 * p + q) else 0) else (if a ≤ q ∧ q < a + b then Y (50 + 16 * (p - a) + (q - a)) else 0)
/-- the record of both side by side, as far as place P -/
def besF (X Y : Nat → Int32) (a b P : Nat) : Nat → Int32 := fun k =>
  if k = 0 then nI (a + b) else if k < 2 then 0
  else if k < 18 then (if k - 2 < P then rSel X Y a 2 (k - 2) else 0)
  else if k < 34 then (if k - 18 < P then rSel X Y a 18 (k - 18) else 0)
  else if k < 50 then (if k - 34 < P then rSel X Y a 34 (k - 34) else 0)
  else if k < 306 then (if (k - 50) / 16 < P then rBet X Y a b ((k - 50) / 16) ((k - 50) % 16) else 0)
  else 0
def rBes (X Y : Nat → Int32) (a b : Nat) : Nat → Int32 := if a + b ≤ 16 then besF X Y a b (a + b) else upd (rPlain 0) 0 (nI (a + b))
theorem besF_0 (X Y : Nat → Int32) (a b k : Nat) : upd (rPlain 0) 0 (nI (a + b)) k = besF X Y a b 0 k := by
  unfold upd rPlain besF upd
  by_cases e : k = 0
  · simp [e]
  · simp [e]
theorem besF_s {X Y R R2 : Nat → Int32} {a b p : Nat} (hp : p < 16) (hR : ∀ k, k < 307 → R k = besF X Y a b p k)
    (h2 : ∀ k, k < 307 → R2 k = if k = 2 + p then rSel X Y a 2 p else if k = 18 + p then rSel X Y a 18 p else if k = 34 + p then rSel X Y a 34 p else if 50 + 16 * p ≤ k ∧ k < 50 + 16 * p + 16 then rBet X Y a b p (k - (50 + 16 * p)) else R k) : ∀ k, k < 307 → R2 k = besF X Y a b (p + 1) k := by
  intro k hk
  rw [h2 k hk]
  by_cases e1 : k = 2 + p
  · rw [if_pos e1, besF, if_neg (by omega), if_neg (by omega), if_pos (by omega), if_pos (by omega), show k - 2 = p by omega]
  rw [if_neg e1]
  by_cases e2 : k = 18 + p
  · rw [if_pos e2, besF, if_neg (by omega), if_neg (by omega), if_neg (by omega), if_pos (by omega), if_pos (by omega), show k - 18 = p by omega]
  rw [if_neg e2]
  by_cases e3 : k = 34 + p
  · rw [if_pos e3, besF, if_neg (by omega), if_neg (by omega), if_neg (by omega), if_neg (by omega), if_pos (by omega), if_pos (by omega), show k - 34 = p by omega]
  rw [if_neg e3]
  by_cases e4 : 50 + 16 * p ≤ k ∧ k < 50 + 16 * p + 16
  · rw [if_pos e4, besF, if_neg (by omega), if_neg (by omega), if_neg (by omega), if_neg (by omega), if_neg (by omega), if_pos (by omega), if_pos (by omega), show (k - 50) / 16 = p by omega, show (k - 50) % 16 = k - (50 + 16 * p) by omega]
  rw [if_neg e4, hR k hk]
  unfold besF
  by_cases f0 : k = 0
  · rw [if_pos f0, if_pos f0]
  rw [if_neg f0, if_neg f0]
  by_cases f1 : k < 2
  · rw [if_pos f1, if_pos f1]
  rw [if_neg f1, if_neg f1]
  by_cases f2 : k < 18
  · rw [if_pos f2, if_pos f2]
    by_cases g : k - 2 < p
    · rw [if_pos g, if_pos (by omega)]
    · rw [if_neg g, if_neg (by omega)]
  rw [if_neg f2, if_neg f2]
  by_cases f3 : k < 34
  · rw [if_pos f3, if_pos f3]
    by_cases g : k - 18 < p
    · rw [if_pos g, if_pos (by omega)]
    · rw [if_neg g, if_neg (by omega)]
  rw [if_neg f3, if_neg f3]
  by_cases f4 : k < 50
  · rw [if_pos f4, if_pos f4]
    by_cases g : k - 34 < p
    · rw [if_pos g, if_pos (by omega)]
    · rw [if_neg g, if_neg (by omega)]
  rw [if_neg f4, if_neg f4]
  by_cases f5 : k < 306
  · rw [if_pos f5, if_pos f5]
    by_cases g : (k - 50) / 16 < p
    · rw [if_pos g, if_pos (by omega)]
    · rw [if_neg g, if_neg (by omega)]
  · rw [if_neg f5, if_neg f5]
section M4
variable {w : gD} {m : Nat} {h : HS}
theorem e_m_beside (hm : mSh m h) {x y t a b : Nat} (hx : x < 102) (hy : y < 102) (ht : t < 102) (hxt : x ≠ t) (hyt : y ≠ t) (ha : gRec (hI h (m + 1)) x 0 = nI a) (hb : gRec (hI h (m + 1)) y 0 = nI b) (hab : a + b < 10000) :
    EvF w 2 0 0 yX10_beside cX10_beside 9 (some .boolean) [.ref m, .int (nI x), .int (nI y), .int (nI t)] h (some (.int (b1 (a + b ≤ 16)))) (sF h (m + 1) (pRec (hI h (m + 1)) t (rBes (gRec (hI h (m + 1)) x) (gRec (hI h (m + 1)) y) a b))) := by
  refine g_start (by decide) (Nat.le_of_ble_eq_true rfl) [(0, _), (1, _), (2, _), (3, _)] rfl (fun z hfl C => ?_)
  generalize hX : gRec (hI h (m + 1)) x = X at *
  generalize hY : gRec (hI h (m + 1)) y = Y at *
  generalize hρ : hI h (m + 1) = ρ at *
  -- the outer loop
  have outer : a + b ≤ 16 → ∀ n p R, p + n = a + b → (∀ k, k < 307 → R k = besF X Y a b p k) → GW z w 9 (gQ z w 0 0 (fun r' h'' => r' = some (.int (b1 (a + b ≤ 16))) ∧ h'' = sF h (m + 1) (pRec ρ t (rBes X Y a b)))) 0 0 42 [(0, .ref m), (1, .int (nI x)), (2, .int (nI y)), (3, .int (nI t)), (4, .int (nI a)), (5, .int (nI p))] [] (sF h (m + 1) (pRec ρ t R)) := by
    intro hle n
    induction n with
    | zero =>
      intro p R hp hR
      have hR0 : R 0 = nI (a + b) := hR 0 (by omega)
      refine g_iload C (gd DX10_beside_0 27 rfl) 5 rfl ?_
      refine g_aload_n C (gd DX10_beside_0 28 rfl) 0 rfl rfl ?_
      refine g_iload_n C (gd DX10_beside_0 29 rfl) 3 rfl rfl ?_
      refine g_iconst (v := 0) C (gd DX10_beside_0 30 rfl) (by decide) ?_
      refine g_cV1 (ci := 10) C [_, _] mX10_at lm_TestJudgeModel_131 (by exact hm.1) rfl rfl (e_atT (k := 0) hm (by omega) (by omega) rfl rfl) hfl (by decide) (by decide) (by omega) (by omega) rfl rfl (Nat.le_of_ble_eq_true rfl) (gd DX10_beside_0 31 rfl) ?_
      refine g_icmp_ge C 222 (gd DX10_beside_0 32 rfl) (by decide) (fun c50 => ?_) (fun c50 => ?_)
      · refine g_iconst (v := 1) C (gd DX10_beside_2 2 rfl) (by decide) ?_
        exact g_zret C (by decide) (by omega) (by omega) ⟨by rw [b1_t hle], by rw [rBes, if_pos hle, pRec_ext (fun k hk => hR k hk), show p = a + b by omega]⟩ (gd DX10_beside_2 3 rfl)
      · rw [hR0] at c50
        exact absurd (nI_le (by omega) (by omega)) c50
    | succ n ih =>
      intro p R hp hR
      have hR0 : R 0 = nI (a + b) := hR 0 (by omega)
      refine g_iload C (gd DX10_beside_0 27 rfl) 5 rfl ?_
      refine g_aload_n C (gd DX10_beside_0 28 rfl) 0 rfl rfl ?_
      refine g_iload_n C (gd DX10_beside_0 29 rfl) 3 rfl rfl ?_
      refine g_iconst (v := 0) C (gd DX10_beside_0 30 rfl) (by decide) ?_
      refine g_cV1 (ci := 10) C [_, _] mX10_at lm_TestJudgeModel_131 (by exact hm.1) rfl rfl (e_atT (k := 0) hm (by omega) (by omega) rfl rfl) hfl (by decide) (by decide) (by omega) (by omega) rfl rfl (Nat.le_of_ble_eq_true rfl) (gd DX10_beside_0 31 rfl) ?_
      refine g_icmp_ge C 222 (gd DX10_beside_0 32 rfl) (by decide) (fun c50 => ?_) (fun c50 => ?_)
      · rw [hR0] at c50
        exact absurd c50 (nI_ge (by omega) (by omega))
      · -- the inner loop, from q on, in record r of which places begin at f, to its end l
        have inner : ∀ (r f l : Nat) (R1 : Nat → Int32), (r = x ∧ f = 0 ∧ l = a ∧ p < a ∨ r = y ∧ f = a ∧ l = a + b ∧ a ≤ p) → R1 0 = nI (a + b) → (∀ R2, (∀ k, k < 307 → R2 k = if 50 + 16 * p + f ≤ k ∧ k < 50 + 16 * p + l then gRec ρ r (50 + 16 * (p - f) + (k - (50 + 16 * p) - f)) else R1 k) → GW z w 9 (gQ z w 0 0 (fun r' h'' => r' = some (.int (b1 (a + b ≤ 16))) ∧ h'' = sF h (m + 1) (pRec ρ t (rBes X Y a b)))) 0 0 42 [(0, .ref m), (1, .int (nI x)), (2, .int (nI y)), (3, .int (nI t)), (4, .int (nI a)), (5, .int (nI (p + 1)))] [] (sF h (m + 1) (pRec ρ t R2))) →
            ∀ n q R2, q + n = l → f ≤ q → (∀ k, k < 307 → R2 k = if 50 + 16 * p + f ≤ k ∧ k < 50 + 16 * p + q then gRec ρ r (50 + 16 * (p - f) + (k - (50 + 16 * p) - f)) else R1 k) → GW z w 9 (gQ z w 0 0 (fun r' h'' => r' = some (.int (b1 (a + b ≤ 16))) ∧ h'' = sF h (m + 1) (pRec ρ t (rBes X Y a b)))) 0 0 156 [(0, .ref m), (1, .int (nI x)), (2, .int (nI y)), (3, .int (nI t)), (4, .int (nI a)), (5, .int (nI p)), (6, .int (nI r)), (7, .int (nI f)), (8, .int (nI q))] [] (sF h (m + 1) (pRec ρ t R2)) := by
          intro r f l R1 hr hR1 fin n
          have hrt : r ≠ t := by rcases hr with q | q <;> omega
          induction n with
          | zero =>
            intro q R2 hq hfq hR2
            have hR20 : R2 0 = nI (a + b) := by rw [hR2 0 (by omega), if_neg (by omega), hR1]
            refine g_iload C (gd DX10_beside_1 31 rfl) 8 rfl ?_
            refine g_iload C (gd DX10_beside_1 32 rfl) 5 rfl ?_
            refine g_iload C (gd DX10_beside_1 33 rfl) 4 rfl ?_
            refine g_icmp_ge C 170 (gd DX10_beside_1 34 rfl) (by decide) (fun c162 => ?_) (fun c162 => ?_)
            · -- p at or behind a
              have cc := ge_t c162 (by omega) (by omega)
              refine g_aload_n C (gd DX10_beside_1 37 rfl) 0 rfl rfl ?_
              refine g_iload_n C (gd DX10_beside_1 38 rfl) 3 rfl rfl ?_
              refine g_iconst (v := 0) C (gd DX10_beside_1 39 rfl) (by decide) ?_
              refine g_cV1 (ci := 10) C [_, _] mX10_at lm_TestJudgeModel_131 (by exact hm.1) rfl rfl (e_atT (k := 0) hm (by omega) (by omega) rfl rfl) hfl (by decide) (by decide) (by omega) (by omega) rfl rfl (Nat.le_of_ble_eq_true rfl) (gd DX10_beside_1 40 rfl) ?_
              rw [hR20]
              refine g_icmp_ge C 216 (gd DX10_beside_1 41 rfl) (by decide) (fun c176 => ?_) (fun c176 => ?_)
              · refine g_iinc (lv' := [(0, _), (1, _), (2, _), (3, _), (4, _), (5, _), (6, _), (7, _), (8, _)]) C (gd DX10_beside_2 0 rfl) 5 [1, 2, 3, 4, 5, 0, 6, 7, 8] rfl rfl (by decide) rfl ?_
                refine g_goto (tgt := 42) C (gd DX10_beside_2 1 rfl) (by decide) ?_
                refine GW.sub [0, 1, 2, 3, 4, 5] rfl (Nat.le_refl _) (Nat.le_refl _) (lv' := [(0, _), (1, _), (2, _), (3, _), (4, _), (5, _)]) ?_
                refine GW.cast (by rw [inc1]) rfl rfl (fin R2 (fun k hk => by rw [hR2 k hk, show q = l by omega]))
              · exact absurd (nI_le (by omega) (by omega)) c176
            · have cc := ge_f c162 (by omega) (by omega)
              refine g_iload C (gd DX10_beside_1 35 rfl) 4 rfl ?_
              refine g_goto (tgt := 176) C (gd DX10_beside_1 36 rfl) (by decide) ?_
              refine g_icmp_ge C 216 (gd DX10_beside_1 41 rfl) (by decide) (fun c176 => ?_) (fun c176 => ?_)
              · refine g_iinc (lv' := [(0, _), (1, _), (2, _), (3, _), (4, _), (5, _), (6, _), (7, _), (8, _)]) C (gd DX10_beside_2 0 rfl) 5 [1, 2, 3, 4, 5, 0, 6, 7, 8] rfl rfl (by decide) rfl ?_
                refine g_goto (tgt := 42) C (gd DX10_beside_2 1 rfl) (by decide) ?_
                refine GW.sub [0, 1, 2, 3, 4, 5] rfl (Nat.le_refl _) (Nat.le_refl _) (lv' := [(0, _), (1, _), (2, _), (3, _), (4, _), (5, _)]) ?_
                refine GW.cast (by rw [inc1]) rfl rfl (fin R2 (fun k hk => by rw [hR2 k hk, show q = l by omega]))
              · exact absurd (nI_le (by omega) (by omega)) c176
          | succ n ih2 =>
            intro q R2 hq hfq hR2
            have hR20 : R2 0 = nI (a + b) := by rw [hR2 0 (by omega), if_neg (by omega), hR1]
            have go : GW z w 9 (gQ z w 0 0 (fun r' h'' => r' = some (.int (b1 (a + b ≤ 16))) ∧ h'' = sF h (m + 1) (pRec ρ t (rBes X Y a b)))) 0 0 179 [(0, .ref m), (1, .int (nI x)), (2, .int (nI y)), (3, .int (nI t)), (4, .int (nI a)), (5, .int (nI p)), (6, .int (nI r)), (7, .int (nI f)), (8, .int (nI q))] [] (sF h (m + 1) (pRec ρ t R2)) := by
              refine g_aload_n C (gd DX10_beside_1 42 rfl) 0 rfl rfl ?_
              refine g_iload_n C (gd DX10_beside_1 43 rfl) 3 rfl rfl ?_
              refine g_iload C (gd DX10_beside_1 44 rfl) 5 rfl ?_
              refine g_iload C (gd DX10_beside_1 45 rfl) 8 rfl ?_
              refine g_cS1 C [_, _] mX10_between lm_TestJudgeModel_138 (e_m_between _ _) hfl (by decide) (by decide) (by omega) (by omega) rfl rfl (Nat.le_of_ble_eq_true rfl) (gd DX10_beside_1 46 rfl) ?_
              refine g_aload_n C (gd DX10_beside_1 47 rfl) 0 rfl rfl ?_
              refine g_iload C (gd DX10_beside_1 48 rfl) 6 rfl ?_
              refine g_iload C (gd DX10_beside_1 49 rfl) 5 rfl ?_
              refine g_iload C (gd DX10_beside_1 50 rfl) 7 rfl ?_
              refine g_isub C (gd DX10_beside_1 51 rfl) ?_
              refine g_iload C (gd DX10_beside_1 52 rfl) 8 rfl ?_
              refine g_iload C (gd DX10_beside_1 53 rfl) 7 rfl ?_
              refine g_isub C (gd DX10_beside_1 54 rfl) ?_
              refine g_cS1 C [_, _] mX10_between lm_TestJudgeModel_138 (e_m_between _ _) hfl (by decide) (by decide) (by omega) (by omega) rfl rfl (Nat.le_of_ble_eq_true rfl) (gd DX10_beside_1 55 rfl) ?_
              refine g_cV1 (ci := 10) C [_, _] mX10_at lm_TestJudgeModel_131 (by exact hm.1) rfl rfl (e_atO (k := (50 + 16 * (p - f) + (q - f))) (x := r) hm (by omega) (by omega) (by omega) rfl (nx_bt (nx_sub rfl rfl (by omega)) (nx_sub rfl rfl (by omega)))) hfl (by decide) (by decide) (by omega) (by omega) rfl rfl (Nat.le_of_ble_eq_true rfl) (gd DX10_beside_1 56 rfl) ?_
              refine g_cV0 (v := .null) (ci := 10) C [_, _, _] mX10_puts lm_TestJudgeModel_123 (by exact hm.1) rfl rfl (e_puT (k := (50 + 16 * p + q)) hm (by omega) (by omega) rfl (nx_bt rfl rfl)) hfl (by decide) (by decide) (by omega) (by omega) rfl rfl (Nat.le_of_ble_eq_true rfl) (gd DX10_beside_1 57 rfl) ?_
              refine g_iinc (lv' := [(0, _), (1, _), (2, _), (3, _), (4, _), (5, _), (6, _), (7, _), (8, _)]) C (gd DX10_beside_1 58 rfl) 8 [1, 2, 3, 4, 5, 6, 7, 8, 0] rfl rfl (by decide) rfl ?_
              refine g_goto (tgt := 156) C (gd DX10_beside_1 59 rfl) (by decide) ?_
              refine GW.cast (by rw [inc1]) rfl rfl (ih2 (q + 1) _ (by omega) (by omega) (fun k hk => ?_))
              unfold upd
              by_cases e : k = 50 + 16 * p + q
              · rw [if_pos e, if_pos (by omega)]
                congr 1
                omega
              · rw [if_neg e, hR2 k hk]
                by_cases e2 : 50 + 16 * p + f ≤ k ∧ k < 50 + 16 * p + q
                · rw [if_pos e2, if_pos (by omega)]
                · rw [if_neg e2, if_neg (by omega)]
            refine g_iload C (gd DX10_beside_1 31 rfl) 8 rfl ?_
            refine g_iload C (gd DX10_beside_1 32 rfl) 5 rfl ?_
            refine g_iload C (gd DX10_beside_1 33 rfl) 4 rfl ?_
            refine g_icmp_ge C 170 (gd DX10_beside_1 34 rfl) (by decide) (fun c162 => ?_) (fun c162 => ?_)
            · have cc := ge_t c162 (by omega) (by omega)
              refine g_aload_n C (gd DX10_beside_1 37 rfl) 0 rfl rfl ?_
              refine g_iload_n C (gd DX10_beside_1 38 rfl) 3 rfl rfl ?_
              refine g_iconst (v := 0) C (gd DX10_beside_1 39 rfl) (by decide) ?_
              refine g_cV1 (ci := 10) C [_, _] mX10_at lm_TestJudgeModel_131 (by exact hm.1) rfl rfl (e_atT (k := 0) hm (by omega) (by omega) rfl rfl) hfl (by decide) (by decide) (by omega) (by omega) rfl rfl (Nat.le_of_ble_eq_true rfl) (gd DX10_beside_1 40 rfl) ?_
              rw [hR20]
              refine g_icmp_ge C 216 (gd DX10_beside_1 41 rfl) (by decide) (fun c176 => ?_) (fun c176 => ?_)
              · exact absurd c176 (nI_ge (by omega) (by omega))
              · exact go
            · have cc := ge_f c162 (by omega) (by omega)
              refine g_iload C (gd DX10_beside_1 35 rfl) 4 rfl ?_
              refine g_goto (tgt := 176) C (gd DX10_beside_1 36 rfl) (by decide) ?_
              refine g_icmp_ge C 216 (gd DX10_beside_1 41 rfl) (by decide) (fun c176 => ?_) (fun c176 => ?_)
              · exact absurd c176 (nI_ge (by omega) (by omega))
              · exact go
        refine g_iload C (gd DX10_beside_0 33 rfl) 5 rfl ?_
        refine g_iload C (gd DX10_beside_0 34 rfl) 4 rfl ?_
        refine g_icmp_ge C 64 (gd DX10_beside_0 35 rfl) (by decide) (fun c57 => ?_) (fun c57 => ?_)
        · have cc := ge_t c57 (by omega) (by omega)
          refine g_iload_n C (gd DX10_beside_0 38 rfl) 2 rfl rfl ?_
          refine g_istore (lv' := [(0, _), (1, _), (2, _), (3, _), (4, _), (5, _), (6, _)]) C (gd DX10_beside_0 39 rfl) [1, 2, 3, 4, 5, 6, 0] (by decide) rfl ?_
          refine g_iload C (gd DX10_beside_0 40 rfl) 5 rfl ?_
          refine g_iload C (gd DX10_beside_0 41 rfl) 4 rfl ?_
          refine g_icmp_ge C 78 (gd DX10_beside_0 42 rfl) (by decide) (fun c71 => ?_) (fun c71 => ?_)
          · refine g_iload C (gd DX10_beside_0 45 rfl) 4 rfl ?_
            refine g_istore (lv' := [(0, _), (1, _), (2, _), (3, _), (4, _), (5, _), (6, _), (7, _)]) C (gd DX10_beside_0 46 rfl) [1, 2, 3, 4, 5, 6, 7, 0] (by decide) rfl ?_
            refine g_aload_n C (gd DX10_beside_0 47 rfl) 0 rfl rfl ?_
            refine g_iload_n C (gd DX10_beside_0 48 rfl) 3 rfl rfl ?_
            refine g_iconst (v := 2) C (gd DX10_beside_0 49 rfl) (by decide) ?_
            refine g_iload C (gd DX10_beside_0 50 rfl) 5 rfl ?_
            refine g_iadd C (gd DX10_beside_0 51 rfl) ?_
            refine g_aload_n C (gd DX10_beside_0 52 rfl) 0 rfl rfl ?_
            refine g_iload C (gd DX10_beside_0 53 rfl) 6 rfl ?_
            refine g_iconst (v := 2) C (gd DX10_beside_0 54 rfl) (by decide) ?_
            refine g_iload C (gd DX10_beside_0 55 rfl) 5 rfl ?_
            refine g_iadd C (gd DX10_beside_0 56 rfl) ?_
            refine g_iload C (gd DX10_beside_0 57 rfl) 7 rfl ?_
            refine g_isub C (gd DX10_beside_0 58 rfl) ?_
            refine g_cV1 (ci := 10) C [_, _] mX10_at lm_TestJudgeModel_131 (by exact hm.1) rfl rfl (e_atO (k := ((2 + p) - a)) (x := y) hm (by omega) (by omega) (by omega) rfl (nx_sub (nx_add rfl rfl) rfl (by omega))) hfl (by decide) (by decide) (by omega) (by omega) rfl rfl (Nat.le_of_ble_eq_true rfl) (gd DX10_beside_0 59 rfl) ?_
            refine g_cV0 (v := .null) (ci := 10) C [_, _, _] mX10_puts lm_TestJudgeModel_123 (by exact hm.1) rfl rfl (e_puT (k := (2 + p)) hm (by omega) (by omega) rfl (nx_add rfl rfl)) hfl (by decide) (by decide) (by omega) (by omega) rfl rfl (Nat.le_of_ble_eq_true rfl) (gd DX10_beside_1 0 rfl) ?_
            refine g_aload_n C (gd DX10_beside_1 1 rfl) 0 rfl rfl ?_
            refine g_iload_n C (gd DX10_beside_1 2 rfl) 3 rfl rfl ?_
            refine g_bipush (v := 18) C (gd DX10_beside_1 3 rfl) (by decide) ?_
            refine g_iload C (gd DX10_beside_1 4 rfl) 5 rfl ?_
            refine g_iadd C (gd DX10_beside_1 5 rfl) ?_
            refine g_aload_n C (gd DX10_beside_1 6 rfl) 0 rfl rfl ?_
            refine g_iload C (gd DX10_beside_1 7 rfl) 6 rfl ?_
            refine g_bipush (v := 18) C (gd DX10_beside_1 8 rfl) (by decide) ?_
            refine g_iload C (gd DX10_beside_1 9 rfl) 5 rfl ?_
            refine g_iadd C (gd DX10_beside_1 10 rfl) ?_
            refine g_iload C (gd DX10_beside_1 11 rfl) 7 rfl ?_
            refine g_isub C (gd DX10_beside_1 12 rfl) ?_
            refine g_cV1 (ci := 10) C [_, _] mX10_at lm_TestJudgeModel_131 (by exact hm.1) rfl rfl (e_atO (k := ((18 + p) - a)) (x := y) hm (by omega) (by omega) (by omega) rfl (nx_sub (nx_add rfl rfl) rfl (by omega))) hfl (by decide) (by decide) (by omega) (by omega) rfl rfl (Nat.le_of_ble_eq_true rfl) (gd DX10_beside_1 13 rfl) ?_
            refine g_cV0 (v := .null) (ci := 10) C [_, _, _] mX10_puts lm_TestJudgeModel_123 (by exact hm.1) rfl rfl (e_puT (k := (18 + p)) hm (by omega) (by omega) rfl (nx_add rfl rfl)) hfl (by decide) (by decide) (by omega) (by omega) rfl rfl (Nat.le_of_ble_eq_true rfl) (gd DX10_beside_1 14 rfl) ?_
            refine g_aload_n C (gd DX10_beside_1 15 rfl) 0 rfl rfl ?_
            refine g_iload_n C (gd DX10_beside_1 16 rfl) 3 rfl rfl ?_
            refine g_bipush (v := 34) C (gd DX10_beside_1 17 rfl) (by decide) ?_
            refine g_iload C (gd DX10_beside_1 18 rfl) 5 rfl ?_
            refine g_iadd C (gd DX10_beside_1 19 rfl) ?_
            refine g_aload_n C (gd DX10_beside_1 20 rfl) 0 rfl rfl ?_
            refine g_iload C (gd DX10_beside_1 21 rfl) 6 rfl ?_
            refine g_bipush (v := 34) C (gd DX10_beside_1 22 rfl) (by decide) ?_
            refine g_iload C (gd DX10_beside_1 23 rfl) 5 rfl ?_
            refine g_iadd C (gd DX10_beside_1 24 rfl) ?_
            refine g_iload C (gd DX10_beside_1 25 rfl) 7 rfl ?_
            refine g_isub C (gd DX10_beside_1 26 rfl) ?_
            refine g_cV1 (ci := 10) C [_, _] mX10_at lm_TestJudgeModel_131 (by exact hm.1) rfl rfl (e_atO (k := ((34 + p) - a)) (x := y) hm (by omega) (by omega) (by omega) rfl (nx_sub (nx_add rfl rfl) rfl (by omega))) hfl (by decide) (by decide) (by omega) (by omega) rfl rfl (Nat.le_of_ble_eq_true rfl) (gd DX10_beside_1 27 rfl) ?_
            refine g_cV0 (v := .null) (ci := 10) C [_, _, _] mX10_puts lm_TestJudgeModel_123 (by exact hm.1) rfl rfl (e_puT (k := (34 + p)) hm (by omega) (by omega) rfl (nx_add rfl rfl)) hfl (by decide) (by decide) (by omega) (by omega) rfl rfl (Nat.le_of_ble_eq_true rfl) (gd DX10_beside_1 28 rfl) ?_
            refine g_iload C (gd DX10_beside_1 29 rfl) 7 rfl ?_
            refine g_istore (lv' := [(0, _), (1, _), (2, _), (3, _), (4, _), (5, _), (6, _), (7, _), (8, _)]) C (gd DX10_beside_1 30 rfl) [1, 2, 3, 4, 5, 6, 7, 8, 0] (by decide) rfl ?_
            refine inner y a (a + b) _ (Or.inr ⟨rfl, rfl, rfl, cc⟩) ?_ (fun R2 hR2 => ?_) b a _ rfl (Nat.le_refl _) (fun k hk => by rw [if_neg (by omega)])
            · unfold upd
              rw [if_neg (by omega), if_neg (by omega), if_neg (by omega), hR0]
            · refine ih (p + 1) R2 (by omega) (besF_s (by omega) hR (fun k hk => ?_))
              have hz : 50 + 16 * p ≤ k → k < 50 + 16 * p + 16 → R k = 0 := fun z1 z2 => by rw [hR k hk, besF, if_neg (by omega), if_neg (by omega), if_neg (by omega), if_neg (by omega), if_neg (by omega), if_pos (by omega), if_neg (by omega)]
              rw [hR2 k hk, hY]
              simp only [upd, rSel, rBet]
              (repeat' split) <;> first | rfl | (exfalso; omega) | (congr 1; omega) | (exact hz (by omega) (by omega))
          · exact absurd cc (by have := ge_f c71 (by omega) (by omega); omega)
        · have cc := ge_f c57 (by omega) (by omega)
          refine g_iload_n C (gd DX10_beside_0 36 rfl) 1 rfl rfl ?_
          refine g_goto (tgt := 65) C (gd DX10_beside_0 37 rfl) (by decide) ?_
          refine g_istore (lv' := [(0, _), (1, _), (2, _), (3, _), (4, _), (5, _), (6, _)]) C (gd DX10_beside_0 39 rfl) [1, 2, 3, 4, 5, 6, 0] (by decide) rfl ?_
          refine g_iload C (gd DX10_beside_0 40 rfl) 5 rfl ?_
          refine g_iload C (gd DX10_beside_0 41 rfl) 4 rfl ?_
          refine g_icmp_ge C 78 (gd DX10_beside_0 42 rfl) (by decide) (fun c71 => ?_) (fun c71 => ?_)
          · exact absurd cc (by have := ge_t c71 (by omega) (by omega); omega)
          · refine g_iconst (v := 0) C (gd DX10_beside_0 43 rfl) (by decide) ?_
            refine g_goto (tgt := 80) C (gd DX10_beside_0 44 rfl) (by decide) ?_
            refine g_istore (lv' := [(0, _), (1, _), (2, _), (3, _), (4, _), (5, _), (6, _), (7, _)]) C (gd DX10_beside_0 46 rfl) [1, 2, 3, 4, 5, 6, 7, 0] (by decide) rfl ?_
            refine g_aload_n C (gd DX10_beside_0 47 rfl) 0 rfl rfl ?_
            refine g_iload_n C (gd DX10_beside_0 48 rfl) 3 rfl rfl ?_
            refine g_iconst (v := 2) C (gd DX10_beside_0 49 rfl) (by decide) ?_
            refine g_iload C (gd DX10_beside_0 50 rfl) 5 rfl ?_
            refine g_iadd C (gd DX10_beside_0 51 rfl) ?_
            refine g_aload_n C (gd DX10_beside_0 52 rfl) 0 rfl rfl ?_
            refine g_iload C (gd DX10_beside_0 53 rfl) 6 rfl ?_
            refine g_iconst (v := 2) C (gd DX10_beside_0 54 rfl) (by decide) ?_
            refine g_iload C (gd DX10_beside_0 55 rfl) 5 rfl ?_
            refine g_iadd C (gd DX10_beside_0 56 rfl) ?_
            refine g_iload C (gd DX10_beside_0 57 rfl) 7 rfl ?_
            refine g_isub C (gd DX10_beside_0 58 rfl) ?_
            refine g_cV1 (ci := 10) C [_, _] mX10_at lm_TestJudgeModel_131 (by exact hm.1) rfl rfl (e_atO (k := ((2 + p) - 0)) (x := x) hm (by omega) (by omega) (by omega) rfl (nx_sub (nx_add rfl rfl) rfl (by omega))) hfl (by decide) (by decide) (by omega) (by omega) rfl rfl (Nat.le_of_ble_eq_true rfl) (gd DX10_beside_0 59 rfl) ?_
            refine g_cV0 (v := .null) (ci := 10) C [_, _, _] mX10_puts lm_TestJudgeModel_123 (by exact hm.1) rfl rfl (e_puT (k := (2 + p)) hm (by omega) (by omega) rfl (nx_add rfl rfl)) hfl (by decide) (by decide) (by omega) (by omega) rfl rfl (Nat.le_of_ble_eq_true rfl) (gd DX10_beside_1 0 rfl) ?_
            refine g_aload_n C (gd DX10_beside_1 1 rfl) 0 rfl rfl ?_
            refine g_iload_n C (gd DX10_beside_1 2 rfl) 3 rfl rfl ?_
            refine g_bipush (v := 18) C (gd DX10_beside_1 3 rfl) (by decide) ?_
            refine g_iload C (gd DX10_beside_1 4 rfl) 5 rfl ?_
            refine g_iadd C (gd DX10_beside_1 5 rfl) ?_
            refine g_aload_n C (gd DX10_beside_1 6 rfl) 0 rfl rfl ?_
            refine g_iload C (gd DX10_beside_1 7 rfl) 6 rfl ?_
            refine g_bipush (v := 18) C (gd DX10_beside_1 8 rfl) (by decide) ?_
            refine g_iload C (gd DX10_beside_1 9 rfl) 5 rfl ?_
            refine g_iadd C (gd DX10_beside_1 10 rfl) ?_
            refine g_iload C (gd DX10_beside_1 11 rfl) 7 rfl ?_
            refine g_isub C (gd DX10_beside_1 12 rfl) ?_
            refine g_cV1 (ci := 10) C [_, _] mX10_at lm_TestJudgeModel_131 (by exact hm.1) rfl rfl (e_atO (k := ((18 + p) - 0)) (x := x) hm (by omega) (by omega) (by omega) rfl (nx_sub (nx_add rfl rfl) rfl (by omega))) hfl (by decide) (by decide) (by omega) (by omega) rfl rfl (Nat.le_of_ble_eq_true rfl) (gd DX10_beside_1 13 rfl) ?_
            refine g_cV0 (v := .null) (ci := 10) C [_, _, _] mX10_puts lm_TestJudgeModel_123 (by exact hm.1) rfl rfl (e_puT (k := (18 + p)) hm (by omega) (by omega) rfl (nx_add rfl rfl)) hfl (by decide) (by decide) (by omega) (by omega) rfl rfl (Nat.le_of_ble_eq_true rfl) (gd DX10_beside_1 14 rfl) ?_
            refine g_aload_n C (gd DX10_beside_1 15 rfl) 0 rfl rfl ?_
            refine g_iload_n C (gd DX10_beside_1 16 rfl) 3 rfl rfl ?_
            refine g_bipush (v := 34) C (gd DX10_beside_1 17 rfl) (by decide) ?_
            refine g_iload C (gd DX10_beside_1 18 rfl) 5 rfl ?_
            refine g_iadd C (gd DX10_beside_1 19 rfl) ?_
            refine g_aload_n C (gd DX10_beside_1 20 rfl) 0 rfl rfl ?_
            refine g_iload C (gd DX10_beside_1 21 rfl) 6 rfl ?_
            refine g_bipush (v := 34) C (gd DX10_beside_1 22 rfl) (by decide) ?_
            refine g_iload C (gd DX10_beside_1 23 rfl) 5 rfl ?_
            refine g_iadd C (gd DX10_beside_1 24 rfl) ?_
            refine g_iload C (gd DX10_beside_1 25 rfl) 7 rfl ?_
            refine g_isub C (gd DX10_beside_1 26 rfl) ?_
            refine g_cV1 (ci := 10) C [_, _] mX10_at lm_TestJudgeModel_131 (by exact hm.1) rfl rfl (e_atO (k := ((34 + p) - 0)) (x := x) hm (by omega) (by omega) (by omega) rfl (nx_sub (nx_add rfl rfl) rfl (by omega))) hfl (by decide) (by decide) (by omega) (by omega) rfl rfl (Nat.le_of_ble_eq_true rfl) (gd DX10_beside_1 27 rfl) ?_
            refine g_cV0 (v := .null) (ci := 10) C [_, _, _] mX10_puts lm_TestJudgeModel_123 (by exact hm.1) rfl rfl (e_puT (k := (34 + p)) hm (by omega) (by omega) rfl (nx_add rfl rfl)) hfl (by decide) (by decide) (by omega) (by omega) rfl rfl (Nat.le_of_ble_eq_true rfl) (gd DX10_beside_1 28 rfl) ?_
            refine g_iload C (gd DX10_beside_1 29 rfl) 7 rfl ?_
            refine g_istore (lv' := [(0, _), (1, _), (2, _), (3, _), (4, _), (5, _), (6, _), (7, _), (8, _)]) C (gd DX10_beside_1 30 rfl) [1, 2, 3, 4, 5, 6, 7, 8, 0] (by decide) rfl ?_
            refine inner x 0 a _ (Or.inl ⟨rfl, rfl, rfl, cc⟩) ?_ (fun R2 hR2 => ?_) a 0 _ (by omega) (Nat.le_refl _) (fun k hk => by rw [if_neg (by omega)])
            · unfold upd
              rw [if_neg (by omega), if_neg (by omega), if_neg (by omega), hR0]
            · refine ih (p + 1) R2 (by omega) (besF_s (by omega) hR (fun k hk => ?_))
              have hz : 50 + 16 * p ≤ k → k < 50 + 16 * p + 16 → R k = 0 := fun z1 z2 => by rw [hR k hk, besF, if_neg (by omega), if_neg (by omega), if_neg (by omega), if_neg (by omega), if_neg (by omega), if_pos (by omega), if_neg (by omega)]
              rw [hR2 k hk, hX]
              simp only [upd, rSel, rBet]
              (repeat' split) <;> first | rfl | (exfalso; omega) | (congr 1; omega) | (exact hz (by omega) (by omega))
  refine g_aload_n C (gd DX10_beside_0 0 rfl) 0 rfl rfl ?_
  refine g_iload_n C (gd DX10_beside_0 1 rfl) 3 rfl rfl ?_
  refine g_iconst (v := 0) C (gd DX10_beside_0 2 rfl) (by decide) ?_
  refine g_cV0 (v := .null) (ci := 10) C [_, _] mX10_plain lm_TestJudgeModel_127 (by exact hm.1) rfl rfl (e_m_plain hm ht _) hfl (by decide) (by decide) (by omega) (by omega) rfl rfl (Nat.le_of_ble_eq_true rfl) (gd DX10_beside_0 3 rfl) ?_
  rw [hρ]
  refine g_aload_n C (gd DX10_beside_0 4 rfl) 0 rfl rfl ?_
  refine g_iload_n C (gd DX10_beside_0 5 rfl) 1 rfl rfl ?_
  refine g_iconst (v := 0) C (gd DX10_beside_0 6 rfl) (by decide) ?_
  refine g_cV1 (ci := 10) C [_, _] mX10_at lm_TestJudgeModel_131 (by exact hm.1) rfl rfl (e_atO (k := 0) (x := x) hm (by omega) (by omega) (by omega) rfl rfl) hfl (by decide) (by decide) (by omega) (by omega) rfl rfl (Nat.le_of_ble_eq_true rfl) (gd DX10_beside_0 7 rfl) ?_
  rw [hX, ha]
  refine g_istore (lv' := [(0, _), (1, _), (2, _), (3, _), (4, _)]) C (gd DX10_beside_0 8 rfl) [1, 2, 3, 4, 0] (by decide) rfl ?_
  refine g_aload_n C (gd DX10_beside_0 9 rfl) 0 rfl rfl ?_
  refine g_iload_n C (gd DX10_beside_0 10 rfl) 3 rfl rfl ?_
  refine g_iconst (v := 0) C (gd DX10_beside_0 11 rfl) (by decide) ?_
  refine g_iload C (gd DX10_beside_0 12 rfl) 4 rfl ?_
  refine g_aload_n C (gd DX10_beside_0 13 rfl) 0 rfl rfl ?_
  refine g_iload_n C (gd DX10_beside_0 14 rfl) 2 rfl rfl ?_
  refine g_iconst (v := 0) C (gd DX10_beside_0 15 rfl) (by decide) ?_
  refine g_cV1 (ci := 10) C [_, _] mX10_at lm_TestJudgeModel_131 (by exact hm.1) rfl rfl (e_atO (k := 0) (x := y) hm (by omega) (by omega) (by omega) rfl rfl) hfl (by decide) (by decide) (by omega) (by omega) rfl rfl (Nat.le_of_ble_eq_true rfl) (gd DX10_beside_0 16 rfl) ?_
  rw [hY, hb]
  refine g_iadd C (gd DX10_beside_0 17 rfl) ?_
  refine g_cV0 (v := .null) (ci := 10) C [_, _, _] mX10_puts lm_TestJudgeModel_123 (by exact hm.1) rfl rfl (e_puT (k := 0) hm (by omega) (by omega) rfl rfl) hfl (by decide) (by decide) (by omega) (by omega) rfl rfl (Nat.le_of_ble_eq_true rfl) (gd DX10_beside_0 18 rfl) ?_
  refine g_aload_n C (gd DX10_beside_0 19 rfl) 0 rfl rfl ?_
  refine g_iload_n C (gd DX10_beside_0 20 rfl) 3 rfl rfl ?_
  rw [show nI a + nI b = nI (a + b) from nI_add a b]
  refine g_cV1 (ci := 10) C [_] mX10_isKnown lm_TestJudgeModel_135 (by exact hm.1) rfl rfl (e_m_isKnown hm ht) hfl (by decide) (by decide) (by omega) (by omega) rfl rfl (Nat.le_of_ble_eq_true rfl) (gd DX10_beside_0 21 rfl) ?_
  by_cases hle : a + b ≤ 16
  · have e : b1 (upd (rPlain 0) 0 (nI (a + b)) 0 ≤ 16) = 1 := b1_t (nI_le (b := 16) hle (by omega))
    rw [e]
    refine g_if_ne C 39 (gd DX10_beside_0 22 rfl) (by decide) (fun c34 => ?_) (fun c34 => ?_)
    · refine g_iconst (v := 0) C (gd DX10_beside_0 25 rfl) (by decide) ?_
      refine g_istore (lv' := [(0, _), (1, _), (2, _), (3, _), (4, _), (5, _)]) C (gd DX10_beside_0 26 rfl) [1, 2, 3, 4, 5, 0] (by decide) rfl ?_
      exact outer hle (a + b) 0 _ (by omega) (fun k _ => besF_0 X Y a b k)
    · exact absurd c34 (by decide)
  · have e : b1 (upd (rPlain 0) 0 (nI (a + b)) 0 ≤ 16) = 0 := b1_f (nI_ge (a := 16) (by omega) (by omega))
    rw [e]
    refine g_if_ne C 39 (gd DX10_beside_0 22 rfl) (by decide) (fun c34 => ?_) (fun c34 => ?_)
    · exact absurd rfl c34
    · refine g_iconst (v := 0) C (gd DX10_beside_0 23 rfl) (by decide) ?_
      exact g_zret C (by decide) (by omega) (by omega) ⟨by rw [b1_f hle], by rw [rBes, if_neg hle]⟩ (gd DX10_beside_0 24 rfl)
end M4
