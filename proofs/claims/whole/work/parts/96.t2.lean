/-! Tokens.cut -/
/-- the rows tell the tokens of the text, c of them -/
def tkS (tx : Nat → Nat) (n c : Nat) (F A B E : Nat → Int32) : Prop := F 0 = nI c ∧ (0 < c ∧ c ≤ 501) ∧ (∀ j, j < c → A j = nI (cdT tx n j) ∧ E j = nI (plT tx n j) ∧ (cdT tx n j = 2 → B j = nI (wdT tx n j))) ∧ cdT tx n (c - 1) = 0 ∧ ∀ j, j + 1 < c → cdT tx n j ≠ 0
/-- token j is in hand -/
def tkC (tx : Nat → Nat) (n j : Nat) (F : Nat → Int32) : Prop := F 4 = nI (j + 1) ∧ F 1 = nI (cdT tx n j) ∧ F 3 = nI (plT tx n j) ∧ (cdT tx n j = 2 → F 2 = nI (wdT tx n j))
section T2
variable {w : gD} {T tp : Nat} {h : HS}
theorem e_k_cut (hk : kSh T h) (kp : hK h tp = 14) (lp : hN h tp = 500) (dp : tp < T ∨ T + 3 < tp) {tx : Nat → Nat} {n : Nat} (hn : n ≤ 500) (htx : ∀ k, k < n → tx k < 256 ∧ hI h tp k = sb (tx k)) (F0 A0 B0 E0 : Nat → Int32) :
    Ev w 1 0 0 yX7_cut cX7_cut 7 none [.ref T, .ref tp, .int (nI n)] (hTk T h F0 A0 B0 E0) (fun r' h' => r' = none ∧ ∃ c F A B E, h' = hTk T h F A B E ∧ tkS tx n c F A B E ∧ tkC tx n 0 F) := by
  refine g_start (by decide) (Nat.le_of_ble_eq_true rfl) [(0, _), (1, _), (2, _)] rfl (fun z hfl C => ?_)
  have fin : ∀ at' cnt F A B E, n ≤ at' → cnt ≤ 500 → F 0 = nI cnt → plT tx n cnt = n → (∀ j, j < cnt → A j = nI (cdT tx n j) ∧ E j = nI (plT tx n j) ∧ (cdT tx n j = 2 → B j = nI (wdT tx n j))) → (∀ j, j < cnt → cdT tx n j ≠ 0) → GW z w 7 (gQ z w 0 0 (fun r' h'' => r' = none ∧ ∃ c F A B E, h'' = hTk T h F A B E ∧ tkS tx n c F A B E ∧ tkC tx n 0 F)) 0 0 175 [(0, .ref T), (1, .ref tp), (2, .int (nI n)), (3, .int (nI n)), (4, .int (nI at'))] [] (hTk T h F A B E) := by
    intro at' cnt F A B E hat hc h0 hp hr hz
    have c0 := (cd_0 (tx := tx) (n := n) cnt).mpr hp
    refine g_aload_n C (gd DX7_cut_1 35 rfl) 0 rfl rfl ?_
    refine g_iconst (v := 0) C (gd DX7_cut_1 36 rfl) (by decide) ?_
    refine g_iconst (v := 0) C (gd DX7_cut_1 37 rfl) (by decide) ?_
    refine g_iload_n C (gd DX7_cut_1 38 rfl) 3 rfl rfl ?_
    refine g_cV0 (v := .null) (ci := 7) C [_, _, _] mX7_put lm_TestJudge_Tokens_41 (by exact hk.1) rfl rfl (e_k_put hk (c := cnt) (by omega) h0 0 0 (nI n)) hfl (by decide) (by decide) (by omega) (by omega) rfl rfl (Nat.le_of_ble_eq_true rfl) (gd DX7_cut_1 39 rfl) ?_
    refine g_aload_n C (gd DX7_cut_1 40 rfl) 0 rfl rfl ?_
    refine g_iconst (v := 0) C (gd DX7_cut_1 41 rfl) (by decide) ?_
    refine g_puti (ci := 7) (k := 4) C rfl (by decide) rfl lf_TestJudge_Tokens_24 hk.1 (Or.inl rfl) rfl (gd DX7_cut_1 42 rfl) ?_
    rw [hTk_i0]
    refine g_aload_n C (gd DX7_cut_1 43 rfl) 0 rfl rfl ?_
    refine g_cV0 (v := .null) (ci := 7) C [] mX7_advance lm_TestJudge_Tokens_48 (by exact hk.1) rfl rfl (e_k_advance hk (c := cnt + 1) (j := 0) (by omega) (by omega) (by rw [upd, if_neg (by omega), upd, if_pos rfl]) (by rw [upd, if_pos rfl]; rfl)) hfl (by decide) (by decide) (by omega) (by omega) rfl rfl (Nat.le_of_ble_eq_true rfl) (gd DX7_cut_1 44 rfl) ?_
    refine g_vret C (by omega) (by omega) ⟨rfl, cnt + 1, _, _, _, _, rfl, ⟨by simp only [upd, if_pos, if_neg, Nat.reduceEqDiff, if_true, if_false], ⟨by omega, by omega⟩, fun j hj => ?_, by rw [Nat.add_sub_cancel]; exact c0, fun j hj => hz j (by omega)⟩, ?_⟩ (gd DX7_cut_1 45 rfl)
    · by_cases e : j = cnt
      · subst e
        rw [upd, if_pos rfl, upd, if_pos rfl, c0, hp]
        exact ⟨rfl, rfl, fun q => absurd q (by omega)⟩
      · rw [upd, if_neg e, upd, if_neg e, upd, if_neg e]
        exact hr j (by omega)
    · have r0 : upd A cnt 0 0 = nI (cdT tx n 0) ∧ upd E cnt (nI n) 0 = nI (plT tx n 0) ∧ (cdT tx n 0 = 2 → upd B cnt 0 0 = nI (wdT tx n 0)) := by
        by_cases e : cnt = 0
        · subst e
          rw [upd, if_pos rfl, upd, if_pos rfl, c0, hp]
          exact ⟨rfl, rfl, fun q => absurd q (by omega)⟩
        · rw [upd, if_neg (by omega), upd, if_neg (by omega), upd, if_neg (by omega)]
          exact hr 0 (by omega)
      refine ⟨by rw [upd, if_pos rfl], ?_, ?_, fun q => ?_⟩
      · rw [upd, if_neg (by omega), upd, if_neg (by omega), upd, if_neg (by omega), upd, if_pos rfl]; exact r0.1
      · rw [upd, if_neg (by omega), upd, if_pos rfl]; exact r0.2.1
      · rw [upd, if_neg (by omega), upd, if_neg (by omega), upd, if_pos rfl]; exact r0.2.2 q
  have outer : ∀ y p cnt F A B E, n ≤ p + y → p ≤ n → cnt ≤ p → F 0 = nI cnt → plT tx n cnt = skB tx (n - p) p → (∀ j, j < cnt → A j = nI (cdT tx n j) ∧ E j = nI (plT tx n j) ∧ (cdT tx n j = 2 → B j = nI (wdT tx n j))) → (∀ j, j < cnt → cdT tx n j ≠ 0) → GW z w 7 (gQ z w 0 0 (fun r' h'' => r' = none ∧ ∃ c F A B E, h'' = hTk T h F A B E ∧ tkS tx n c F A B E ∧ tkC tx n 0 F)) 0 0 21 [(0, .ref T), (1, .ref tp), (2, .int (nI n)), (3, .int (nI n)), (4, .int (nI p))] [] (hTk T h F A B E) := by
    intro y
    induction y with
    | zero =>
      intro p cnt F A B E hy hpn hcp h0 hpl hr hz
      have ep : p = n := by omega
      subst ep
      refine g_iload C (gd DX7_cut_0 14 rfl) 4 rfl ?_
      refine g_iload_n C (gd DX7_cut_0 15 rfl) 3 rfl rfl ?_
      refine g_icmp_ge C 175 (gd DX7_cut_0 16 rfl) (by decide) (fun c24 => ?_) (fun c24 => ?_)
      · exact fin p cnt F A B E (Nat.le_refl _) (by omega) h0 (by rw [hpl]; exact skB_stay (Or.inl (Nat.le_refl _))) hr hz
      · exact absurd (nI_le (Nat.le_refl _) (by omega)) c24
    | succ y ih =>
      intro p cnt F A B E hy hpn hcp h0 hpl hr hz
      refine g_iload C (gd DX7_cut_0 14 rfl) 4 rfl ?_
      refine g_iload_n C (gd DX7_cut_0 15 rfl) 3 rfl rfl ?_
      refine g_icmp_ge C 175 (gd DX7_cut_0 16 rfl) (by decide) (fun c24 => ?_) (fun c24 => ?_)
      · have := ge_t c24 (by omega) (by omega)
        exact fin p cnt F A B E this (by omega) h0 (by rw [hpl]; exact (skB_stay (Or.inl this)).trans (by omega)) hr hz
      · have hlt : p < n := ge_f c24 (by omega) (by omega)
        -- a token of code cd with the word wd ends at e: it is laid
        have lay : ∀ e wv, p < e → e ≤ n → plT tx n cnt = p → psT tx n (cnt + 1) = e → (cdT tx n cnt = 2 → wv = nI (wdT tx n cnt)) → GW z w 7 (gQ z w 0 0 (fun r' h'' => r' = none ∧ ∃ c F A B E, h'' = hTk T h F A B E ∧ tkS tx n c F A B E ∧ tkC tx n 0 F)) 0 0 21 [(0, .ref T), (1, .ref tp), (2, .int (nI n)), (3, .int (nI n)), (4, .int (nI e))] [] (hTk T h (upd F 0 (nI (cnt + 1))) (upd A cnt (nI (cdT tx n cnt))) (upd B cnt wv) (upd E cnt (nI p))) := by
          intro e wv he hen hp0 hps hw
          refine ih e (cnt + 1) _ _ _ _ (by omega) hen (by omega) (by rw [upd, if_pos rfl]) (by rw [plT, hps]) (fun j hj => ?_) (fun j hj => ?_)
          · by_cases ej : j = cnt
            · subst ej
              rw [upd, if_pos rfl, upd, if_pos rfl, upd, if_pos rfl, hp0]
              exact ⟨rfl, rfl, hw⟩
            · rw [upd, if_neg ej, upd, if_neg ej, upd, if_neg ej]
              exact hr j (by omega)
          · by_cases ej : j = cnt
            · subst ej
              exact fun q => by have := (cd_0 (tx := tx) (n := n) j).mp q; omega
            · exact hz j (by omega)
        have k80 : ∀ e wv, p ≤ e → e ≤ n → (∀ i, p ≤ i → i < e → isL (tx i)) → rnE tx (n - p) p = e → (e - p ≤ 6 → wv = nI (pkW tx p (e - p))) → GW z w 7 (gQ z w 0 0 (fun r' h'' => r' = none ∧ ∃ c F A B E, h'' = hTk T h F A B E ∧ tkS tx n c F A B E ∧ tkC tx n 0 F)) 0 0 80 [(0, .ref T), (1, .ref tp), (2, .int (nI n)), (3, .int (nI n)), (4, .int (nI e)), (5, .int (nI p)), (6, .int wv)] [] (hTk T h F A B E) := by
          intro e wv hpe hen hl hrn hw
          refine g_iload C (gd DX7_cut_0 48 rfl) 4 rfl ?_
          refine g_iload C (gd DX7_cut_0 49 rfl) 5 rfl ?_
          refine g_icmp_le C 126 (gd DX7_cut_0 50 rfl) (by decide) (fun c84 => ?_) (fun c84 => ?_)
          · have ep : e = p := by have := (nI_leI (by omega) (by omega)).mp c84; omega
            subst ep
            have nl : ¬ isL (tx e) := fun q => by
              rw [rnE_l hlt q] at hrn
              have := rnE_in (tx := tx) (n - (e + 1)) (e + 1)
              omega
            obtain ⟨t1, t2⟩ := htx e hlt
            have blank : isB (tx e) → GW z w 7 (gQ z w 0 0 (fun r' h'' => r' = none ∧ ∃ c F A B E, h'' = hTk T h F A B E ∧ tkS tx n c F A B E ∧ tkC tx n 0 F)) 0 0 169 [(0, .ref T), (1, .ref tp), (2, .int (nI n)), (3, .int (nI n)), (4, .int (nI e)), (5, .int (nI e)), (6, .int wv)] [] (hTk T h F A B E) := by
              intro hb
              refine g_iinc (lv' := [(0, _), (1, _), (2, _), (3, _), (4, _), (5, _), (6, _)]) C (gd DX7_cut_1 33 rfl) 4 [1, 2, 3, 4, 0, 5, 6] rfl rfl (by decide) rfl ?_
              refine g_goto (tgt := 21) C (gd DX7_cut_1 34 rfl) (by decide) ?_
              refine GW.sub [0, 1, 2, 3, 4] rfl (Nat.le_refl _) (Nat.le_refl _) (lv' := [(0, _), (1, _), (2, _), (3, _), (4, _)]) ?_
              refine GW.cast (by rw [inc1]) rfl rfl (ih (e + 1) cnt F A B E (by omega) (by omega) (by omega) h0 (by rw [hpl, skB_b hlt hb]) hr hz)
            refine g_aload_n C (gd DX7_cut_1 9 rfl) 1 rfl rfl ?_
            refine g_iload C (gd DX7_cut_1 10 rfl) 4 rfl ?_
            refine g_baj (j := e) C kp lp (by first | decide | omega) rfl (by omega) (gd DX7_cut_1 11 rfl) ?_
            rw [hTk_ne (by omega), t2]
            refine g_bipush (v := 10) C (gd DX7_cut_1 12 rfl) (by decide) ?_
            refine g_icmp_eq C 169 (gd DX7_cut_1 13 rfl) (by decide) (fun c132 => ?_) (fun c132 => ?_)
            · exact blank (Or.inl ((sb_10 _ t1).mp c132))
            · refine g_aload_n C (gd DX7_cut_1 14 rfl) 1 rfl rfl ?_
              refine g_iload C (gd DX7_cut_1 15 rfl) 4 rfl ?_
              refine g_baj (j := e) C kp lp (by first | decide | omega) rfl (by omega) (gd DX7_cut_1 16 rfl) ?_
              rw [hTk_ne (by omega), t2]
              refine g_bipush (v := 32) C (gd DX7_cut_1 17 rfl) (by decide) ?_
              refine g_icmp_eq C 169 (gd DX7_cut_1 18 rfl) (by decide) (fun c141 => ?_) (fun c141 => ?_)
              · exact blank (Or.inr ((sb_32 _ t1).mp c141))
              · have nb : ¬ isB (tx e) := fun q => q.elim (fun q => c132 ((sb_10 _ t1).mpr q)) (fun q => c141 ((sb_32 _ t1).mpr q))
                have hp0 : plT tx n cnt = e := by rw [hpl]; exact skB_stay (Or.inr nb)
                have ecd : cdT tx n cnt = if tx e ∈ sgL then tx e else 1 := by
                  rw [cdT, hp0, tkG, if_neg (by omega), if_neg nl]
                have eps : psT tx n (cnt + 1) = e + 1 := by
                  show (tkG tx n (plT tx n cnt)).2.2 = e + 1
                  rw [hp0, tkG, if_neg (by omega), if_neg nl]
                have n2 : cdT tx n cnt ≠ 2 := by
                  rw [ecd]; split
                  · rename_i q; have := sgL_ge q; omega
                  · omega
                have k163 : GW z w 7 (gQ z w 0 0 (fun r' h'' => r' = none ∧ ∃ c F A B E, h'' = hTk T h F A B E ∧ tkS tx n c F A B E ∧ tkC tx n 0 F)) 0 0 163 [(0, .ref T), (1, .ref tp), (2, .int (nI n)), (3, .int (nI n)), (4, .int (nI e)), (5, .int (nI e)), (6, .int wv)] [.int (nI (cdT tx n cnt)), .ref T] (hTk T h F A B E) := by
                  refine g_iconst (v := 0) C (gd DX7_cut_1 30 rfl) (by decide) ?_
                  refine g_iload C (gd DX7_cut_1 31 rfl) 5 rfl ?_
                  refine g_cV0 (v := .null) (ci := 7) C [_, _, _] mX7_put lm_TestJudge_Tokens_41 (by exact hk.1) rfl rfl (e_k_put hk (c := cnt) (by omega) h0 _ 0 (nI e)) hfl (by decide) (by decide) (by omega) (by omega) rfl rfl (Nat.le_of_ble_eq_true rfl) (gd DX7_cut_1 32 rfl) ?_
                  refine g_iinc (lv' := [(0, _), (1, _), (2, _), (3, _), (4, _), (5, _), (6, _)]) C (gd DX7_cut_1 33 rfl) 4 [1, 2, 3, 4, 0, 5, 6] rfl rfl (by decide) rfl ?_
                  refine g_goto (tgt := 21) C (gd DX7_cut_1 34 rfl) (by decide) ?_
                  refine GW.sub [0, 1, 2, 3, 4] rfl (Nat.le_refl _) (Nat.le_refl _) (lv' := [(0, _), (1, _), (2, _), (3, _), (4, _)]) ?_
                  refine GW.cast (by rw [inc1]) rfl rfl (lay (e + 1) 0 (by omega) (by omega) hp0 eps (fun q => absurd q n2))
                refine g_aload_n C (gd DX7_cut_1 19 rfl) 0 rfl rfl ?_
                refine g_aload_n C (gd DX7_cut_1 20 rfl) 1 rfl rfl ?_
                refine g_iload C (gd DX7_cut_1 21 rfl) 4 rfl ?_
                refine g_baj (j := e) C kp lp (by first | decide | omega) rfl (by omega) (gd DX7_cut_1 22 rfl) ?_
                rw [hTk_ne (by omega), t2]
                refine g_cS1 C [_] mX7_isSign lm_TestJudge_Tokens_45 (e_k_isSign t1) hfl (by decide) (by decide) (by omega) (by omega) rfl rfl (Nat.le_of_ble_eq_true rfl) (gd DX7_cut_1 23 rfl) ?_
                by_cases hs : tx e ∈ sgL
                · rw [b1_t hs]
                  refine g_if_eq C 162 (gd DX7_cut_1 24 rfl) (by decide) (fun c152 => ?_) (fun c152 => ?_)
                  · exact absurd c152 (by decide)
                  · refine g_aload_n C (gd DX7_cut_1 25 rfl) 1 rfl rfl ?_
                    refine g_iload C (gd DX7_cut_1 26 rfl) 4 rfl ?_
                    refine g_baj (j := e) C kp lp (by first | decide | omega) rfl (by omega) (gd DX7_cut_1 27 rfl) ?_
                    rw [hTk_ne (by omega), t2]
                    refine g_goto (tgt := 163) C (gd DX7_cut_1 28 rfl) (by decide) ?_
                    rw [ecd, if_pos hs] at k163
                    rw [show sb (tx e) = nI (tx e) from if_pos (by have := sgL_ge hs; omega)]
                    exact k163
                · rw [b1_f hs]
                  refine g_if_eq C 162 (gd DX7_cut_1 24 rfl) (by decide) (fun c152 => ?_) (fun c152 => ?_)
                  · refine g_iconst (v := 1) C (gd DX7_cut_1 29 rfl) (by decide) ?_
                    rw [ecd, if_neg hs] at k163
                    exact k163
                  · exact absurd rfl c152
          · have hlp : p < e := Nat.lt_of_not_le (fun q => c84 (nI_le q (by omega)))
            have l0 : isL (tx p) := hl p (Nat.le_refl _) hlp
            have hp0 : plT tx n cnt = p := by rw [hpl]; exact skB_stay (Or.inr (fun q => by rcases q with q | q <;> omega))
            have etk : tkG tx n p = (if 6 < e - p then 1 else if pkW tx p (e - p) ∈ fxL then pkW tx p (e - p) else 2, pkW tx p (e - p), e) := by
              rw [tkG, if_neg (by omega), if_pos l0, hrn]
            have ecd : cdT tx n cnt = if 6 < e - p then 1 else if pkW tx p (e - p) ∈ fxL then pkW tx p (e - p) else 2 := by rw [cdT, hp0, etk]
            have ewd : wdT tx n cnt = pkW tx p (e - p) := by rw [wdT, hp0, etk]
            have eps : psT tx n (cnt + 1) = e := by
              show (tkG tx n (plT tx n cnt)).2.2 = e
              rw [hp0, etk]
            have k116 : GW z w 7 (gQ z w 0 0 (fun r' h'' => r' = none ∧ ∃ c F A B E, h'' = hTk T h F A B E ∧ tkS tx n c F A B E ∧ tkC tx n 0 F)) 0 0 116 [(0, .ref T), (1, .ref tp), (2, .int (nI n)), (3, .int (nI n)), (4, .int (nI e)), (5, .int (nI p)), (6, .int wv)] [.int (nI (cdT tx n cnt)), .ref T] (hTk T h F A B E) := by
              refine g_iload C (gd DX7_cut_1 5 rfl) 6 rfl ?_
              refine g_iload C (gd DX7_cut_1 6 rfl) 5 rfl ?_
              refine g_cV0 (v := .null) (ci := 7) C [_, _, _] mX7_put lm_TestJudge_Tokens_41 (by exact hk.1) rfl rfl (e_k_put hk (c := cnt) (by omega) h0 _ wv (nI p)) hfl (by decide) (by decide) (by omega) (by omega) rfl rfl (Nat.le_of_ble_eq_true rfl) (gd DX7_cut_1 7 rfl) ?_
              refine g_goto (tgt := 172) C (gd DX7_cut_1 8 rfl) (by decide) ?_
              refine g_goto (tgt := 21) C (gd DX7_cut_1 34 rfl) (by decide) ?_
              refine GW.sub [0, 1, 2, 3, 4] rfl (Nat.le_refl _) (Nat.le_refl _) (lv' := [(0, _), (1, _), (2, _), (3, _), (4, _)]) ?_
              refine lay e wv hlp hen hp0 eps (fun q => ?_)
              rw [ewd]
              refine hw (Nat.not_lt.mp (fun q6 => ?_))
              rw [ecd, if_pos q6] at q
              omega
            refine g_aload_n C (gd DX7_cut_0 51 rfl) 0 rfl rfl ?_
            refine g_iload C (gd DX7_cut_0 52 rfl) 4 rfl ?_
            refine g_iload C (gd DX7_cut_0 53 rfl) 5 rfl ?_
            refine g_isub C (gd DX7_cut_0 54 rfl) ?_
            rw [show nI e - nI p = nI (e - p) from nx_sub rfl rfl (by omega)]
            refine g_bipush (v := 6) C (gd DX7_cut_0 55 rfl) (by decide) ?_
            refine g_icmp_le C 102 (gd DX7_cut_0 56 rfl) (by decide) (fun c95 => ?_) (fun c95 => ?_)
            · have h6 : e - p ≤ 6 := (nI_leI (a := e - p) (b := 6) (by omega) (by omega)).mp c95
              have hb := pkW_lt (tx := tx) (q := p) (e - p) (fun i hi => hl (p + i) (by omega) (by omega))
              have hb2 : 32 ^ (e - p) ≤ 32 ^ 6 := Nat.pow_le_pow_right (by omega) h6
              rw [if_neg (by omega)] at ecd
              obtain rfl := hw h6
              refine g_iload C (gd DX7_cut_0 59 rfl) 6 rfl ?_
              refine g_cS1 C [_] mX7_isFixed lm_TestJudge_Tokens_37 (e_k_isFixed (t := pkW tx p (e - p)) (by omega)) hfl (by decide) (by decide) (by omega) (by omega) rfl rfl (Nat.le_of_ble_eq_true rfl) (gd DX7_cut_1 0 rfl) ?_
              by_cases hf : pkW tx p (e - p) ∈ fxL
              · rw [b1_t hf]
                refine g_if_eq C 115 (gd DX7_cut_1 1 rfl) (by decide) (fun c107 => ?_) (fun c107 => ?_)
                · exact absurd c107 (by decide)
                · refine g_iload C (gd DX7_cut_1 2 rfl) 6 rfl ?_
                  refine g_goto (tgt := 116) C (gd DX7_cut_1 3 rfl) (by decide) ?_
                  rw [ecd, if_pos hf] at k116
                  exact k116
              · rw [b1_f hf]
                refine g_if_eq C 115 (gd DX7_cut_1 1 rfl) (by decide) (fun c107 => ?_) (fun c107 => ?_)
                · refine g_iconst (v := 2) C (gd DX7_cut_1 4 rfl) (by decide) ?_
                  rw [ecd, if_neg hf] at k116
                  exact k116
                · exact absurd rfl c107
            · have h6 : ¬ e - p ≤ 6 := fun q => c95 (nI_le (a := e - p) (b := 6) q (by omega))
              refine g_iconst (v := 1) C (gd DX7_cut_0 57 rfl) (by decide) ?_
              refine g_goto (tgt := 116) C (gd DX7_cut_0 58 rfl) (by decide) ?_
              rw [ecd, if_pos (by omega)] at k116
              exact k116
        have inner : ∀ y2 e wv, n ≤ e + y2 → p ≤ e → e ≤ n → (∀ i, p ≤ i → i < e → isL (tx i)) → rnE tx (n - p) p = rnE tx (n - e) e → (e - p ≤ 6 → wv = nI (pkW tx p (e - p))) → GW z w 7 (gQ z w 0 0 (fun r' h'' => r' = none ∧ ∃ c F A B E, h'' = hTk T h F A B E ∧ tkS tx n c F A B E ∧ tkC tx n 0 F)) 0 0 34 [(0, .ref T), (1, .ref tp), (2, .int (nI n)), (3, .int (nI n)), (4, .int (nI e)), (5, .int (nI p)), (6, .int wv)] [] (hTk T h F A B E) := by
          intro y2
          induction y2 with
          | zero =>
            intro e wv hy2 hpe hen hl hrn hw
            have ee : e = n := by omega
            refine g_iload C (gd DX7_cut_0 21 rfl) 4 rfl ?_
            refine g_iload_n C (gd DX7_cut_0 22 rfl) 3 rfl rfl ?_
            refine g_icmp_ge C 80 (gd DX7_cut_0 23 rfl) (by decide) (fun c37 => ?_) (fun c37 => ?_)
            · exact k80 e wv hpe hen hl (by rw [hrn]; exact rnE_stay (Or.inl (by omega))) hw
            · exact absurd (nI_le (by omega) (by omega)) c37
          | succ y2 ih2 =>
            intro e wv hy2 hpe hen hl hrn hw
            refine g_iload C (gd DX7_cut_0 21 rfl) 4 rfl ?_
            refine g_iload_n C (gd DX7_cut_0 22 rfl) 3 rfl rfl ?_
            refine g_icmp_ge C 80 (gd DX7_cut_0 23 rfl) (by decide) (fun c37 => ?_) (fun c37 => ?_)
            · have := ge_t c37 (by omega) (by omega)
              exact k80 e wv hpe hen hl (by rw [hrn]; exact rnE_stay (Or.inl (by omega))) hw
            · have hlt2 : e < n := ge_f c37 (by omega) (by omega)
              obtain ⟨t1, t2⟩ := htx e hlt2
              have out : ¬ isL (tx e) → GW z w 7 (gQ z w 0 0 (fun r' h'' => r' = none ∧ ∃ c F A B E, h'' = hTk T h F A B E ∧ tkS tx n c F A B E ∧ tkC tx n 0 F)) 0 0 80 [(0, .ref T), (1, .ref tp), (2, .int (nI n)), (3, .int (nI n)), (4, .int (nI e)), (5, .int (nI p)), (6, .int wv)] [] (hTk T h F A B E) := fun q => k80 e wv hpe hen hl (by rw [hrn]; exact rnE_stay (Or.inr q)) hw
              refine g_aload_n C (gd DX7_cut_0 24 rfl) 1 rfl rfl ?_
              refine g_iload C (gd DX7_cut_0 25 rfl) 4 rfl ?_
              refine g_baj (j := e) C kp lp (by first | decide | omega) rfl (by omega) (gd DX7_cut_0 26 rfl) ?_
              rw [hTk_ne (by omega), t2]
              refine g_bipush (v := 97) C (gd DX7_cut_0 27 rfl) (by decide) ?_
              refine g_icmp_lt C 80 (gd DX7_cut_0 28 rfl) (by decide) (fun c46 => ?_) (fun c46 => ?_)
              · exact out (fun q => ((sb_ltr _ t1).mpr q).1 c46)
              · refine g_aload_n C (gd DX7_cut_0 29 rfl) 1 rfl rfl ?_
                refine g_iload C (gd DX7_cut_0 30 rfl) 4 rfl ?_
                refine g_baj (j := e) C kp lp (by first | decide | omega) rfl (by omega) (gd DX7_cut_0 31 rfl) ?_
                rw [hTk_ne (by omega), t2]
                refine g_bipush (v := 122) C (gd DX7_cut_0 32 rfl) (by decide) ?_
                refine g_icmp_gt C 80 (gd DX7_cut_0 33 rfl) (by decide) (fun c55 => ?_) (fun c55 => ?_)
                · exact out (fun q => Int32.not_le.mpr c55 ((sb_ltr _ t1).mpr q).2)
                · have le := (sb_ltr _ t1).mp ⟨c46, Int32.not_lt.mp c55⟩
                  refine g_iload C (gd DX7_cut_0 34 rfl) 6 rfl ?_
                  refine g_iconst (v := 5) C (gd DX7_cut_0 35 rfl) (by decide) ?_
                  refine g_ishl C (gd DX7_cut_0 36 rfl) ?_
                  refine g_aload_n C (gd DX7_cut_0 37 rfl) 1 rfl rfl ?_
                  refine g_iload C (gd DX7_cut_0 38 rfl) 4 rfl ?_
                  refine g_baj (j := e) C kp lp (by first | decide | omega) rfl (by omega) (gd DX7_cut_0 39 rfl) ?_
                  rw [hTk_ne (by omega), t2]
                  refine g_bipush (v := 97) C (gd DX7_cut_0 40 rfl) (by decide) ?_
                  refine g_isub C (gd DX7_cut_0 41 rfl) ?_
                  refine g_iconst (v := 1) C (gd DX7_cut_0 42 rfl) (by decide) ?_
                  refine g_iadd C (gd DX7_cut_0 43 rfl) ?_
                  rw [sb_val _ t1 le]
                  refine g_ior C (gd DX7_cut_0 44 rfl) ?_
                  refine g_istore (lv' := [(0, _), (1, _), (2, _), (3, _), (4, _), (5, _), (6, _)]) C (gd DX7_cut_0 45 rfl) [1, 2, 3, 4, 5, 6, 0] (by decide) rfl ?_
                  refine g_iinc (lv' := [(0, _), (1, _), (2, _), (3, _), (4, _), (5, _), (6, _)]) C (gd DX7_cut_0 46 rfl) 4 [1, 2, 3, 4, 0, 5, 6] rfl rfl (by decide) rfl ?_
                  refine g_goto (tgt := 34) C (gd DX7_cut_0 47 rfl) (by decide) ?_
                  refine GW.cast (by rw [inc1]) rfl rfl (ih2 (e + 1) _ (by omega) (by omega) (by omega) (fun i h1 h2 => ?_) (by rw [hrn, rnE_l hlt2 le]) (fun q6 => ?_))
                  · by_cases ei : i = e
                    · rw [ei]; exact le
                    · exact hl i h1 (by omega)
                  · have hb := pkW_lt (tx := tx) (q := p) (e - p) (fun i hi => hl (p + i) (by omega) (by omega))
                    have hb2 : 32 ^ (e - p) ≤ 32 ^ 5 := Nat.pow_le_pow_right (by omega) (by omega)
                    rw [hw (by omega), show e + 1 - p = (e - p) + 1 by omega, pkW, show p + (e - p) = e by omega]
                    exact sh5 (by omega) (by omega)
        refine g_iload C (gd DX7_cut_0 17 rfl) 4 rfl ?_
        refine g_istore (lv' := [(0, _), (1, _), (2, _), (3, _), (4, _), (5, _)]) C (gd DX7_cut_0 18 rfl) [1, 2, 3, 4, 5, 0] (by decide) rfl ?_
        refine g_iconst (v := 0) C (gd DX7_cut_0 19 rfl) (by decide) ?_
        refine g_istore (lv' := [(0, _), (1, _), (2, _), (3, _), (4, _), (5, _), (6, _)]) C (gd DX7_cut_0 20 rfl) [1, 2, 3, 4, 5, 6, 0] (by decide) rfl ?_
        exact inner (n - p) p 0 (by omega) (Nat.le_refl _) (by omega) (fun i h1 h2 => by omega) rfl (fun _ => by rw [Nat.sub_self]; rfl)
  have k12 : GW z w 7 (gQ z w 0 0 (fun r' h'' => r' = none ∧ ∃ c F A B E, h'' = hTk T h F A B E ∧ tkS tx n c F A B E ∧ tkC tx n 0 F)) 0 0 12 [(0, .ref T), (1, .ref tp), (2, .int (nI n))] [.int (nI n)] (hTk T h F0 A0 B0 E0) := by
    refine g_istore_n (lv' := [(0, _), (1, _), (2, _), (3, _)]) C (gd DX7_cut_0 8 rfl) [1, 2, 3, 0] rfl (by decide) rfl ?_
    refine g_aload_n C (gd DX7_cut_0 9 rfl) 0 rfl rfl ?_
    refine g_iconst (v := 0) C (gd DX7_cut_0 10 rfl) (by decide) ?_
    refine g_puti (ci := 7) (k := 0) C rfl (by decide) rfl lf_TestJudge_Tokens_9 hk.1 (Or.inl rfl) rfl (gd DX7_cut_0 11 rfl) ?_
    rw [hTk_i0]
    refine g_iconst (v := 0) C (gd DX7_cut_0 12 rfl) (by decide) ?_
    refine g_istore (lv' := [(0, _), (1, _), (2, _), (3, _), (4, _)]) C (gd DX7_cut_0 13 rfl) [1, 2, 3, 4, 0] (by decide) rfl ?_
    exact outer n 0 0 _ _ _ _ (by omega) (by omega) (by omega) (by rw [upd, if_pos rfl]; rfl) rfl (fun j hj => by omega) (fun j hj => by omega)
  refine g_iload_n C (gd DX7_cut_0 0 rfl) 2 rfl rfl ?_
  refine g_aload_n C (gd DX7_cut_0 1 rfl) 1 rfl rfl ?_
  refine g_alen_b C kp (gd DX7_cut_0 2 rfl) ?_
  rw [show nI (hN (hTk T h F0 A0 B0 E0) tp) = nI 500 from congrArg nI lp]
  refine g_icmp_ge C 10 (gd DX7_cut_0 3 rfl) (by decide) (fun c3 => ?_) (fun c3 => ?_)
  · have : n = 500 := by have := ge_t (a := n) (b := 500) c3 (by omega) (by omega); omega
    refine g_aload_n C (gd DX7_cut_0 6 rfl) 1 rfl rfl ?_
    refine g_alen_b C kp (gd DX7_cut_0 7 rfl) ?_
    rw [show nI (hN (hTk T h F0 A0 B0 E0) tp) = nI n from congrArg nI (lp.trans this.symm)]
    exact k12
  · refine g_iload_n C (gd DX7_cut_0 4 rfl) 2 rfl rfl ?_
    refine g_goto (tgt := 12) C (gd DX7_cut_0 5 rfl) (by decide) ?_
    exact k12
end T2
