/-! Paper: put, putNumber, putRest -/
def ppSh (p : Nat) (h : HS) : Prop := hK h p = 2 ∧ hR h p 0 = some (p + 1) ∧ hK h (p + 1) = 14 ∧ hN h (p + 1) = 7620
/-- the paper with n bytes, the row BY -/
def pH (p : Nat) (h : HS) (BY : Nat → Int32) (n : Nat) : HS := sI (sF h (p + 1) BY) p 1 (nI n)
def byL (BY : Nat → Int32) : Nat → List Nat → Nat → Int32
  | _, [] => BY
  | k, c :: cs => byL (upd BY k (nI c).toInt8.toInt32) (k + 1) cs
theorem byL_app (BY : Nat → Int32) : ∀ (l l' : List Nat) (k : Nat), byL BY k (l ++ l') = byL (byL BY k l) (k + l.length) l' := by
  intro l
  induction l generalizing BY with
  | nil => intro l' k; rfl
  | cons c cs ih =>
    intro l' k
    show byL (upd BY k (nI c).toInt8.toInt32) (k + 1) (cs ++ l') = byL (byL (upd BY k (nI c).toInt8.toInt32) (k + 1) cs) (k + (cs.length + 1)) l'
    rw [ih, show k + 1 + cs.length = k + (cs.length + 1) by omega]
section C26a
variable {p : Nat} {h : HS} {BY : Nat → Int32} {n : Nat}
theorem pH_1 : hI (pH p h BY n) p 1 = nI n := by unfold pH; rw [hI_sI, if_pos ⟨rfl, rfl⟩]
theorem pH_b : hI (pH p h BY n) (p + 1) = BY := by
  unfold pH
  rw [hI_sI_ne (by omega), hI_sF_eq]
theorem pH_ne {b : Nat} (hb : b ≠ p) (hb1 : b ≠ p + 1) : hI (pH p h BY n) b = hI h b := by
  unfold pH
  rw [hI_sI_ne hb, hI_sF_ne hb1]
theorem pH_put {k : Nat} {v : Int32} {m : Nat} : sI (sI (pH p h BY n) (p + 1) k v) p 1 (nI m) = pH p h (upd BY k v) m := by
  unfold pH
  simp only [sI, sF]
  congr 1
  funext b j
  by_cases e1 : b = p
  · subst e1
    by_cases e2 : j = 1
    · subst e2; simp
    · simp [e2]
  · by_cases e2 : b = p + 1
    · subst e2
      simp [upd]
    · simp [e1, e2]
end C26a
section C26
variable {w : gD} {p t : Nat} {h : HS}
theorem e_p_put (hp : ppSh p h) {BY : Nat → Int32} {n c : Nat} (hn : n < 7620) : EvF w 0 0 0 yX1_put cX1_put 2 none [.ref p, .int (nI c)] (pH p h BY n) none (pH p h (byL BY n [c]) (n + 1)) := by
  refine g_start (by decide) (Nat.le_of_ble_eq_true rfl) [(0, _), (1, _)] rfl (fun z hfl C => ?_)
  refine g_aload_n C (gd DX1_put_0 0 rfl) 0 rfl rfl ?_
  refine g_geti (ci := 1) (k := 1) C rfl (by decide) rfl lf_TestJudge_Paper_15 hp.1 (gd DX1_put_0 1 rfl) ?_
  rw [pH_1]
  refine g_aload_n C (gd DX1_put_0 2 rfl) 0 rfl rfl ?_
  refine g_getr (ci := 1) (k := 0) C rfl (by decide) rfl lf_TestJudge_Paper_9 hp.1 hp.2.1 (gd DX1_put_0 3 rfl) ?_
  refine g_alen_b C hp.2.2.1 (gd DX1_put_0 4 rfl) ?_
  rw [show hN (pH p h BY n) (p + 1) = 7620 from hp.2.2.2]
  refine g_icmp_ge C 33 (gd DX1_put_0 5 rfl) (by decide) (fun c9 => ?_) (fun c9 => ?_)
  · exact absurd c9 (nI_ge (a := n) (b := 7620) hn (by omega))
  · refine g_aload_n C (gd DX1_put_0 6 rfl) 0 rfl rfl ?_
    refine g_getr (ci := 1) (k := 0) C rfl (by decide) rfl lf_TestJudge_Paper_9 hp.1 hp.2.1 (gd DX1_put_0 7 rfl) ?_
    refine g_aload_n C (gd DX1_put_0 8 rfl) 0 rfl rfl ?_
    refine g_geti (ci := 1) (k := 1) C rfl (by decide) rfl lf_TestJudge_Paper_15 hp.1 (gd DX1_put_0 9 rfl) ?_
    rw [pH_1]
    refine g_iload_n C (gd DX1_put_0 10 rfl) 1 rfl rfl ?_
    refine g_i2b C (gd DX1_put_0 11 rfl) ?_
    refine g_bsj (j := n) C hp.2.2.1 hp.2.2.2 (by first | decide | omega) rfl (by omega) (gd DX1_put_0 12 rfl) ?_
    refine g_aload_n C (gd DX1_put_0 13 rfl) 0 rfl rfl ?_
    refine g_dup C (gd DX1_put_0 14 rfl) rfl ?_
    refine g_geti (ci := 1) (k := 1) C rfl (by decide) rfl lf_TestJudge_Paper_15 hp.1 (gd DX1_put_0 15 rfl) ?_
    rw [hI_sI_ne (by omega), pH_1]
    refine g_iconst (v := 1) C (gd DX1_put_0 16 rfl) (by decide) ?_
    refine g_iadd C (gd DX1_put_0 17 rfl) ?_
    refine g_puti (ci := 1) (k := 1) C rfl (by decide) rfl lf_TestJudge_Paper_15 hp.1 (Or.inl rfl) rfl (gd DX1_put_0 18 rfl) ?_
    rw [show nI n + 1 = nI (n + 1) from nx_add (b := 1) rfl rfl, pH_put]
    exact g_vret C (by omega) (by omega) ⟨rfl, by rw [show byL BY n [c] = upd BY n (nI c).toInt8.toInt32 from rfl, pk_vb]⟩ (gd DX1_put_0 19 rfl)
theorem e_p_putNumber (hp : ppSh p h) {BY : Nat → Int32} {n x : Nat} (hn : n + 3 ≤ 7620) (hx : x < 1000) : EvF w 1 0 0 yX1_putNumber cX1_putNumber 2 none [.ref p, .int (nI x)] (pH p h BY n) none (pH p h (byL BY n (digs x)) (n + (digs x).length)) := by
  refine g_start (by decide) (Nat.le_of_ble_eq_true rfl) [(0, _), (1, _)] rfl (fun z hfl C => ?_)
  have k40 : ∀ l, l.length ≤ 2 → digs x = l ++ [48 + x % 10] → GW z w 2 (gQ z w 0 0 (fun r' h'' => r' = none ∧ h'' = pH p h (byL BY n (digs x)) (n + (digs x).length))) 0 0 40 [(0, .ref p), (1, .int (nI x))] [] (pH p h (byL BY n l) (n + l.length)) := by
    intro l hl e
    refine g_aload_n C (gd DX1_putNumber_0 24 rfl) 0 rfl rfl ?_
    refine g_bipush (v := 48) C (gd DX1_putNumber_0 25 rfl) (by decide) ?_
    refine g_iload_n C (gd DX1_putNumber_0 26 rfl) 1 rfl rfl ?_
    refine g_bipush (v := 10) C (gd DX1_putNumber_0 27 rfl) (by decide) ?_
    refine g_irem C (gd DX1_putNumber_0 28 rfl) (by decide) ?_
    refine g_iadd C (gd DX1_putNumber_0 29 rfl) ?_
    rw [show (48 : Int32) + (nI x - nI x / 10 * 10) = nI (48 + x % 10) from nx_add (a := 48) rfl (nx_rem (b := 10) rfl rfl (by omega) (by decide) (by decide))]
    refine g_cV0 (v := .null) (ci := 1) C [_] mX1_put lm_TestJudge_Paper_29 (by exact hp.1) rfl rfl (e_p_put hp (by omega)) hfl (by decide) (by decide) (by omega) (by omega) rfl rfl (Nat.le_of_ble_eq_true rfl) (gd DX1_putNumber_0 30 rfl) ?_
    exact g_vret C (by omega) (by omega) ⟨rfl, by rw [e, byL_app, List.length_append]; rfl⟩ (gd DX1_putNumber_0 31 rfl)
  have k20 : ∀ l, l.length ≤ 1 → digs x = l ++ ((if 9 < x then [48 + x / 10 % 10] else []) ++ [48 + x % 10]) → GW z w 2 (gQ z w 0 0 (fun r' h'' => r' = none ∧ h'' = pH p h (byL BY n (digs x)) (n + (digs x).length))) 0 0 20 [(0, .ref p), (1, .int (nI x))] [] (pH p h (byL BY n l) (n + l.length)) := by
    intro l hl e
    refine g_iload_n C (gd DX1_putNumber_0 12 rfl) 1 rfl rfl ?_
    refine g_bipush (v := 10) C (gd DX1_putNumber_0 13 rfl) (by decide) ?_
    refine g_icmp_lt C 40 (gd DX1_putNumber_0 14 rfl) (by decide) (fun c23 => ?_) (fun c23 => ?_)
    · have hx9 : ¬ 9 < x := fun q => Int32.not_le.mpr c23 (nI_le (a := 10) (by omega) (by omega))
      rw [if_neg hx9] at e
      exact k40 l (by omega) (by rw [e]; rfl)
    · have hx9 : 9 < x := Nat.lt_of_not_le (fun q => c23 (Int32.not_le.mp (nI_ge (a := x) (b := 10) (by omega) (by omega))))
      rw [if_pos hx9] at e
      refine g_aload_n C (gd DX1_putNumber_0 15 rfl) 0 rfl rfl ?_
      refine g_bipush (v := 48) C (gd DX1_putNumber_0 16 rfl) (by decide) ?_
      refine g_iload_n C (gd DX1_putNumber_0 17 rfl) 1 rfl rfl ?_
      refine g_bipush (v := 10) C (gd DX1_putNumber_0 18 rfl) (by decide) ?_
      refine g_idiv C (gd DX1_putNumber_0 19 rfl) (by decide) ?_
      refine g_bipush (v := 10) C (gd DX1_putNumber_0 20 rfl) (by decide) ?_
      refine g_irem C (gd DX1_putNumber_0 21 rfl) (by decide) ?_
      refine g_iadd C (gd DX1_putNumber_0 22 rfl) ?_
      rw [show (48 : Int32) + (nI x / 10 - nI x / 10 / 10 * 10) = nI (48 + x / 10 % 10) from nx_add (a := 48) rfl (nx_rem (a := x / 10) (b := 10) (nx_div (b := 10) rfl rfl (by omega) (by decide) (by decide)) rfl (by omega) (by decide) (by decide))]
      refine g_cV0 (v := .null) (ci := 1) C [_] mX1_put lm_TestJudge_Paper_29 (by exact hp.1) rfl rfl (e_p_put hp (by omega)) hfl (by decide) (by decide) (by omega) (by omega) rfl rfl (Nat.le_of_ble_eq_true rfl) (gd DX1_putNumber_0 23 rfl) ?_
      refine GW.cast rfl rfl ?_ (k40 (l ++ [48 + x / 10 % 10]) (by rw [List.length_append]; simp; omega) (by rw [e, List.append_assoc]))
      rw [byL_app, List.length_append]
      rfl
  refine g_iload_n C (gd DX1_putNumber_0 0 rfl) 1 rfl rfl ?_
  refine g_bipush (v := 100) C (gd DX1_putNumber_0 1 rfl) (by decide) ?_
  refine g_icmp_lt C 20 (gd DX1_putNumber_0 2 rfl) (by decide) (fun c3 => ?_) (fun c3 => ?_)
  · have hx9 : ¬ 99 < x := fun q => Int32.not_le.mpr c3 (nI_le (a := 100) (by omega) (by omega))
    exact k20 [] (by simp) (by unfold digs; rw [if_neg hx9]; rfl)
  · have hx9 : 99 < x := Nat.lt_of_not_le (fun q => c3 (Int32.not_le.mp (nI_ge (a := x) (b := 100) (by omega) (by omega))))
    refine g_aload_n C (gd DX1_putNumber_0 3 rfl) 0 rfl rfl ?_
    refine g_bipush (v := 48) C (gd DX1_putNumber_0 4 rfl) (by decide) ?_
    refine g_iload_n C (gd DX1_putNumber_0 5 rfl) 1 rfl rfl ?_
    refine g_bipush (v := 100) C (gd DX1_putNumber_0 6 rfl) (by decide) ?_
    refine g_idiv C (gd DX1_putNumber_0 7 rfl) (by decide) ?_
    refine g_bipush (v := 10) C (gd DX1_putNumber_0 8 rfl) (by decide) ?_
    refine g_irem C (gd DX1_putNumber_0 9 rfl) (by decide) ?_
    refine g_iadd C (gd DX1_putNumber_0 10 rfl) ?_
    rw [show (48 : Int32) + (nI x / 100 - nI x / 100 / 10 * 10) = nI (48 + x / 100 % 10) from nx_add (a := 48) rfl (nx_rem (a := x / 100) (b := 10) (nx_div (b := 100) rfl rfl (by omega) (by decide) (by decide)) rfl (by omega) (by decide) (by decide))]
    refine g_cV0 (v := .null) (ci := 1) C [_] mX1_put lm_TestJudge_Paper_29 (by exact hp.1) rfl rfl (e_p_put hp (by omega)) hfl (by decide) (by decide) (by omega) (by omega) rfl rfl (Nat.le_of_ble_eq_true rfl) (gd DX1_putNumber_0 11 rfl) ?_
    refine k20 [48 + x / 100 % 10] (by simp) ?_
    unfold digs
    rw [if_pos hx9, show x / 100 % 10 = x / 100 by omega, List.append_assoc]
end C26
