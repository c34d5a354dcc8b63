/-! Piece: the constructor -/
/-- h' has all that h has, and more behind it -/
def hExt (h h' : HS) : Prop := hT h ≤ hT h' ∧ ∀ b, b < hT h → hI h' b = hI h b ∧ hL h' b = hL h b ∧ hR h' b = hR h b ∧ hK h' b = hK h b ∧ hN h' b = hN h b
theorem hExt.rf (h : HS) : hExt h h := ⟨Nat.le_refl _, fun _ _ => ⟨rfl, rfl, rfl, rfl, rfl⟩⟩
theorem hExt.tr {h h1 h2 : HS} (a : hExt h h1) (b : hExt h1 h2) : hExt h h2 := by
  refine ⟨Nat.le_trans a.1 b.1, fun c hc => ?_⟩
  obtain ⟨a1, a2, a3, a4, a5⟩ := a.2 c hc
  obtain ⟨b1, b2, b3, b4, b5⟩ := b.2 c (Nat.lt_of_lt_of_le hc a.1)
  exact ⟨b1.trans a1, b2.trans a2, b3.trans a3, b4.trans a4, b5.trans a5⟩
theorem hExt_sN (h : HS) (k n : Nat) : hExt h (sN h k n) := by
  refine ⟨by rw [hT_sN]; omega, fun b hb => ⟨?_, ?_, ?_, ?_, ?_⟩⟩
  · funext j; rw [hI_sN, if_neg (by omega)]
  · funext j; rw [hL_sN, if_neg (by omega)]
  · funext j; rw [hR_sN, if_neg (by omega)]
  · rw [hK_sN, if_neg (by omega)]
  · rw [hN_sN, if_neg (by omega)]
/-- places that a piece of that weight keeps -/
def szP (wt : Nat) : Nat := if wt ≤ 6 then wt else 0
/-- a piece just made: at a, all its rows 0 -/
def pcN (h : HS) (a wt : Nat) (e : Int32) : Prop := hK h a = 3 ∧ hI h a 0 = nI wt ∧ hI h a 1 = e ∧ hI h a 2 = nI (szP wt) ∧ (0 < szP wt → (hR h a 3 = some (a + 1) ∧ hR h a 4 = some (a + 2) ∧ hR h a 5 = some (a + 3) ∧ hR h a 6 = some (a + 4)) ∧ (hK h (a + 1) = 12 ∧ hK h (a + 2) = 12 ∧ hK h (a + 3) = 12 ∧ hK h (a + 4) = 12) ∧ (hN h (a + 1) = szP wt ∧ hN h (a + 2) = szP wt ∧ hN h (a + 3) = szP wt ∧ hN h (a + 4) = szP wt * szP wt) ∧ ∀ i, 1 ≤ i → i ≤ 4 → ∀ j, hI h (a + i) j = 0)
theorem szP_le (wt : Nat) : szP wt ≤ 6 := by unfold szP; split <;> omega
def updO (r : Nat → Option Nat) (k : Nat) (v : Option Nat) : Nat → Option Nat := fun j => if j = k then v else r j
/-- behind h an object of Piece at a = hT h with k rows of n ints (the fourth of n * n), all 0 -/
def pcH (h : HS) (a : Nat) (I : Nat → Int32) (r : Nat → Option Nat) (k n : Nat) : HS := (fun b j => if b = a then I j else if a < b ∧ b ≤ a + k then 0 else hI h b j, fun b j => if a ≤ b ∧ b ≤ a + k then 0 else hL h b j, fun b j => if b = a then r j else if a < b ∧ b ≤ a + k then none else hR h b j, fun b => if b = a then 3 else if a < b ∧ b ≤ a + k then 12 else hK h b, fun b => if b = a then 0 else if a < b ∧ b ≤ a + k then (if b = a + 4 then n * n else n) else hN h b, a + 1 + k)
section PCH
variable {h : HS} {a : Nat} {I : Nat → Int32} {r : Nat → Option Nat} {k n : Nat}
theorem pcH_T : hT (pcH h a I r k n) = a + 1 + k := rfl
theorem pcH_I {j : Nat} : hI (pcH h a I r k n) a j = I j := if_pos rfl
theorem pcH_R {j : Nat} : hR (pcH h a I r k n) a j = r j := if_pos rfl
theorem pcH_K : hK (pcH h a I r k n) a = 3 := if_pos rfl
theorem pcH_i {j : Nat} {v : Int32} : sI (pcH h a I r k n) a j v = pcH h a (upd I j v) r k n := by
  unfold sI pcH upd
  congr 1
  funext b i
  by_cases e : b = a
  · subst e
    by_cases e2 : i = j
    · simp [e2]
    · simp [e2]
  · simp [e]
theorem pcH_r {j : Nat} {v : Option Nat} : sR (pcH h a I r k n) a j v = pcH h a I (updO r j v) k n := by
  unfold sR pcH updO
  congr 3
  funext b i
  by_cases e : b = a
  · subst e
    by_cases e2 : i = j
    · simp [e2]
    · simp [e2]
  · simp [e]
theorem pcH_n {m : Nat} (hm : m = if k = 3 then n * n else n) : sN (pcH h a I r k n) 12 m = pcH h a I r (k + 1) n := by
  have ht : hT (pcH h a I r k n) = a + 1 + k := rfl
  unfold sN
  rw [ht]
  unfold pcH
  refine Prod.ext (funext fun b => funext fun j => ?_) (Prod.ext (funext fun b => funext fun j => ?_) (Prod.ext (funext fun b => funext fun j => ?_) (Prod.ext (funext fun b => ?_) (Prod.ext (funext fun b => ?_) ?_))))
  · show (if b = a + 1 + k then 0 else if b = a then I j else if a < b ∧ b ≤ a + k then 0 else hI h b j) = (if b = a then I j else if a < b ∧ b ≤ a + (k + 1) then 0 else hI h b j)
    (repeat' split) <;> first | rfl | (exfalso; omega) | (congr 1; omega)
  · show (if b = a + 1 + k then 0 else if a ≤ b ∧ b ≤ a + k then 0 else hL h b j) = (if a ≤ b ∧ b ≤ a + (k + 1) then 0 else hL h b j)
    (repeat' split) <;> first | rfl | (exfalso; omega) | (congr 1; omega)
  · show (if b = a + 1 + k then none else if b = a then r j else if a < b ∧ b ≤ a + k then none else hR h b j) = (if b = a then r j else if a < b ∧ b ≤ a + (k + 1) then none else hR h b j)
    (repeat' split) <;> first | rfl | (exfalso; omega) | (congr 1; omega)
  · show (if b = a + 1 + k then 12 else if b = a then 3 else if a < b ∧ b ≤ a + k then 12 else hK h b) = (if b = a then 3 else if a < b ∧ b ≤ a + (k + 1) then 12 else hK h b)
    (repeat' split) <;> first | rfl | (exfalso; omega) | (congr 1; omega)
  · show (if b = a + 1 + k then m else if b = a then 0 else if a < b ∧ b ≤ a + k then (if b = a + 4 then n * n else n) else hN h b) = (if b = a then 0 else if a < b ∧ b ≤ a + (k + 1) then (if b = a + 4 then n * n else n) else hN h b)
    subst hm
    (repeat' split) <;> first | rfl | (exfalso; omega) | (congr 1; omega)
  · rfl
theorem pcH_new (n : Nat) : sN h 3 0 = pcH h (hT h) (fun _ => 0) (fun _ => none) 0 n := by
  unfold sN pcH
  refine Prod.ext (funext fun b => funext fun j => ?_) (Prod.ext (funext fun b => funext fun j => ?_) (Prod.ext (funext fun b => funext fun j => ?_) (Prod.ext (funext fun b => ?_) (Prod.ext (funext fun b => ?_) rfl))))
  · show (if b = hT h then 0 else h.1 b j) = (if b = hT h then 0 else if hT h < b ∧ b ≤ hT h + 0 then 0 else hI h b j)
    rw [if_neg (c := hT h < b ∧ b ≤ hT h + 0) (by omega)]; rfl
  · show (if b = hT h then 0 else h.2.1 b j) = (if hT h ≤ b ∧ b ≤ hT h + 0 then 0 else hL h b j)
    by_cases e : b = hT h
    · rw [if_pos e, if_pos (by omega)]
    · rw [if_neg e, if_neg (by omega)]; rfl
  · show (if b = hT h then none else h.2.2.1 b j) = (if b = hT h then none else if hT h < b ∧ b ≤ hT h + 0 then none else hR h b j)
    rw [if_neg (c := hT h < b ∧ b ≤ hT h + 0) (by omega)]; rfl
  · show (if b = hT h then 3 else h.2.2.2.1 b) = (if b = hT h then 3 else if hT h < b ∧ b ≤ hT h + 0 then 12 else hK h b)
    rw [if_neg (c := hT h < b ∧ b ≤ hT h + 0) (by omega)]; rfl
  · show (if b = hT h then 0 else h.2.2.2.2.1 b) = (if b = hT h then 0 else if hT h < b ∧ b ≤ hT h + 0 then _ else hN h b)
    rw [if_neg (c := hT h < b ∧ b ≤ hT h + 0) (by omega)]; rfl
end PCH
def pcI (wt n : Nat) (e : Int32) : Nat → Int32 := upd (upd (upd (fun _ => 0) 0 (nI wt)) 1 e) 2 (nI n)
def pcR4 (x3 x4 x5 x6 : Nat) : Nat → Option Nat := updO (updO (updO (updO (fun _ => none) 3 (some x3)) 4 (some x4)) 5 (some x5)) 6 (some x6)
/-- the heap behind a new Piece -/
def pcF (np : Nat) (h : HS) (wt : Nat) (e : Int32) : HS := if szP wt = 0 then pcH h (hT h) (pcI wt 0 e) (pcR4 np np np np) 0 0 else pcH h (hT h) (pcI wt (szP wt) e) (pcR4 (hT h + 1) (hT h + 2) (hT h + 3) (hT h + 4)) 4 (szP wt)
section C28
variable {w : gD} {h : HS}
theorem e_pc_init (wt : Nat) (hw : wt < 2 ^ 31) (e : Int32) : EvF w 1 4 54 yX2_init cX2_init 3 none [.ref (hT h), .int (nI wt), .int e] (sN h 3 0) none (pcF w.2.2.2 h wt e) := by
  refine g_start (by decide) (Nat.le_of_ble_eq_true rfl) [(0, _), (1, _), (2, _)] rfl (fun z hfl C => ?_)
  rw [pcH_new (szP wt)]
  generalize ha : hT h = a
  have k30 : GW z w 3 (gQ z w 4 54 (fun r' h'' => r' = none ∧ h'' = pcF w.2.2.2 h wt e)) 0 0 30 [(0, .ref a), (1, .int (nI wt)), (2, .int e)] [.int (nI (szP wt)), .ref a] (pcH h a (upd (upd (fun _ => 0) 0 (nI wt)) 1 e) (fun _ => none) 0 (szP wt)) := by
    have hs6 := szP_le wt
    generalize hn : szP wt = n at *
    refine g_puti (ci := 2) (k := 2) C rfl (by decide) rfl lf_TestJudge_Piece_16 pcH_K (Or.inr ⟨rfl, rfl, rfl⟩) rfl (gd DX2_init_0 17 rfl) ?_
    rw [pcH_i]
    refine g_aload_n C (gd DX2_init_0 18 rfl) 0 rfl rfl ?_
    refine g_aload_n C (gd DX2_init_0 19 rfl) 0 rfl rfl ?_
    refine g_geti (ci := 2) (k := 2) C rfl (by decide) rfl lf_TestJudge_Piece_16 pcH_K (gd DX2_init_0 20 rfl) ?_
    rw [pcH_I, show upd (upd (upd (fun _ => (0 : Int32)) 0 (nI wt)) 1 e) 2 (nI n) 2 = nI n from rfl, show upd (upd (upd (fun _ => (0 : Int32)) 0 (nI wt)) 1 e) 2 (nI n) = pcI wt n e from rfl]
    have i2 : pcI wt n e 2 = nI n := rfl
    by_cases h0 : n = 0
    · subst h0
      refine g_if_ne C 47 (gd DX2_init_0 21 rfl) (by decide) (fun c38 => ?_) (fun c38 => ?_)
      · exact absurd rfl c38
      · refine g_noplaces C rfl (gd DX2_init_0 22 rfl) ?_
        refine g_goto (tgt := 53) C (gd DX2_init_0 23 rfl) (by decide) ?_
        refine g_putr (ci := 2) (k := 3) (ty := .array .int) C rfl (by decide) rfl lf_TestJudge_Piece_25 pcH_K (Or.inr ⟨rfl, rfl, rfl⟩) rfl rfl rfl (gd DX2_init_0 27 rfl) ?_
        rw [pcH_r]
        refine g_aload_n C (gd DX2_init_0 28 rfl) 0 rfl rfl ?_
        refine g_aload_n C (gd DX2_init_0 29 rfl) 0 rfl rfl ?_
        refine g_geti (ci := 2) (k := 2) C rfl (by decide) rfl lf_TestJudge_Piece_16 pcH_K (gd DX2_init_0 30 rfl) ?_
        rw [pcH_I, i2]
        refine g_if_ne C 70 (gd DX2_init_0 31 rfl) (by decide) (fun c61 => ?_) (fun c61 => ?_)
        · exact absurd rfl c61
        · refine g_noplaces C rfl (gd DX2_init_0 32 rfl) ?_
          refine g_goto (tgt := 76) C (gd DX2_init_0 33 rfl) (by decide) ?_
          refine g_putr (ci := 2) (k := 4) (ty := .array .int) C rfl (by decide) rfl lf_TestJudge_Piece_28 pcH_K (Or.inr ⟨rfl, rfl, rfl⟩) rfl rfl rfl (gd DX2_init_0 37 rfl) ?_
          rw [pcH_r]
          refine g_aload_n C (gd DX2_init_0 38 rfl) 0 rfl rfl ?_
          refine g_aload_n C (gd DX2_init_0 39 rfl) 0 rfl rfl ?_
          refine g_geti (ci := 2) (k := 2) C rfl (by decide) rfl lf_TestJudge_Piece_16 pcH_K (gd DX2_init_0 40 rfl) ?_
          rw [pcH_I, i2]
          refine g_if_ne C 93 (gd DX2_init_0 41 rfl) (by decide) (fun c84 => ?_) (fun c84 => ?_)
          · exact absurd rfl c84
          · refine g_noplaces C rfl (gd DX2_init_0 42 rfl) ?_
            refine g_goto (tgt := 99) C (gd DX2_init_0 43 rfl) (by decide) ?_
            refine g_putr (ci := 2) (k := 5) (ty := .array .int) C rfl (by decide) rfl lf_TestJudge_Piece_31 pcH_K (Or.inr ⟨rfl, rfl, rfl⟩) rfl rfl rfl (gd DX2_init_0 47 rfl) ?_
            rw [pcH_r]
            refine g_aload_n C (gd DX2_init_0 48 rfl) 0 rfl rfl ?_
            refine g_aload_n C (gd DX2_init_0 49 rfl) 0 rfl rfl ?_
            refine g_geti (ci := 2) (k := 2) C rfl (by decide) rfl lf_TestJudge_Piece_16 pcH_K (gd DX2_init_0 50 rfl) ?_
            rw [pcH_I, i2]
            refine g_if_ne C 116 (gd DX2_init_0 51 rfl) (by decide) (fun c107 => ?_) (fun c107 => ?_)
            · exact absurd rfl c107
            · refine g_noplaces C rfl (gd DX2_init_0 52 rfl) ?_
              refine g_goto (tgt := 127) C (gd DX2_init_0 53 rfl) (by decide) ?_
              refine g_putr (ci := 2) (k := 6) (ty := .array .int) C rfl (by decide) rfl lf_TestJudge_Piece_34 pcH_K (Or.inr ⟨rfl, rfl, rfl⟩) rfl rfl rfl (gd DX2_init_1 0 rfl) ?_
              rw [pcH_r]
              refine g_vret C (by omega) (by omega) ⟨rfl, ?_⟩ (gd DX2_init_1 1 rfl)
              unfold pcF
              rw [if_pos hn, ha]
              rfl
    · have nn : ¬ nI n = 0 := nI_ne0 (by omega) (by omega)
      have hnn : n * n ≤ 36 := Nat.mul_le_mul hs6 hs6
      have en2 : nI n * nI n = nI (n * n) := nx_mul rfl rfl
      refine g_if_ne C 47 (gd DX2_init_0 21 rfl) (by decide) (fun c38 => ?_) (fun c38 => ?_)
      rotate_left
      · exact absurd c38 nn
      refine g_aload_n C (gd DX2_init_0 24 rfl) 0 rfl rfl ?_
      refine g_geti (ci := 2) (k := 2) C rfl (by decide) rfl lf_TestJudge_Piece_16 pcH_K (gd DX2_init_0 25 rfl) ?_
      rw [pcH_I, i2]
      refine g_newa (atype := .int) (kind := 12) (N := n) C (nI_nn (by omega)) (nI_clamp (by omega)) (by omega) (by omega) (by omega) (by decide) (gd DX2_init_0 26 rfl) ?_
      rw [pcH_T, pcH_n (if_neg (by omega)).symm]
      refine g_putr (ci := 2) (k := 3) (ty := .array .int) C rfl (by decide) rfl lf_TestJudge_Piece_25 pcH_K (Or.inr ⟨rfl, rfl, rfl⟩) rfl rfl rfl (gd DX2_init_0 27 rfl) ?_
      rw [pcH_r]
      refine g_aload_n C (gd DX2_init_0 28 rfl) 0 rfl rfl ?_
      refine g_aload_n C (gd DX2_init_0 29 rfl) 0 rfl rfl ?_
      refine g_geti (ci := 2) (k := 2) C rfl (by decide) rfl lf_TestJudge_Piece_16 pcH_K (gd DX2_init_0 30 rfl) ?_
      rw [pcH_I, i2]
      refine g_if_ne C 70 (gd DX2_init_0 31 rfl) (by decide) (fun c61 => ?_) (fun c61 => ?_)
      rotate_left
      · exact absurd c61 nn
      refine g_aload_n C (gd DX2_init_0 34 rfl) 0 rfl rfl ?_
      refine g_geti (ci := 2) (k := 2) C rfl (by decide) rfl lf_TestJudge_Piece_16 pcH_K (gd DX2_init_0 35 rfl) ?_
      rw [pcH_I, i2]
      refine g_newa (atype := .int) (kind := 12) (N := n) C (nI_nn (by omega)) (nI_clamp (by omega)) (by omega) (by omega) (by omega) (by decide) (gd DX2_init_0 36 rfl) ?_
      rw [pcH_T, pcH_n (if_neg (by omega)).symm]
      refine g_putr (ci := 2) (k := 4) (ty := .array .int) C rfl (by decide) rfl lf_TestJudge_Piece_28 pcH_K (Or.inr ⟨rfl, rfl, rfl⟩) rfl rfl rfl (gd DX2_init_0 37 rfl) ?_
      rw [pcH_r]
      refine g_aload_n C (gd DX2_init_0 38 rfl) 0 rfl rfl ?_
      refine g_aload_n C (gd DX2_init_0 39 rfl) 0 rfl rfl ?_
      refine g_geti (ci := 2) (k := 2) C rfl (by decide) rfl lf_TestJudge_Piece_16 pcH_K (gd DX2_init_0 40 rfl) ?_
      rw [pcH_I, i2]
      refine g_if_ne C 93 (gd DX2_init_0 41 rfl) (by decide) (fun c84 => ?_) (fun c84 => ?_)
      rotate_left
      · exact absurd c84 nn
      refine g_aload_n C (gd DX2_init_0 44 rfl) 0 rfl rfl ?_
      refine g_geti (ci := 2) (k := 2) C rfl (by decide) rfl lf_TestJudge_Piece_16 pcH_K (gd DX2_init_0 45 rfl) ?_
      rw [pcH_I, i2]
      refine g_newa (atype := .int) (kind := 12) (N := n) C (nI_nn (by omega)) (nI_clamp (by omega)) (by omega) (by omega) (by omega) (by decide) (gd DX2_init_0 46 rfl) ?_
      rw [pcH_T, pcH_n (if_neg (by omega)).symm]
      refine g_putr (ci := 2) (k := 5) (ty := .array .int) C rfl (by decide) rfl lf_TestJudge_Piece_31 pcH_K (Or.inr ⟨rfl, rfl, rfl⟩) rfl rfl rfl (gd DX2_init_0 47 rfl) ?_
      rw [pcH_r]
      refine g_aload_n C (gd DX2_init_0 48 rfl) 0 rfl rfl ?_
      refine g_aload_n C (gd DX2_init_0 49 rfl) 0 rfl rfl ?_
      refine g_geti (ci := 2) (k := 2) C rfl (by decide) rfl lf_TestJudge_Piece_16 pcH_K (gd DX2_init_0 50 rfl) ?_
      rw [pcH_I, i2]
      refine g_if_ne C 116 (gd DX2_init_0 51 rfl) (by decide) (fun c107 => ?_) (fun c107 => ?_)
      rotate_left
      · exact absurd c107 nn
      refine g_aload_n C (gd DX2_init_0 54 rfl) 0 rfl rfl ?_
      refine g_geti (ci := 2) (k := 2) C rfl (by decide) rfl lf_TestJudge_Piece_16 pcH_K (gd DX2_init_0 55 rfl) ?_
      rw [pcH_I, i2]
      refine g_aload_n C (gd DX2_init_0 56 rfl) 0 rfl rfl ?_
      refine g_geti (ci := 2) (k := 2) C rfl (by decide) rfl lf_TestJudge_Piece_16 pcH_K (gd DX2_init_0 57 rfl) ?_
      rw [pcH_I, i2]
      refine g_imul C (gd DX2_init_0 58 rfl) ?_
      rw [en2]
      refine g_newa (atype := .int) (kind := 12) (N := n * n) C (nI_nn (by omega)) (nI_clamp (by omega)) (by omega) (by omega) (by omega) (by decide) (gd DX2_init_0 59 rfl) ?_
      rw [pcH_T, pcH_n (if_pos rfl).symm]
      refine g_putr (ci := 2) (k := 6) (ty := .array .int) C rfl (by decide) rfl lf_TestJudge_Piece_34 pcH_K (Or.inr ⟨rfl, rfl, rfl⟩) rfl rfl rfl (gd DX2_init_1 0 rfl) ?_
      rw [pcH_r]
      refine g_vret C (by omega) (by omega) ⟨rfl, ?_⟩ (gd DX2_init_1 1 rfl)
      unfold pcF
      rw [hn, if_neg h0, ha]
      rfl
  have zs : ∀ x, x = szP wt → GW z w 3 (gQ z w 4 54 (fun r' h'' => r' = none ∧ h'' = pcF w.2.2.2 h wt e)) 0 0 30 [(0, .ref a), (1, .int (nI wt)), (2, .int e)] [.int (nI x), .ref a] (pcH h a (upd (upd (fun _ => 0) 0 (nI wt)) 1 e) (fun _ => none) 0 (szP wt)) := fun x hx => by rw [hx]; exact k30
  refine g_aload_n C (gd DX2_init_0 0 rfl) 0 rfl rfl ?_
  refine g_objInit C lm_TestJudge_Piece_1 goi goc (by decide) rfl (gd DX2_init_0 1 rfl) ?_
  refine g_aload_n C (gd DX2_init_0 2 rfl) 0 rfl rfl ?_
  refine g_iload_n C (gd DX2_init_0 3 rfl) 1 rfl rfl ?_
  refine g_puti (ci := 2) (k := 0) C rfl (by decide) rfl lf_TestJudge_Piece_7 pcH_K (Or.inr ⟨rfl, rfl, rfl⟩) rfl (gd DX2_init_0 4 rfl) ?_
  rw [pcH_i]
  refine g_aload_n C (gd DX2_init_0 5 rfl) 0 rfl rfl ?_
  refine g_iload_n C (gd DX2_init_0 6 rfl) 2 rfl rfl ?_
  refine g_puti (ci := 2) (k := 1) C rfl (by decide) rfl lf_TestJudge_Piece_13 pcH_K (Or.inr ⟨rfl, rfl, rfl⟩) rfl (gd DX2_init_0 7 rfl) ?_
  rw [pcH_i]
  refine g_aload_n C (gd DX2_init_0 8 rfl) 0 rfl rfl ?_
  refine g_iload_n C (gd DX2_init_0 9 rfl) 1 rfl rfl ?_
  refine g_if_le C 29 (gd DX2_init_0 10 rfl) (by decide) (fun c16 => ?_) (fun c16 => ?_)
  · refine g_iconst (v := 0) C (gd DX2_init_0 16 rfl) (by decide) ?_
    refine zs 0 ?_
    have : wt = 0 := Nat.eq_zero_of_not_pos (fun q => by have := Int32.le_iff_toInt_le.mp c16; rw [nI_toInt (by omega)] at this; have h0 : (0 : Int32).toInt = 0 := rfl; omega)
    rw [this]; rfl
  · refine g_iload_n C (gd DX2_init_0 11 rfl) 1 rfl rfl ?_
    refine g_bipush (v := 6) C (gd DX2_init_0 12 rfl) (by decide) ?_
    refine g_icmp_gt C 29 (gd DX2_init_0 13 rfl) (by decide) (fun c22 => ?_) (fun c22 => ?_)
    · refine g_iconst (v := 0) C (gd DX2_init_0 16 rfl) (by decide) ?_
      refine zs 0 ?_
      have : 6 < wt := Nat.lt_of_not_le (fun q => Int32.not_lt.mpr (nI_le (b := 6) q (by omega)) c22)
      unfold szP
      rw [if_neg (by omega)]
    · refine g_iload_n C (gd DX2_init_0 14 rfl) 1 rfl rfl ?_
      refine g_goto (tgt := 30) C (gd DX2_init_0 15 rfl) (by decide) ?_
      refine zs wt ?_
      have : wt ≤ 6 := Nat.le_of_not_lt (fun q => c22 (Int32.not_le.mp (nI_ge (a := 6) (b := wt) q (by omega))))
      unfold szP
      rw [if_pos this]
end C28
