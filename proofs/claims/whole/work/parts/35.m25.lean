/-! weakestOf: the atoms from which every end lies within a set -/
theorem or_and_0 (a b x : Int32) : (a ||| b) &&& x = 0 ↔ a &&& x = 0 ∧ b &&& x = 0 := by
  have e : (a ||| b) &&& x = (a &&& x) ||| (b &&& x) := Int32.toBitVec_inj.mp (BitVec.eq_of_getLsbD_eq (fun i _ => by simp only [Int32.toBitVec_and, Int32.toBitVec_or, BitVec.getLsbD_and, BitVec.getLsbD_or, Bool.and_or_distrib_right]))
  rw [e, Int32.or_eq_zero_iff]
theorem fold_and_0 (en : Nat → Int32) (x : Int32) : ∀ (L : List Nat) (a : Int32), L.foldl (fun a t => a ||| en t) a &&& x = 0 ↔ a &&& x = 0 ∧ ∀ t, t ∈ L → en t &&& x = 0 := by
  intro L
  induction L with
  | nil => intro a; exact ⟨fun h => ⟨h, fun t ht => (List.not_mem_nil ht).elim⟩, fun h => h.1⟩
  | cons y L ih =>
    intro a
    rw [List.foldl_cons, ih, or_and_0]
    refine ⟨fun h => ⟨h.1.1, fun t ht => ?_⟩, fun h => ⟨⟨h.1, h.2 y (List.mem_cons.mpr (Or.inl rfl))⟩, fun t ht => h.2 t (List.mem_cons.mpr (Or.inr ht))⟩⟩
    rcases List.mem_cons.mp ht with q | q
    · rw [q]; exact h.1.2
    · exact h.2 t q
theorem hB2_hB2 (m : Nat) (h : HS) (MT LN MT1 LN1 : Nat → Int32) : hB2 m (hB2 m h MT LN) MT1 LN1 = hB2 m h MT1 LN1 := by
  refine Prod.ext (funext fun b => funext fun j => ?_) rfl
  show hI _ b j = hI _ b j
  unfold hB2
  simp only [hI_sF]
  by_cases e1 : b = m + 19
  · simp only [if_pos e1]
  · by_cases e2 : b = m + 25
    · simp only [if_neg e1, if_pos e2]
    · simp only [if_neg e1, if_neg e2]
/-- the bits below n where P holds -/
noncomputable def bitF (P : Nat → Prop) : Nat → Int32
  | 0 => 0
  | n + 1 => bitF P n ||| @ite _ (P n) (Classical.propDecidable _) (1 <<< (nI n &&& 31)) 0
theorem bitF_t {P : Nat → Prop} {n : Nat} (h : P n) : bitF P (n + 1) = bitF P n ||| 1 <<< (nI n &&& 31) := by rw [bitF, if_pos h]
theorem bitF_f {P : Nat → Prop} {n : Nat} (h : ¬ P n) : bitF P (n + 1) = bitF P n ||| 0 := by rw [bitF, if_neg h]
/-- every end behind the atom a lies within the set to -/
def wkP (m : Nat) (h : HS) (N : Nat) (s to : Int32) (a : Nat) : Prop := hasB s (nI a) ∧ (hI h (m + 8) 0 &&& 1 <<< (nI a &&& 31)) &&& (to ^^^ -1) = 0 ∧ ∀ t, t < N → (∃ d, bRc (hI h (m + 7)) (1 <<< (nI a &&& 31)) d t) → hI h (m + 8) t &&& (to ^^^ -1) = 0
theorem atF_n {t : Nat} (ht : t ≤ 3) : atF (nI t) = nI (2 ^ t) := by
  rcases (show t = 0 ∨ t = 1 ∨ t = 2 ∨ t = 3 by omega) with rfl | rfl | rfl | rfl <;> decide
section M25
variable {w : gD} {m : Nat} {h : HS}
theorem e_m_weakestOf (hm : mSh m h) {N te : Nat} (g : GOk m h N) (hN1 : 0 < N) (ht : te ≤ 3) (hte : hI h m 2 = nI te) (s to : Int32) :
    Ev w 2 0 0 yX10_weakestOf cX10_weakestOf 5 (some .int) [.ref m, .int s, .int to] h (fun r' h' => ∃ MT LN, h' = hB2 m h MT LN ∧ r' = some (.int (bitF (wkP m h N s to) (2 ^ te)))) := by
  refine g_start (by decide) (Nat.le_of_ble_eq_true rfl) [(0, _), (1, _), (2, _)] rfl (fun z hfl C => ?_)
  have hp8 : 2 ^ te ≤ 8 := by rcases (show te = 0 ∨ te = 1 ∨ te = 2 ∨ te = 3 by omega) with rfl | rfl | rfl | rfl <;> decide
  have gk : ∀ MT LN, GOk m (hB2 m h MT LN) N := fun MT LN => g.congr (by rw [hB2_ne (by omega) (by omega)]) (hB2_ne (by omega) (by omega))
  have at2 : ∀ MT LN, atF (hI (hB2 m h MT LN) m 2) = nI (2 ^ te) := fun MT LN => by rw [hB2_ne (by omega) (by omega), hte, atF_n ht]
  have loop : ∀ n a MT LN, a + n = 2 ^ te → GW z w 5 (gQ z w 0 0 (fun r' h'' => ∃ MT LN, h'' = hB2 m h MT LN ∧ r' = some (.int (bitF (wkP m h N s to) (2 ^ te))))) 0 0 5 [(0, .ref m), (1, .int s), (2, .int to), (3, .int (bitF (wkP m h N s to) a)), (4, .int (nI a))] [] (hB2 m h MT LN) := by
    intro n
    induction n with
    | zero =>
      intro a MT LN ha
      refine g_iload C (gd DX10_weakestOf_0 4 rfl) 4 rfl ?_
      refine g_aload_n C (gd DX10_weakestOf_0 5 rfl) 0 rfl rfl ?_
      refine g_cV1 (ci := 10) C [] mX10_atoms lm_TestJudgeModel_352 (by exact hm.1) rfl rfl (e_m_atoms (h := hB2 m h MT LN) (by exact hm)) hfl (by decide) (by decide) (by omega) (by omega) rfl rfl (Nat.le_of_ble_eq_true rfl) (gd DX10_weakestOf_0 6 rfl) ?_
      rw [at2]
      refine g_icmp_ge C 55 (gd DX10_weakestOf_0 7 rfl) (by decide) (fun c11 => ?_) (fun c11 => ?_)
      · rw [show a = 2 ^ te by omega]
        refine g_iload_n C (gd DX10_weakestOf_0 32 rfl) 3 rfl rfl ?_
        exact g_iret C (by omega) (by omega) ⟨MT, LN, rfl, rfl⟩ (gd DX10_weakestOf_0 33 rfl)
      · exact absurd (nI_le (a := 2 ^ te) (b := a) (by omega) (by omega)) c11
    | succ n ih =>
      intro a MT LN ha
      have fin : ∀ MT LN v, bitF (wkP m h N s to) a ||| v = bitF (wkP m h N s to) (a + 1) → GW z w 5 (gQ z w 0 0 (fun r' h'' => ∃ MT LN, h'' = hB2 m h MT LN ∧ r' = some (.int (bitF (wkP m h N s to) (2 ^ te))))) 0 0 47 [(0, .ref m), (1, .int s), (2, .int to), (3, .int (bitF (wkP m h N s to) a)), (4, .int (nI a))] [.int v, .int (bitF (wkP m h N s to) a)] (hB2 m h MT LN) := by
        intro MT LN v hv
        refine g_ior C (gd DX10_weakestOf_0 28 rfl) ?_
        refine g_istore_n (lv' := [(0, _), (1, _), (2, _), (3, _), (4, _)]) C (gd DX10_weakestOf_0 29 rfl) [1, 2, 3, 0, 4] rfl (by decide) rfl ?_
        refine g_iinc (lv' := [(0, _), (1, _), (2, _), (3, _), (4, _)]) C (gd DX10_weakestOf_0 30 rfl) 4 [1, 2, 3, 4, 0] rfl rfl (by decide) rfl ?_
        refine g_goto (tgt := 5) C (gd DX10_weakestOf_0 31 rfl) (by decide) ?_
        exact GW.cast (by rw [inc1, hv]) rfl rfl (ih (a + 1) MT LN (by omega))
      refine g_iload C (gd DX10_weakestOf_0 4 rfl) 4 rfl ?_
      refine g_aload_n C (gd DX10_weakestOf_0 5 rfl) 0 rfl rfl ?_
      refine g_cV1 (ci := 10) C [] mX10_atoms lm_TestJudgeModel_352 (by exact hm.1) rfl rfl (e_m_atoms (h := hB2 m h MT LN) (by exact hm)) hfl (by decide) (by decide) (by omega) (by omega) rfl rfl (Nat.le_of_ble_eq_true rfl) (gd DX10_weakestOf_0 6 rfl) ?_
      rw [at2]
      refine g_icmp_ge C 55 (gd DX10_weakestOf_0 7 rfl) (by decide) (fun c11 => ?_) (fun c11 => ?_)
      · exact absurd c11 (nI_ge (a := a) (b := 2 ^ te) (by omega) (by omega))
      · refine g_iload_n C (gd DX10_weakestOf_0 8 rfl) 3 rfl rfl ?_
        refine g_iload_n C (gd DX10_weakestOf_0 9 rfl) 1 rfl rfl ?_
        refine g_iload C (gd DX10_weakestOf_0 10 rfl) 4 rfl ?_
        refine g_cS1 C [_, _] mX10_has lm_TestJudgeModel_144 (e_m_has _ _) hfl (by decide) (by decide) (by omega) (by omega) rfl rfl (Nat.le_of_ble_eq_true rfl) (gd DX10_weakestOf_0 11 rfl) ?_
        by_cases hb : hasB s (nI a)
        · rw [b1_t (show s >>> (nI a &&& 31) &&& 1 = 1 from hb)]
          refine g_if_eq C 46 (gd DX10_weakestOf_0 12 rfl) (by decide) (fun c21 => ?_) (fun c21 => ?_)
          · exact absurd c21 (by decide)
          · refine g_aload_n C (gd DX10_weakestOf_0 13 rfl) 0 rfl rfl ?_
            refine g_iconst (v := 1) C (gd DX10_weakestOf_0 14 rfl) (by decide) ?_
            refine g_iload C (gd DX10_weakestOf_0 15 rfl) 4 rfl ?_
            refine g_ishl C (gd DX10_weakestOf_0 16 rfl) ?_
            refine g_callV (ci := 10) C [_] mX10_behind lm_TestJudgeModel_481 (by exact hm.1) rfl rfl (e_m_behind (h := hB2 m h MT LN) (by exact hm) (gk MT LN) hN1 (1 <<< (nI a &&& 31))) hfl (by decide) (by decide) (by omega) (by omega) rfl rfl (Nat.le_of_ble_eq_true rfl) (gd DX10_weakestOf_0 17 rfl) (fun r h2 hp => ?_)
            obtain ⟨MT', LN', L, rfl, hL, rfl⟩ := hp
            rw [hB2_hB2, hB2_ne (by omega) (by omega)]
            rw [hB2_ne (by omega) (by omega)] at hL
            show GW z w 5 _ 0 0 _ _ [.int _, .int _] _
            refine g_iload_n C (gd DX10_weakestOf_0 18 rfl) 2 rfl rfl ?_
            refine g_iconst (v := -1) C (gd DX10_weakestOf_0 19 rfl) (by decide) ?_
            refine g_ixor C (gd DX10_weakestOf_0 20 rfl) ?_
            refine g_iand C (gd DX10_weakestOf_0 21 rfl) ?_
            refine g_if_ne C 46 (gd DX10_weakestOf_0 22 rfl) (by decide) (fun c36 => ?_) (fun c36 => ?_)
            · refine g_iconst (v := 0) C (gd DX10_weakestOf_0 27 rfl) (by decide) ?_
              refine fin MT' LN' 0 (bitF_f (fun q => c36 ((fold_and_0 (hI h (m + 8)) _ L _).mpr ⟨q.2.1, fun t ht => q.2.2 t ((hL t).mp ht).1 ((hL t).mp ht).2⟩))).symm
            · refine g_iconst (v := 1) C (gd DX10_weakestOf_0 23 rfl) (by decide) ?_
              refine g_iload C (gd DX10_weakestOf_0 24 rfl) 4 rfl ?_
              refine g_ishl C (gd DX10_weakestOf_0 25 rfl) ?_
              refine g_goto (tgt := 47) C (gd DX10_weakestOf_0 26 rfl) (by decide) ?_
              have q := (fold_and_0 (hI h (m + 8)) _ L _).mp c36
              exact fin MT' LN' _ (bitF_t ⟨hb, q.1, fun t ht hd => q.2 t ((hL t).mpr ⟨ht, hd⟩)⟩).symm
        · rw [b1_f (show ¬ s >>> (nI a &&& 31) &&& 1 = 1 from hb)]
          refine g_if_eq C 46 (gd DX10_weakestOf_0 12 rfl) (by decide) (fun c21 => ?_) (fun c21 => ?_)
          · refine g_iconst (v := 0) C (gd DX10_weakestOf_0 27 rfl) (by decide) ?_
            exact fin MT LN 0 (bitF_f (fun q => hb q.1)).symm
          · exact absurd rfl c21
  refine g_iconst (v := 0) C (gd DX10_weakestOf_0 0 rfl) (by decide) ?_
  refine g_istore_n (lv' := [(0, _), (1, _), (2, _), (3, _)]) C (gd DX10_weakestOf_0 1 rfl) [1, 2, 3, 0] rfl (by decide) rfl ?_
  refine g_iconst (v := 0) C (gd DX10_weakestOf_0 2 rfl) (by decide) ?_
  refine g_istore (lv' := [(0, _), (1, _), (2, _), (3, _), (4, _)]) C (gd DX10_weakestOf_0 3 rfl) [1, 2, 3, 4, 0] (by decide) rfl ?_
  exact GW.cast rfl rfl (by rw [hB2_self]) (loop (2 ^ te) 0 (hI h (m + 25)) (hI h (m + 19)) (by omega))
end M25
