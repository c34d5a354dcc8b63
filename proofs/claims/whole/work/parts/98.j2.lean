/-! indexOf; the reference's own -/
theorem wb_tb (n : Nat) : (lN n).toBitVec = BitVec.ofNat 64 n := rfl
theorem wb_inj {a b : Int64} (h : a.toBitVec = b.toBitVec) : a = b := Int64.toBitVec_inj.mp h
theorem wb_c : ∀ k, k < 64 → ((nI k).toInt64 &&& 63) = lN k := by decide +kernel
theorem wb_sm : ∀ k, k < 64 → (BitVec.ofNat 64 k).smod 64 = BitVec.ofNat 64 k := by decide +kernel
theorem wb_shl (n : Nat) {k : Nat} (hk : k < 64) : lN n <<< ((nI k).toInt64 &&& 63) = lN (n * 2 ^ k) := by
  rw [wb_c k hk]
  apply wb_inj
  rw [Int64.toBitVec_shiftLeft, wb_tb, wb_tb, wb_tb, wb_sm k hk]
  apply BitVec.eq_of_toNat_eq
  rw [BitVec.shiftLeft_eq', BitVec.toNat_shiftLeft, BitVec.toNat_ofNat, BitVec.toNat_ofNat, BitVec.toNat_ofNat, Nat.mod_eq_of_lt (show k < 2 ^ 64 by omega), Nat.shiftLeft_eq, Nat.mul_mod, Nat.mod_mod, ← Nat.mul_mod]
theorem ltr_l : ∀ t, t < 256 → isL t → (nI t).toInt64 - 96 = lN (t - 96) := by decide +kernel
theorem sh5L {a t : Nat} (ha : a < 2 ^ 25) (ht : isL t) : lN a <<< ((5 : Int32).toInt64 &&& 63) ||| ((nI t).toInt64 - 96) = lN (32 * a + (t - 96)) := by
  rw [ltr_l t (by omega) ht, show ((5 : Int32).toInt64 &&& 63) = ((nI 5).toInt64 &&& 63) from rfl, wb_shl a (by omega), fb_orL, show a * 2 ^ 5 = 2 ^ 5 * a by omega, ← Nat.two_pow_add_eq_or_of_lt (by omega : t - 96 < 2 ^ 5)]
theorem lcmp_0 {x y : Int64} : lg_cmp x y = 0 ↔ x = y := by
  unfold lg_cmp
  by_cases h1 : x > y
  · rw [if_pos h1]
    exact ⟨fun q => absurd q (by decide), fun q => by subst q; exact absurd h1 (fun q => Int64.lt_irrefl q)⟩
  · rw [if_neg h1]
    by_cases h2 : x = y
    · rw [if_pos h2]; exact ⟨fun _ => h2, fun _ => rfl⟩
    · rw [if_neg h2]; exact ⟨fun q => absurd q (by decide), fun q => absurd q h2⟩
section J3a
variable {z : gZ} {w : gD} {d MC MS n : Nat} {y : MethodName} {cc : ByteArray} {ret : Option FieldType} {Q : State → Prop} {cn sn pc : Nat} {lv lv' : List (Nat × Value)} {rest : List Value} {h : HS}
theorem g_min (C : GC z w d MC MS y cc n ret) {index : Nat} (hl : Cond.methodLink y.cls index yJ9_min_7cf53 ∈ gtb) (hdd : 1 ≤ d) (h1 : cn ≤ MC) (h2 : sn ≤ MS) {x x2 : Int32} (hrm : (rest.map fun v => v.category).sum ≤ 8) (hd : decode cc pc = .ok (.invokestatic index, 3)) (kk : GW z w n Q cn sn (pc + 3) lv (.int (if x2 < x then x2 else x) :: rest) h) : GW z w n Q cn sn pc lv (.int x2 :: .int x :: rest) h := by
  intro H locs ls hR0 hL hlv
  have hT := C.2.2.2.2.1
  have hfr := C.2.2.2.2.2.2.2.2.2.1
  have hlo := C.2.2.2.2.2.2.2.2.2.2.1
  have hce := C.2.2.2.2.2.2.2.2.2.2.2.1
  have hsl := C.2.2.2.2.2.2.2.2.2.2.2.2
  exact va_mmin C.1 C.2.1 (by rw [C.2.2.1]; first | exact hlv.1 | exact hlv.1.symm) C.2.2.2.1 (hT _ hl) (hT _ mJ9_min_7cf53.1) (hT _ mJ9_min_7cf53.2.1) (hT _ mJ9_min_7cf53.2.2.1) (by omega) (by omega) (by rw [hce]; exact h1) (by rw [hsl]; exact h2) hd (kk H locs ls hR0 hL hlv)
end J3a
section J3
variable {w : gD} {h : HS} {q v : Nat} {b : List Int32}
theorem e_j_indexOfChar (sc : stC w q v b) (c : Int32) (hN : b.length < 2 ^ 31) : Ev w 0 0 0 yJ1_indexOfChar_4cfef cJ1_indexOfChar_4cfef 6 (some .int) [.ref v, .int c, .int 0, .int (nI b.length)] h (fun r' h' => h' = h ∧ ((∃ i, i < b.length ∧ r' = some (.int (nI i)) ∧ b.getD i 0 = c.toInt8.toInt32) ∨ (r' = some (.int (-1)) ∧ ∀ i, i < b.length → b.getD i 0 ≠ c.toInt8.toInt32))) := by
  refine g_start (by decide) (Nat.le_of_ble_eq_true rfl) [(0, _), (1, _), (2, _), (3, _)] rfl (fun z hfl C => ?_)
  have loop : ∀ y i, i + y = b.length → (∀ j, j < i → b.getD j 0 ≠ c.toInt8.toInt32) → GW z w 6 (gQ z w 0 0 (fun r' h'' => h'' = h ∧ ((∃ i, i < b.length ∧ r' = some (.int (nI i)) ∧ b.getD i 0 = c.toInt8.toInt32) ∨ (r' = some (.int (-1)) ∧ ∀ i, i < b.length → b.getD i 0 ≠ c.toInt8.toInt32)))) 0 0 7 [(0, .ref v), (1, .int c), (2, .int 0), (3, .int (nI b.length)), (4, .int c.toInt8.toInt32), (5, .int (nI i))] [] h := by
    intro y
    induction y with
    | zero =>
      intro i hi hn
      have ei : i = b.length := hi
      subst ei
      refine g_iload C (gd DJ1_indexOfChar_4cfef_0 5 rfl) 5 rfl ?_
      refine g_iload_n C (gd DJ1_indexOfChar_4cfef_0 6 rfl) 3 rfl rfl ?_
      refine g_icmp_ge C 31 (gd DJ1_indexOfChar_4cfef_0 7 rfl) (by decide) (fun c10 => ?_) (fun c10 => ?_)
      · refine g_iconst (v := -1) C (gd DJ1_indexOfChar_4cfef_0 17 rfl) (by decide) ?_
        exact g_iret C (by omega) (by omega) ⟨rfl, Or.inr ⟨rfl, hn⟩⟩ (gd DJ1_indexOfChar_4cfef_0 18 rfl)
      · exact absurd (nI_le (Nat.le_refl _) hN) c10
    | succ y ih =>
      intro i hi hn
      refine g_iload C (gd DJ1_indexOfChar_4cfef_0 5 rfl) 5 rfl ?_
      refine g_iload_n C (gd DJ1_indexOfChar_4cfef_0 6 rfl) 3 rfl rfl ?_
      refine g_icmp_ge C 31 (gd DJ1_indexOfChar_4cfef_0 7 rfl) (by decide) (fun c10 => ?_) (fun c10 => ?_)
      · exact absurd c10 (nI_ge (by omega) hN)
      · refine g_aload_n C (gd DJ1_indexOfChar_4cfef_0 8 rfl) 0 rfl rfl ?_
        refine g_iload C (gd DJ1_indexOfChar_4cfef_0 9 rfl) 5 rfl ?_
        refine g_strB C (b := fun j => b.getD j 0) sc.2.2.2 hN (by omega) (gd DJ1_indexOfChar_4cfef_0 10 rfl) ?_
        refine g_iload C (gd DJ1_indexOfChar_4cfef_0 11 rfl) 4 rfl ?_
        refine g_icmp_ne C 25 (gd DJ1_indexOfChar_4cfef_0 12 rfl) (by decide) (fun c19 => ?_) (fun c19 => ?_)
        · refine g_iinc (lv' := [(0, _), (1, _), (2, _), (3, _), (4, _), (5, _)]) C (gd DJ1_indexOfChar_4cfef_0 15 rfl) 5 [1, 2, 3, 4, 5, 0] rfl rfl (by decide) rfl ?_
          refine g_goto (tgt := 7) C (gd DJ1_indexOfChar_4cfef_0 16 rfl) (by decide) ?_
          refine GW.cast (by rw [inc1]) rfl rfl (ih (i + 1) (by omega) (fun j hj => ?_))
          by_cases e : j = i
          · rw [e]; exact c19
          · exact hn j (by omega)
        · refine g_iload C (gd DJ1_indexOfChar_4cfef_0 13 rfl) 5 rfl ?_
          exact g_iret C (by omega) (by omega) ⟨rfl, Or.inl ⟨i, by omega, rfl, c19⟩⟩ (gd DJ1_indexOfChar_4cfef_0 14 rfl)
  refine g_iload_n C (gd DJ1_indexOfChar_4cfef_0 0 rfl) 1 rfl rfl ?_
  refine g_i2b C (gd DJ1_indexOfChar_4cfef_0 1 rfl) ?_
  refine g_istore (lv' := [(0, _), (1, _), (2, _), (3, _), (4, _)]) C (gd DJ1_indexOfChar_4cfef_0 2 rfl) [1, 2, 3, 4, 0] (by decide) rfl ?_
  refine g_iload_n C (gd DJ1_indexOfChar_4cfef_0 3 rfl) 2 rfl rfl ?_
  refine g_istore (lv' := [(0, _), (1, _), (2, _), (3, _), (4, _), (5, _)]) C (gd DJ1_indexOfChar_4cfef_0 4 rfl) [1, 2, 3, 4, 5, 0] (by decide) rfl ?_
  exact loop b.length 0 (by omega) (fun j hj => by omega)
theorem e_j_indexOf1 (sc : stC w q v b) {t : Nat} (ht : t < 256) (h0 : 0 < b.length) (hN : b.length < 2 ^ 31) : Ev w 1 0 0 yJ1_indexOf_4cfef cJ1_indexOf_4cfef 4 (some .int) [.ref v, .int (nI t), .int 0, .int (nI b.length)] h (fun r' h' => h' = h ∧ ((∃ i, i < b.length ∧ r' = some (.int (nI i)) ∧ b.getD i 0 = (nI t).toInt8.toInt32) ∨ (r' = some (.int (-1)) ∧ ∀ i, i < b.length → b.getD i 0 ≠ (nI t).toInt8.toInt32))) := by
  refine g_start (by decide) (Nat.le_of_ble_eq_true rfl) [(0, _), (1, _), (2, _), (3, _)] rfl (fun z hfl C => ?_)
  refine g_iload_n C (gd DJ1_indexOf_4cfef_0 0 rfl) 1 rfl rfl ?_
  refine g_cS1 C [_] mJ1_canEncode_9a6ad lm_java_lang_StringLatin1_88 (e_j_canEncode ht) hfl (by decide) (by decide) (by omega) (by omega) rfl rfl (Nat.le_of_ble_eq_true rfl) (gd DJ1_indexOf_4cfef_0 1 rfl) ?_
  refine g_if_ne C 9 (gd DJ1_indexOf_4cfef_0 2 rfl) (by decide) (fun c4 => ?_) (fun c4 => ?_)
  · refine g_iload_n C (gd DJ1_indexOf_4cfef_0 5 rfl) 2 rfl rfl ?_
    refine g_iconst (v := 0) C (gd DJ1_indexOf_4cfef_0 6 rfl) (by decide) ?_
    refine g_max C lm_java_lang_StringLatin1_92 (by omega) (by omega) (by omega) (Nat.le_of_ble_eq_true rfl) (gd DJ1_indexOf_4cfef_0 7 rfl) ?_
    rw [show (if (0 : Int32) < 0 then (0 : Int32) else 0) = 0 from rfl]
    refine g_istore_n (lv' := [(0, _), (1, _), (2, _), (3, _)]) C (gd DJ1_indexOf_4cfef_0 8 rfl) [1, 2, 0, 3] rfl (by decide) rfl ?_
    refine g_iload_n C (gd DJ1_indexOf_4cfef_0 9 rfl) 3 rfl rfl ?_
    refine g_aload_n C (gd DJ1_indexOf_4cfef_0 10 rfl) 0 rfl rfl ?_
    refine g_strL C sc.2.2.2 (gd DJ1_indexOf_4cfef_0 11 rfl) ?_
    refine g_min C lm_java_lang_StringLatin1_38 (by omega) (by omega) (by omega) (Nat.le_of_ble_eq_true rfl) (gd DJ1_indexOf_4cfef_0 12 rfl) ?_
    rw [show (if nI b.length < nI b.length then nI b.length else nI b.length) = nI b.length by split <;> rfl]
    refine g_istore_n (lv' := [(0, _), (1, _), (2, _), (3, _)]) C (gd DJ1_indexOf_4cfef_0 13 rfl) [1, 2, 3, 0] rfl (by decide) rfl ?_
    refine g_iload_n C (gd DJ1_indexOf_4cfef_0 14 rfl) 2 rfl rfl ?_
    refine g_iload_n C (gd DJ1_indexOf_4cfef_0 15 rfl) 3 rfl rfl ?_
    refine g_icmp_lt C 29 (gd DJ1_indexOf_4cfef_0 16 rfl) (by decide) (fun c24 => ?_) (fun c24 => ?_)
    · refine g_aload_n C (gd DJ1_indexOf_4cfef_0 19 rfl) 0 rfl rfl ?_
      refine g_iload_n C (gd DJ1_indexOf_4cfef_0 20 rfl) 1 rfl rfl ?_
      refine g_iload_n C (gd DJ1_indexOf_4cfef_0 21 rfl) 2 rfl rfl ?_
      refine g_iload_n C (gd DJ1_indexOf_4cfef_0 22 rfl) 3 rfl rfl ?_
      refine g_callS C [_, _, _, _] mJ1_indexOfChar_4cfef lm_java_lang_StringLatin1_95 (e_j_indexOfChar sc (nI t) hN) hfl (by decide) (by decide) (by omega) (by omega) rfl rfl (Nat.le_of_ble_eq_true rfl) (gd DJ1_indexOf_4cfef_0 23 rfl) (fun r h2 hp => ?_)
      obtain ⟨rfl, ⟨i, i1, rfl, i2⟩ | ⟨rfl, i1⟩⟩ := hp
      · exact g_iret C (by omega) (by omega) ⟨rfl, Or.inl ⟨i, i1, rfl, i2⟩⟩ (gd DJ1_indexOf_4cfef_0 24 rfl)
      · exact g_iret C (by omega) (by omega) ⟨rfl, Or.inr ⟨rfl, i1⟩⟩ (gd DJ1_indexOf_4cfef_0 24 rfl)
    · exact absurd (nI_lt (a := 0) h0 hN) c24
  · exact absurd c4 (by decide)
theorem e_j_indexOf2 (si : gSI w) (sc : stC w q v b) {t : Nat} (ht : t < 256) (h0 : 0 < b.length) (hN : b.length < 2 ^ 31) : Ev w 2 0 0 yJ0_indexOf_7cf53 cJ0_indexOf_7cf53 3 (some .int) [.ref q, .int (nI t), .int 0] h (fun r' h' => h' = h ∧ ((∃ i, i < b.length ∧ r' = some (.int (nI i)) ∧ b.getD i 0 = (nI t).toInt8.toInt32) ∨ (r' = some (.int (-1)) ∧ ∀ i, i < b.length → b.getD i 0 ≠ (nI t).toInt8.toInt32))) := by
  refine g_start (by decide) (Nat.le_of_ble_eq_true rfl) [(0, _), (1, _), (2, _)] rfl (fun z hfl C => ?_)
  refine g_aload_n C (gd DJ0_indexOf_7cf53_0 0 rfl) 0 rfl rfl ?_
  refine g_cVs C [] mJ0_isLatin1_aae02 lm_java_lang_String_492 sc.1 (e_j_isLatin1 si sc) hfl (by decide) (by decide) (by omega) (by omega) rfl rfl (Nat.le_of_ble_eq_true rfl) (gd DJ0_indexOf_7cf53_0 1 rfl) (fun r h2 hp => ?_)
  obtain ⟨rfl, rfl⟩ := hp
  show GW z w 3 _ 0 0 _ _ [.int 1] _
  refine g_if_eq C 23 (gd DJ0_indexOf_7cf53_0 2 rfl) (by decide) (fun c4 => ?_) (fun c4 => ?_)
  · exact absurd c4 (by decide)
  · refine g_aload_n C (gd DJ0_indexOf_7cf53_0 3 rfl) 0 rfl rfl ?_
    refine g_strF C sc.2.2.1 lf_java_lang_String_9 (gd DJ0_indexOf_7cf53_0 4 rfl) ?_
    refine g_iload_n C (gd DJ0_indexOf_7cf53_0 5 rfl) 1 rfl rfl ?_
    refine g_iload_n C (gd DJ0_indexOf_7cf53_0 6 rfl) 2 rfl rfl ?_
    refine g_aload_n C (gd DJ0_indexOf_7cf53_0 7 rfl) 0 rfl rfl ?_
    refine g_cVs C [] mJ0_length_8abf5 lm_java_lang_String_505 sc.1 (e_j_length si sc) hfl (by decide) (by decide) (by omega) (by omega) rfl rfl (Nat.le_of_ble_eq_true rfl) (gd DJ0_indexOf_7cf53_0 8 rfl) (fun r h2 hp => ?_)
    obtain ⟨rfl, rfl⟩ := hp
    show GW z w 3 _ 0 0 _ _ [.int (nI b.length), .int 0, .int (nI t), .ref v] _
    refine g_callS C [_, _, _, _] mJ1_indexOf_4cfef lm_java_lang_String_637 (e_j_indexOf1 sc ht h0 hN) hfl (by decide) (by decide) (by omega) (by omega) rfl rfl (Nat.le_of_ble_eq_true rfl) (gd DJ0_indexOf_7cf53_0 9 rfl) (fun r h2 hp => ?_)
    obtain ⟨rfl, ⟨i, i1, rfl, i2⟩ | ⟨rfl, i1⟩⟩ := hp
    · refine g_goto (tgt := 36) C (gd DJ0_indexOf_7cf53_0 10 rfl) (by decide) ?_
      exact g_iret C (by omega) (by omega) ⟨rfl, Or.inl ⟨i, i1, rfl, i2⟩⟩ (gd DJ0_indexOf_7cf53_0 18 rfl)
    · refine g_goto (tgt := 36) C (gd DJ0_indexOf_7cf53_0 10 rfl) (by decide) ?_
      exact g_iret C (by omega) (by omega) ⟨rfl, Or.inr ⟨rfl, i1⟩⟩ (gd DJ0_indexOf_7cf53_0 18 rfl)
theorem e_j_indexOf (si : gSI w) (sc : stC w q v b) {t : Nat} (ht : t < 256) (h0 : 0 < b.length) (hN : b.length < 2 ^ 31) : Ev w 3 0 0 yJ0_indexOf_0f7a4 cJ0_indexOf_0f7a4 2 (some .int) [.ref q, .int (nI t)] h (fun r' h' => h' = h ∧ ((∃ i, i < b.length ∧ r' = some (.int (nI i)) ∧ b.getD i 0 = (nI t).toInt8.toInt32) ∨ (r' = some (.int (-1)) ∧ ∀ i, i < b.length → b.getD i 0 ≠ (nI t).toInt8.toInt32))) := by
  refine g_start (by decide) (Nat.le_of_ble_eq_true rfl) [(0, _), (1, _)] rfl (fun z hfl C => ?_)
  refine g_aload_n C (gd DJ0_indexOf_0f7a4_0 0 rfl) 0 rfl rfl ?_
  refine g_iload_n C (gd DJ0_indexOf_0f7a4_0 1 rfl) 1 rfl rfl ?_
  refine g_iconst (v := 0) C (gd DJ0_indexOf_0f7a4_0 2 rfl) (by decide) ?_
  refine g_cVs C [_, _] mJ0_indexOf_7cf53 lm_java_lang_String_633 sc.1 (e_j_indexOf2 si sc ht h0 hN) hfl (by decide) (by decide) (by omega) (by omega) rfl rfl (Nat.le_of_ble_eq_true rfl) (gd DJ0_indexOf_0f7a4_0 3 rfl) (fun r h2 hp => ?_)
  obtain ⟨rfl, ⟨i, i1, rfl, i2⟩ | ⟨rfl, i1⟩⟩ := hp
  · exact g_iret C (by omega) (by omega) ⟨rfl, Or.inl ⟨i, i1, rfl, i2⟩⟩ (gd DJ0_indexOf_0f7a4_0 4 rfl)
  · exact g_iret C (by omega) (by omega) ⟨rfl, Or.inr ⟨rfl, i1⟩⟩ (gd DJ0_indexOf_0f7a4_0 4 rfl)
end J3
/-- the signs of the reference are those of the tokens -/
theorem sg_mem : ∀ t, t < 256 → (t ∈ sgL ↔ ∃ i, i < 9 ∧ (gByt.getD 1 []).getD i 0 = (nI t).toInt8.toInt32) := by decide +kernel
/-- the words of the reference, letter by letter -/
def cW (i : Nat) : Nat := ((gByt.getD 0 []).getD i 0).toNatClampNeg
def ownK : Nat → Nat × Nat
  | 0 => (0, 0)
  | i + 1 => if cW i = 32 then ((ownK i).1 + 1, 0) else ((ownK i).1, 32 * (ownK i).2 + (cW i - 96))
theorem cW_ch : ∀ i, i < 46 → (((gByt.getD 0 []).getD i 0 &&& 255).toUInt32 % 65536).toInt32 = nI (cW i) ∧ (cW i = 32 ∨ isL (cW i) ∧ (ownK i).2 < 2 ^ 25) := by decide +kernel
theorem ownK_fx : ∀ i, i < 46 → (ownK i).2 < 2 ^ 30 ∧ (ownK i).1 ≤ 10 ∧ (cW i = 32 → (ownK i).1 < 10 ∧ fxL.getD (ownK i).1 0 = (ownK i).2) := by decide +kernel
theorem fx_mem : ∀ W, W ∈ fxL → ∃ k, k < 10 ∧ fxL.getD k 0 = W := by decide
theorem ownK_46 : ownK 46 = (10, 0) := by decide +kernel
section J4
variable {w : gD} {m : Nat} {h : HS}
theorem e_m_own (si : gSI w) (hm : mSh m h) {W : Nat} (hW : W < 2 ^ 31) (hw : hL h m 27 = lN W) : Ev w 4 0 0 yX10_own cX10_own 6 (some .int) [.ref m] h (fun r' h' => h' = h ∧ ((∃ i, i < 10 ∧ r' = some (.int (nI i)) ∧ fxL.getD i 0 = W) ∨ (r' = some (.int (-1)) ∧ ¬ W ∈ fxL))) := by
  refine g_start (by decide) (Nat.le_of_ble_eq_true rfl) [(0, _)] rfl (fun z hfl C => ?_)
  obtain ⟨qa, va, hZ, sc⟩ := si.s0
  have loop : ∀ y i, i + y = 46 → (∀ k, k < (ownK i).1 → fxL.getD k 0 ≠ W) → GW z w 6 (gQ z w 0 0 (fun r' h'' => h'' = h ∧ ((∃ i, i < 10 ∧ r' = some (.int (nI i)) ∧ fxL.getD i 0 = W) ∨ (r' = some (.int (-1)) ∧ ¬ W ∈ fxL)))) 0 0 7 [(0, .ref m), (1, .int (nI (ownK i).1)), (2, .long (lN (ownK i).2)), (4, .int (nI i))] [] h := by
    intro y
    induction y with
    | zero =>
      intro i hi hn
      have ei : i = 46 := hi
      subst ei
      refine g_iload C (gd DX10_own_0 6 rfl) 3 rfl ?_
      refine g_strC C hZ (gd DX10_own_0 7 rfl) ?_
      refine g_cVs C [] mJ0_length_8abf5 lm_TestJudgeModel_202 sc.1 (e_j_length si sc) hfl (by decide) (by decide) (by omega) (by omega) rfl rfl (Nat.le_of_ble_eq_true rfl) (gd DX10_own_0 8 rfl) (fun r h2 hp => ?_)
      obtain ⟨rfl, rfl⟩ := hp
      show GW z w 6 _ 0 0 _ _ [.int (nI 46), .int (nI 46)] _
      refine g_icmp_ge C 70 (gd DX10_own_0 9 rfl) (by decide) (fun c14 => ?_) (fun c14 => ?_)
      · refine g_iconst (v := -1) C (gd DX10_own_0 39 rfl) (by decide) ?_
        exact g_iret C (by omega) (by omega) ⟨rfl, Or.inr ⟨rfl, fun q => by obtain ⟨k, k1, k2⟩ := fx_mem W q; exact hn k (by rw [ownK_46]; exact k1) k2⟩⟩ (gd DX10_own_0 40 rfl)
      · exact absurd (nI_le (Nat.le_refl _) (by omega)) c14
    | succ y ih =>
      intro i hi hn
      obtain ⟨ec, hc⟩ := cW_ch i (by omega)
      obtain ⟨o1, o2, o3⟩ := ownK_fx i (by omega)
      refine g_iload C (gd DX10_own_0 6 rfl) 3 rfl ?_
      refine g_strC C hZ (gd DX10_own_0 7 rfl) ?_
      refine g_cVs C [] mJ0_length_8abf5 lm_TestJudgeModel_202 sc.1 (e_j_length si sc) hfl (by decide) (by decide) (by omega) (by omega) rfl rfl (Nat.le_of_ble_eq_true rfl) (gd DX10_own_0 8 rfl) (fun r h2 hp => ?_)
      obtain ⟨rfl, rfl⟩ := hp
      show GW z w 6 _ 0 0 _ _ [.int (nI 46), .int (nI i)] _
      refine g_icmp_ge C 70 (gd DX10_own_0 9 rfl) (by decide) (fun c14 => ?_) (fun c14 => ?_)
      · exact absurd c14 (nI_ge (by omega) (by omega))
      · refine g_strC C hZ (gd DX10_own_0 10 rfl) ?_
        refine g_iload C (gd DX10_own_0 11 rfl) 3 rfl ?_
        refine g_cVs C [_] mJ0_charAt_5068e lm_TestJudgeModel_205 sc.1 (e_j_charAt si sc (k := i) (show i < 46 by omega) (show 46 < 2 ^ 31 by omega)) hfl (by decide) (by decide) (by omega) (by omega) rfl rfl (Nat.le_of_ble_eq_true rfl) (gd DX10_own_0 12 rfl) (fun r h2 hp => ?_)
        obtain ⟨rfl, rfl⟩ := hp
        rw [ec]
        show GW z w 6 _ 0 0 _ _ [.int (nI (cW i))] _
        have hcl : cW i < 2 ^ 31 := by rcases hc with q | q <;> omega
        refine g_istore (lv' := [(0, _), (1, _), (2, _), (4, _), (5, _)]) C (gd DX10_own_0 13 rfl) [1, 2, 3, 4, 0] (by decide) rfl ?_
        refine g_iload C (gd DX10_own_0 14 rfl) 4 rfl ?_
        refine g_bipush (v := 32) C (gd DX10_own_0 15 rfl) (by decide) ?_
        refine g_icmp_eq C 48 (gd DX10_own_0 16 rfl) (by decide) (fun c30 => ?_) (fun c30 => ?_)
        · have e32 : cW i = 32 := (nI_eq hcl (by omega : 32 < 2 ^ 31)).mp c30
          obtain ⟨p1, p2⟩ := o3 e32
          have es : ownK (i + 1) = ((ownK i).1 + 1, 0) := by rw [ownK, if_pos e32]
          refine g_lload_n C (gd DX10_own_0 27 rfl) 2 rfl rfl ?_
          refine g_aload_n C (gd DX10_own_0 28 rfl) 0 rfl rfl ?_
          refine g_getl (ci := 10) (k := 27) C rfl (by decide) rfl lf_TestJudgeModel_180 hm.1 (gd DX10_own_0 29 rfl) ?_
          rw [hw]
          refine g_lcmp C (gd DX10_own_0 30 rfl) ?_
          refine g_if_ne C 59 (gd DX10_own_0 31 rfl) (by decide) (fun c54 => ?_) (fun c54 => ?_)
          · have hne : (ownK i).2 ≠ W := fun q => c54 (lcmp_0.mpr (by rw [q]))
            refine g_lconst (v := 0) C (gd DX10_own_0 34 rfl) (by decide) ?_
            refine g_lstore_n (lv' := [(0, _), (1, _), (2, _), (4, _), (5, _)]) C (gd DX10_own_0 35 rfl) [1, 2, 0, 3, 4] rfl (by decide) rfl ?_
            refine g_iinc (lv' := [(0, _), (1, _), (2, _), (4, _), (5, _)]) C (gd DX10_own_0 36 rfl) 1 [1, 0, 2, 3, 4] rfl rfl (by decide) rfl ?_
            refine g_iinc (lv' := [(0, _), (1, _), (2, _), (4, _), (5, _)]) C (gd DX10_own_0 37 rfl) 3 [1, 2, 3, 0, 4] rfl rfl (by decide) rfl ?_
            refine g_goto (tgt := 7) C (gd DX10_own_0 38 rfl) (by decide) ?_
            refine GW.sub [0, 1, 2, 3] rfl (Nat.le_refl _) (Nat.le_refl _) (lv' := [(0, _), (1, _), (2, _), (4, _)]) ?_
            rw [inc1, inc1]
            refine GW.cast (by rw [es]; rfl) rfl rfl (ih (i + 1) (by omega) (fun k hk => ?_))
            rw [es] at hk
            by_cases e : k = (ownK i).1
            · rw [e, p2]; exact hne
            · exact hn k (by omega)
          · have he : (ownK i).2 = W := (pk_lEQ (by omega) (by omega)).mp (lcmp_0.mp c54)
            refine g_iload_n C (gd DX10_own_0 32 rfl) 1 rfl rfl ?_
            exact g_iret C (by omega) (by omega) ⟨rfl, Or.inl ⟨_, p1, rfl, p2.trans he⟩⟩ (gd DX10_own_0 33 rfl)
        · have n32 : cW i ≠ 32 := fun q => c30 (by rw [q]; rfl)
          obtain ⟨q1, q2⟩ := hc.resolve_left n32
          have es : ownK (i + 1) = ((ownK i).1, 32 * (ownK i).2 + (cW i - 96)) := by rw [ownK, if_neg n32]
          refine g_lload_n C (gd DX10_own_0 17 rfl) 2 rfl rfl ?_
          refine g_iconst (v := 5) C (gd DX10_own_0 18 rfl) (by decide) ?_
          refine g_lshl C (gd DX10_own_0 19 rfl) ?_
          refine g_iload C (gd DX10_own_0 20 rfl) 4 rfl ?_
          refine g_i2l C (gd DX10_own_0 21 rfl) ?_
          refine g_ldc2 (v := 96) C (gd DX10_own_0 22 rfl) lK_TestJudgeModel_184 ?_
          refine g_lsub C (gd DX10_own_0 23 rfl) ?_
          refine g_lor C (gd DX10_own_0 24 rfl) ?_
          rw [sh5L q2 q1]
          refine g_lstore_n (lv' := [(0, _), (1, _), (2, _), (4, _), (5, _)]) C (gd DX10_own_0 25 rfl) [1, 2, 0, 3, 4] rfl (by decide) rfl ?_
          refine g_goto (tgt := 64) C (gd DX10_own_0 26 rfl) (by decide) ?_
          refine g_iinc (lv' := [(0, _), (1, _), (2, _), (4, _), (5, _)]) C (gd DX10_own_0 37 rfl) 3 [1, 2, 3, 0, 4] rfl rfl (by decide) rfl ?_
          refine g_goto (tgt := 7) C (gd DX10_own_0 38 rfl) (by decide) ?_
          refine GW.sub [0, 1, 2, 3] rfl (Nat.le_refl _) (Nat.le_refl _) (lv' := [(0, _), (1, _), (2, _), (4, _)]) ?_
          rw [inc1]
          refine GW.cast (by rw [es]) rfl rfl (ih (i + 1) (by omega) (fun k hk => ?_))
          rw [es] at hk
          exact hn k hk
  refine g_iconst (v := 0) C (gd DX10_own_0 0 rfl) (by decide) ?_
  refine g_istore_n (lv' := [(0, _), (1, _)]) C (gd DX10_own_0 1 rfl) [1, 0] rfl (by decide) rfl ?_
  refine g_lconst (v := 0) C (gd DX10_own_0 2 rfl) (by decide) ?_
  refine g_lstore_n (lv' := [(0, _), (1, _), (2, _)]) C (gd DX10_own_0 3 rfl) [1, 2, 0] rfl (by decide) rfl ?_
  refine g_iconst (v := 0) C (gd DX10_own_0 4 rfl) (by decide) ?_
  refine g_istore (lv' := [(0, _), (1, _), (2, _), (4, _)]) C (gd DX10_own_0 5 rfl) [1, 2, 3, 0] (by decide) rfl ?_
  exact loop 46 0 rfl (fun k hk => absurd hk (Nat.not_lt_zero _))
end J4
