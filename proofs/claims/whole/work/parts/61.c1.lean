/-! the JDK's fill, bitCount, numberOfTrailingZeros; Runner's shape, link, endsOf, goes, actPlaces -/
def ushr (x : Int32) (k : Int32) : Int32 := (x.toUInt32 >>> (k.toUInt32 &&& Int32.toUInt32 31)).toInt32
def bcF (x : Int32) : Int32 :=
  let a := x - (ushr x 1 &&& 1431655765)
  let b := (a &&& 858993459) + (ushr a 2 &&& 858993459)
  let c := (b + ushr b 4) &&& 252645135
  let d := c + ushr c 8
  let e := d + ushr d 16
  e &&& 63
theorem bcF_n : ∀ k, k < 256 → bcF (nI k) = bitN (nI k) := by decide +kernel
def nz4 (i n : Int32) : Int32 := n + ushr i 1
def nz3 (i n : Int32) : Int32 := if i ≤ 4 then nz4 i n else nz4 (ushr i 2) (n + Int32.ofInt 2)
def nz2 (i n : Int32) : Int32 := if i ≤ 16 then nz3 i n else nz3 (ushr i 4) (n + Int32.ofInt 4)
def nz1 (i n : Int32) : Int32 := if i ≤ 256 then nz2 i n else nz2 (ushr i 8) (n + Int32.ofInt 8)
def nz0 (i n : Int32) : Int32 := if i ≤ 65536 then nz1 i n else nz1 (ushr i 16) (n + Int32.ofInt 16)
def ntzF (x : Int32) : Int32 := if 0 < (x ^^^ -1) &&& (x - 1) then nz0 ((x ^^^ -1) &&& (x - 1)) 1 else ((x ^^^ -1) &&& (x - 1)) &&& 32
theorem ntzF_n0 : ∀ k, k < 256 → k ≠ 0 → ∃ a, a < 8 ∧ (ntzF (nI k) = nI a ∧ nI k >>> (nI a &&& 31) &&& 1 = 1 ∧ ∀ t, t < a → ¬ nI k >>> (nI t &&& 31) &&& 1 = 1) := by decide +kernel
theorem ntzF_n {k : Nat} (hk : k < 256) (h0 : k ≠ 0) : ∃ a, a < 8 ∧ ntzF (nI k) = nI a ∧ lsbP (nI k) a := by
  obtain ⟨a, ha, e, e1, e2⟩ := ntzF_n0 k hk h0
  exact ⟨a, ha, e, by omega, e1, e2⟩
section C1
variable {w : gD} {h : HS}
theorem e_bitCount (x : Int32) : EvF w 0 0 0 yJ6_bitCount_0f7a4 cJ6_bitCount_0f7a4 1 (some .int) [.int x] h (some (.int (bcF x))) h := by
  refine g_start (by decide) (Nat.le_of_ble_eq_true rfl) [(0, _)] rfl (fun z hfl C => ?_)
  refine g_iload_n C (gd DJ6_bitCount_0f7a4_0 0 rfl) 0 rfl rfl ?_
  refine g_iload_n C (gd DJ6_bitCount_0f7a4_0 1 rfl) 0 rfl rfl ?_
  refine g_iconst (v := 1) C (gd DJ6_bitCount_0f7a4_0 2 rfl) (by decide) ?_
  refine g_iushr C (gd DJ6_bitCount_0f7a4_0 3 rfl) ?_
  refine g_ldcw (v := 1431655765) C (gd DJ6_bitCount_0f7a4_0 4 rfl) lk_java_lang_Integer_265 ?_
  refine g_iand C (gd DJ6_bitCount_0f7a4_0 5 rfl) ?_
  refine g_isub C (gd DJ6_bitCount_0f7a4_0 6 rfl) ?_
  refine g_istore_n (lv' := [(0, _)]) C (gd DJ6_bitCount_0f7a4_0 7 rfl) [0] rfl (by decide) rfl ?_
  refine g_iload_n C (gd DJ6_bitCount_0f7a4_0 8 rfl) 0 rfl rfl ?_
  refine g_ldcw (v := 858993459) C (gd DJ6_bitCount_0f7a4_0 9 rfl) lk_java_lang_Integer_266 ?_
  refine g_iand C (gd DJ6_bitCount_0f7a4_0 10 rfl) ?_
  refine g_iload_n C (gd DJ6_bitCount_0f7a4_0 11 rfl) 0 rfl rfl ?_
  refine g_iconst (v := 2) C (gd DJ6_bitCount_0f7a4_0 12 rfl) (by decide) ?_
  refine g_iushr C (gd DJ6_bitCount_0f7a4_0 13 rfl) ?_
  refine g_ldcw (v := 858993459) C (gd DJ6_bitCount_0f7a4_0 14 rfl) lk_java_lang_Integer_266 ?_
  refine g_iand C (gd DJ6_bitCount_0f7a4_0 15 rfl) ?_
  refine g_iadd C (gd DJ6_bitCount_0f7a4_0 16 rfl) ?_
  refine g_istore_n (lv' := [(0, _)]) C (gd DJ6_bitCount_0f7a4_0 17 rfl) [0] rfl (by decide) rfl ?_
  refine g_iload_n C (gd DJ6_bitCount_0f7a4_0 18 rfl) 0 rfl rfl ?_
  refine g_iload_n C (gd DJ6_bitCount_0f7a4_0 19 rfl) 0 rfl rfl ?_
  refine g_iconst (v := 4) C (gd DJ6_bitCount_0f7a4_0 20 rfl) (by decide) ?_
  refine g_iushr C (gd DJ6_bitCount_0f7a4_0 21 rfl) ?_
  refine g_iadd C (gd DJ6_bitCount_0f7a4_0 22 rfl) ?_
  refine g_ldcw (v := 252645135) C (gd DJ6_bitCount_0f7a4_0 23 rfl) lk_java_lang_Integer_267 ?_
  refine g_iand C (gd DJ6_bitCount_0f7a4_0 24 rfl) ?_
  refine g_istore_n (lv' := [(0, _)]) C (gd DJ6_bitCount_0f7a4_0 25 rfl) [0] rfl (by decide) rfl ?_
  refine g_iload_n C (gd DJ6_bitCount_0f7a4_0 26 rfl) 0 rfl rfl ?_
  refine g_iload_n C (gd DJ6_bitCount_0f7a4_0 27 rfl) 0 rfl rfl ?_
  refine g_bipush (v := 8) C (gd DJ6_bitCount_0f7a4_0 28 rfl) (by decide) ?_
  refine g_iushr C (gd DJ6_bitCount_0f7a4_0 29 rfl) ?_
  refine g_iadd C (gd DJ6_bitCount_0f7a4_0 30 rfl) ?_
  refine g_istore_n (lv' := [(0, _)]) C (gd DJ6_bitCount_0f7a4_0 31 rfl) [0] rfl (by decide) rfl ?_
  refine g_iload_n C (gd DJ6_bitCount_0f7a4_0 32 rfl) 0 rfl rfl ?_
  refine g_iload_n C (gd DJ6_bitCount_0f7a4_0 33 rfl) 0 rfl rfl ?_
  refine g_bipush (v := 16) C (gd DJ6_bitCount_0f7a4_0 34 rfl) (by decide) ?_
  refine g_iushr C (gd DJ6_bitCount_0f7a4_0 35 rfl) ?_
  refine g_iadd C (gd DJ6_bitCount_0f7a4_0 36 rfl) ?_
  refine g_istore_n (lv' := [(0, _)]) C (gd DJ6_bitCount_0f7a4_0 37 rfl) [0] rfl (by decide) rfl ?_
  refine g_iload_n C (gd DJ6_bitCount_0f7a4_0 38 rfl) 0 rfl rfl ?_
  refine g_bipush (v := 63) C (gd DJ6_bitCount_0f7a4_0 39 rfl) (by decide) ?_
  refine g_iand C (gd DJ6_bitCount_0f7a4_0 40 rfl) ?_
  exact g_iret C (by omega) (by omega) ⟨rfl, rfl⟩ (gd DJ6_bitCount_0f7a4_0 41 rfl)
theorem e_ntz (x : Int32) : EvF w 0 0 0 yJ6_numberOfTrailingZeros_0f7a4 cJ6_numberOfTrailingZeros_0f7a4 2 (some .int) [.int x] h (some (.int (ntzF x))) h := by
  refine g_start (by decide) (Nat.le_of_ble_eq_true rfl) [(0, _)] rfl (fun z hfl C => ?_)
  have k74 : ∀ i n, nz4 i n = ntzF x → GW z w 2 (gQ z w 0 0 (fun r' h'' => r' = some (.int (ntzF x)) ∧ h'' = h)) 0 0 74 [(0, .int i), (1, .int n)] [] h := by
    intro i n hv
    refine g_iload_n C (gd DJ6_numberOfTrailingZeros_0f7a4_0 48 rfl) 1 rfl rfl ?_
    refine g_iload_n C (gd DJ6_numberOfTrailingZeros_0f7a4_0 49 rfl) 0 rfl rfl ?_
    refine g_iconst (v := 1) C (gd DJ6_numberOfTrailingZeros_0f7a4_0 50 rfl) (by decide) ?_
    refine g_iushr C (gd DJ6_numberOfTrailingZeros_0f7a4_0 51 rfl) ?_
    refine g_iadd C (gd DJ6_numberOfTrailingZeros_0f7a4_0 52 rfl) ?_
    exact g_iret C (by omega) (by omega) ⟨by rw [← hv]; rfl, rfl⟩ (gd DJ6_numberOfTrailingZeros_0f7a4_0 53 rfl)
  have k62 : ∀ i n, nz3 i n = ntzF x → GW z w 2 (gQ z w 0 0 (fun r' h'' => r' = some (.int (ntzF x)) ∧ h'' = h)) 0 0 62 [(0, .int i), (1, .int n)] [] h := by
    intro i n hv
    unfold nz3 at hv
    refine g_iload_n C (gd DJ6_numberOfTrailingZeros_0f7a4_0 40 rfl) 0 rfl rfl ?_
    refine g_iconst (v := 4) C (gd DJ6_numberOfTrailingZeros_0f7a4_0 41 rfl) (by decide) ?_
    refine g_icmp_le C 74 (gd DJ6_numberOfTrailingZeros_0f7a4_0 42 rfl) (by decide) (fun c64 => ?_) (fun c64 => ?_)
    · rw [if_pos c64] at hv
      exact k74 _ _ hv
    · rw [if_neg c64] at hv
      refine g_iinc (lv' := [(0, _), (1, _)]) C (gd DJ6_numberOfTrailingZeros_0f7a4_0 43 rfl) 1 [1, 0] rfl rfl (by decide) rfl ?_
      refine g_iload_n C (gd DJ6_numberOfTrailingZeros_0f7a4_0 44 rfl) 0 rfl rfl ?_
      refine g_iconst (v := 2) C (gd DJ6_numberOfTrailingZeros_0f7a4_0 45 rfl) (by decide) ?_
      refine g_iushr C (gd DJ6_numberOfTrailingZeros_0f7a4_0 46 rfl) ?_
      refine g_istore_n (lv' := [(0, _), (1, _)]) C (gd DJ6_numberOfTrailingZeros_0f7a4_0 47 rfl) [0, 1] rfl (by decide) rfl ?_
      exact k74 _ _ hv
  have k49 : ∀ i n, nz2 i n = ntzF x → GW z w 2 (gQ z w 0 0 (fun r' h'' => r' = some (.int (ntzF x)) ∧ h'' = h)) 0 0 49 [(0, .int i), (1, .int n)] [] h := by
    intro i n hv
    unfold nz2 at hv
    refine g_iload_n C (gd DJ6_numberOfTrailingZeros_0f7a4_0 32 rfl) 0 rfl rfl ?_
    refine g_bipush (v := 16) C (gd DJ6_numberOfTrailingZeros_0f7a4_0 33 rfl) (by decide) ?_
    refine g_icmp_le C 62 (gd DJ6_numberOfTrailingZeros_0f7a4_0 34 rfl) (by decide) (fun c52 => ?_) (fun c52 => ?_)
    · rw [if_pos c52] at hv
      exact k62 _ _ hv
    · rw [if_neg c52] at hv
      refine g_iinc (lv' := [(0, _), (1, _)]) C (gd DJ6_numberOfTrailingZeros_0f7a4_0 35 rfl) 1 [1, 0] rfl rfl (by decide) rfl ?_
      refine g_iload_n C (gd DJ6_numberOfTrailingZeros_0f7a4_0 36 rfl) 0 rfl rfl ?_
      refine g_iconst (v := 4) C (gd DJ6_numberOfTrailingZeros_0f7a4_0 37 rfl) (by decide) ?_
      refine g_iushr C (gd DJ6_numberOfTrailingZeros_0f7a4_0 38 rfl) ?_
      refine g_istore_n (lv' := [(0, _), (1, _)]) C (gd DJ6_numberOfTrailingZeros_0f7a4_0 39 rfl) [0, 1] rfl (by decide) rfl ?_
      exact k62 _ _ hv
  have k34 : ∀ i n, nz1 i n = ntzF x → GW z w 2 (gQ z w 0 0 (fun r' h'' => r' = some (.int (ntzF x)) ∧ h'' = h)) 0 0 34 [(0, .int i), (1, .int n)] [] h := by
    intro i n hv
    unfold nz1 at hv
    refine g_iload_n C (gd DJ6_numberOfTrailingZeros_0f7a4_0 24 rfl) 0 rfl rfl ?_
    refine g_sipush (v := 256) C (gd DJ6_numberOfTrailingZeros_0f7a4_0 25 rfl) (by decide) ?_
    refine g_icmp_le C 49 (gd DJ6_numberOfTrailingZeros_0f7a4_0 26 rfl) (by decide) (fun c38 => ?_) (fun c38 => ?_)
    · rw [if_pos c38] at hv
      exact k49 _ _ hv
    · rw [if_neg c38] at hv
      refine g_iinc (lv' := [(0, _), (1, _)]) C (gd DJ6_numberOfTrailingZeros_0f7a4_0 27 rfl) 1 [1, 0] rfl rfl (by decide) rfl ?_
      refine g_iload_n C (gd DJ6_numberOfTrailingZeros_0f7a4_0 28 rfl) 0 rfl rfl ?_
      refine g_bipush (v := 8) C (gd DJ6_numberOfTrailingZeros_0f7a4_0 29 rfl) (by decide) ?_
      refine g_iushr C (gd DJ6_numberOfTrailingZeros_0f7a4_0 30 rfl) ?_
      refine g_istore_n (lv' := [(0, _), (1, _)]) C (gd DJ6_numberOfTrailingZeros_0f7a4_0 31 rfl) [0, 1] rfl (by decide) rfl ?_
      exact k49 _ _ hv
  refine g_iload_n C (gd DJ6_numberOfTrailingZeros_0f7a4_0 0 rfl) 0 rfl rfl ?_
  refine g_iconst (v := -1) C (gd DJ6_numberOfTrailingZeros_0f7a4_0 1 rfl) (by decide) ?_
  refine g_ixor C (gd DJ6_numberOfTrailingZeros_0f7a4_0 2 rfl) ?_
  refine g_iload_n C (gd DJ6_numberOfTrailingZeros_0f7a4_0 3 rfl) 0 rfl rfl ?_
  refine g_iconst (v := 1) C (gd DJ6_numberOfTrailingZeros_0f7a4_0 4 rfl) (by decide) ?_
  refine g_isub C (gd DJ6_numberOfTrailingZeros_0f7a4_0 5 rfl) ?_
  refine g_iand C (gd DJ6_numberOfTrailingZeros_0f7a4_0 6 rfl) ?_
  refine g_istore_n (lv' := [(0, _)]) C (gd DJ6_numberOfTrailingZeros_0f7a4_0 7 rfl) [0] rfl (by decide) rfl ?_
  refine g_iload_n C (gd DJ6_numberOfTrailingZeros_0f7a4_0 8 rfl) 0 rfl rfl ?_
  refine g_if_gt C 17 (gd DJ6_numberOfTrailingZeros_0f7a4_0 9 rfl) (by decide) (fun c9 => ?_) (fun c9 => ?_)
  · refine g_iconst (v := 1) C (gd DJ6_numberOfTrailingZeros_0f7a4_0 14 rfl) (by decide) ?_
    refine g_istore_n (lv' := [(0, _), (1, _)]) C (gd DJ6_numberOfTrailingZeros_0f7a4_0 15 rfl) [1, 0] rfl (by decide) rfl ?_
    refine g_iload_n C (gd DJ6_numberOfTrailingZeros_0f7a4_0 16 rfl) 0 rfl rfl ?_
    refine g_ldcw (v := 65536) C (gd DJ6_numberOfTrailingZeros_0f7a4_0 17 rfl) lk_java_lang_Integer_264 ?_
    refine g_icmp_le C 34 (gd DJ6_numberOfTrailingZeros_0f7a4_0 18 rfl) (by decide) (fun c23 => ?_) (fun c23 => ?_)
    · refine k34 _ _ ?_
      unfold ntzF nz0
      rw [if_pos c9, if_pos c23]
    · refine g_iinc (lv' := [(0, _), (1, _)]) C (gd DJ6_numberOfTrailingZeros_0f7a4_0 19 rfl) 1 [1, 0] rfl rfl (by decide) rfl ?_
      refine g_iload_n C (gd DJ6_numberOfTrailingZeros_0f7a4_0 20 rfl) 0 rfl rfl ?_
      refine g_bipush (v := 16) C (gd DJ6_numberOfTrailingZeros_0f7a4_0 21 rfl) (by decide) ?_
      refine g_iushr C (gd DJ6_numberOfTrailingZeros_0f7a4_0 22 rfl) ?_
      refine g_istore_n (lv' := [(0, _), (1, _)]) C (gd DJ6_numberOfTrailingZeros_0f7a4_0 23 rfl) [0, 1] rfl (by decide) rfl ?_
      refine k34 _ _ ?_
      unfold ntzF nz0
      rw [if_pos c9, if_neg c23]
      rfl
  · refine g_iload_n C (gd DJ6_numberOfTrailingZeros_0f7a4_0 10 rfl) 0 rfl rfl ?_
    refine g_bipush (v := 32) C (gd DJ6_numberOfTrailingZeros_0f7a4_0 11 rfl) (by decide) ?_
    refine g_iand C (gd DJ6_numberOfTrailingZeros_0f7a4_0 12 rfl) ?_
    exact g_iret C (by omega) (by omega) ⟨by unfold ntzF; rw [if_neg c9], rfl⟩ (gd DJ6_numberOfTrailingZeros_0f7a4_0 13 rfl)
theorem e_fill {a N : Nat} (ha : hK h a = 12) (hn : hN h a = N) (hb : N < 2 ^ 31) (v : Int32) : EvF w 0 0 0 yJ7_fill_53178 cJ7_fill_53178 4 none [.ref a, .int v] h none (sF h a (fun j => if j < N then v else hI h a j)) := by
  refine g_start (by decide) (Nat.le_of_ble_eq_true rfl) [(0, _), (1, _)] rfl (fun z hfl C => ?_)
  have key : ∀ n k, k + n = N → GW z w 4 (gQ z w 0 0 (fun r' h'' => r' = none ∧ h'' = sF h a (fun j => if j < N then v else hI h a j))) 0 0 5 [(0, .ref a), (1, .int v), (2, .int (nI k)), (3, .int (nI N))] [] (sF h a (fun j => if j < k then v else hI h a j)) := by
    intro n
    induction n with
    | zero =>
      intro k hk
      refine g_iload_n C (gd DJ7_fill_53178_0 5 rfl) 2 rfl rfl ?_
      refine g_iload_n C (gd DJ7_fill_53178_0 6 rfl) 3 rfl rfl ?_
      refine g_icmp_ge C 20 (gd DJ7_fill_53178_0 7 rfl) (by decide) (fun c7 => ?_) (fun c7 => ?_)
      · exact g_vret C (by omega) (by omega) ⟨rfl, by rw [show k = N by omega]⟩ (gd DJ7_fill_53178_0 14 rfl)
      · exact absurd (nI_le (by omega) (by omega)) c7
    | succ n ih =>
      intro k hk
      refine g_iload_n C (gd DJ7_fill_53178_0 5 rfl) 2 rfl rfl ?_
      refine g_iload_n C (gd DJ7_fill_53178_0 6 rfl) 3 rfl rfl ?_
      refine g_icmp_ge C 20 (gd DJ7_fill_53178_0 7 rfl) (by decide) (fun c7 => ?_) (fun c7 => ?_)
      · exact absurd c7 (nI_ge (by omega) (by omega))
      · refine g_aload_n C (gd DJ7_fill_53178_0 8 rfl) 0 rfl rfl ?_
        refine g_iload_n C (gd DJ7_fill_53178_0 9 rfl) 2 rfl rfl ?_
        refine g_iload_n C (gd DJ7_fill_53178_0 10 rfl) 1 rfl rfl ?_
        refine g_iast C ha (by rw [show hN (sF h a _) a = N from hn]; exact vp_in_nI (by omega) hb) (gd DJ7_fill_53178_0 11 rfl) ?_
        refine g_iinc (lv' := [(0, _), (1, _), (2, _), (3, _)]) C (gd DJ7_fill_53178_0 12 rfl) 2 [1, 2, 0, 3] rfl rfl (by decide) rfl ?_
        refine g_goto (tgt := 5) C (gd DJ7_fill_53178_0 13 rfl) (by decide) ?_
        refine GW.cast (by rw [inc1]) rfl ?_ (ih (k + 1) (by omega))
        rw [nI_clamp (by omega), sI_sF_same]
        congr 1
        funext j
        simp only [upd]
        (repeat' split) <;> first | rfl | (exfalso; omega) | (congr 1; omega)
  refine g_iconst (v := 0) C (gd DJ7_fill_53178_0 0 rfl) (by decide) ?_
  refine g_istore_n (lv' := [(0, _), (1, _), (2, _)]) C (gd DJ7_fill_53178_0 1 rfl) [1, 2, 0] rfl (by decide) rfl ?_
  refine g_aload_n C (gd DJ7_fill_53178_0 2 rfl) 0 rfl rfl ?_
  refine g_alen_i C ha (gd DJ7_fill_53178_0 3 rfl) ?_
  refine g_istore_n (lv' := [(0, _), (1, _), (2, _), (3, _)]) C (gd DJ7_fill_53178_0 4 rfl) [1, 2, 3, 0] rfl (by decide) rfl ?_
  rw [hn]
  refine GW.cast rfl rfl ?_ (key N 0 (by omega))
  rw [show (fun j => if j < 0 then v else hI h a j) = hI h a from funext fun j => if_neg (by omega), sF_self]
end C1
