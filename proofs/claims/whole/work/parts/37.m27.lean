/-! bits: how many bits a small set has -/
def pcf : Nat → Nat → Nat
  | 0, _ => 0
  | f + 1, n => if n = 0 then 0 else pcf f (n &&& (n - 1)) + 1
theorem nI_and {a b : Nat} (ha : a < 2 ^ 32) (hb : b < 2 ^ 32) : nI a &&& nI b = nI (a &&& b) := by
  refine Int32.toBitVec_inj.mp ?_
  rw [Int32.toBitVec_and]
  show BitVec.ofNat 32 a &&& BitVec.ofNat 32 b = BitVec.ofNat 32 (a &&& b)
  refine BitVec.eq_of_toNat_eq ?_
  rw [BitVec.toNat_and, BitVec.toNat_ofNat, BitVec.toNat_ofNat, BitVec.toNat_ofNat, Nat.mod_eq_of_lt ha, Nat.mod_eq_of_lt hb, Nat.mod_eq_of_lt (Nat.lt_of_le_of_lt Nat.and_le_left ha)]
section M27
variable {w : gD} {m : Nat} {h : HS}
theorem e_m_bits {n : Nat} (hn : n < 65536) : EvF w 0 0 0 yX10_bits cX10_bits 3 (some .int) [.int (nI n)] h (some (.int (nI (pcf n n)))) h := by
  refine g_start (by decide) (Nat.le_of_ble_eq_true rfl) [(0, _)] rfl (fun z hfl C => ?_)
  have loop : ∀ f c x, x ≤ f → x < 65536 → c + pcf f x = pcf n n → GW z w 3 (gQ z w 0 0 (fun r' h'' => r' = some (.int (nI (pcf n n))) ∧ h'' = h)) 0 0 4 [(0, .int (nI n)), (1, .int (nI c)), (2, .int (nI x))] [] h := by
    intro f
    induction f with
    | zero =>
      intro c x hx hx2 hc
      have e : x = 0 := by omega
      subst e
      refine g_iload_n C (gd DX10_bits_0 4 rfl) 2 rfl rfl ?_
      refine g_if_eq C 20 (gd DX10_bits_0 5 rfl) (by decide) (fun c5 => ?_) (fun c5 => ?_)
      · refine g_iload_n C (gd DX10_bits_0 14 rfl) 1 rfl rfl ?_
        exact g_iret C (by omega) (by omega) ⟨by rw [← hc]; rfl, rfl⟩ (gd DX10_bits_0 15 rfl)
      · exact absurd rfl c5
    | succ f ih =>
      intro c x hx hx2 hc
      by_cases e : x = 0
      · subst e
        rw [pcf, if_pos rfl] at hc
        refine g_iload_n C (gd DX10_bits_0 4 rfl) 2 rfl rfl ?_
        refine g_if_eq C 20 (gd DX10_bits_0 5 rfl) (by decide) (fun c5 => ?_) (fun c5 => ?_)
        · refine g_iload_n C (gd DX10_bits_0 14 rfl) 1 rfl rfl ?_
          exact g_iret C (by omega) (by omega) ⟨by rw [← hc]; rfl, rfl⟩ (gd DX10_bits_0 15 rfl)
        · exact absurd rfl c5
      · rw [pcf, if_neg e] at hc
        have hle : x &&& (x - 1) ≤ x - 1 := Nat.and_le_right
        refine g_iload_n C (gd DX10_bits_0 4 rfl) 2 rfl rfl ?_
        refine g_if_eq C 20 (gd DX10_bits_0 5 rfl) (by decide) (fun c5 => ?_) (fun c5 => ?_)
        · exact absurd c5 (nI_ne0 (by omega) (by omega))
        · refine g_iinc (lv' := [(0, _), (1, _), (2, _)]) C (gd DX10_bits_0 6 rfl) 1 [1, 0, 2] rfl rfl (by decide) rfl ?_
          refine g_iload_n C (gd DX10_bits_0 7 rfl) 2 rfl rfl ?_
          refine g_iload_n C (gd DX10_bits_0 8 rfl) 2 rfl rfl ?_
          refine g_iconst (v := 1) C (gd DX10_bits_0 9 rfl) (by decide) ?_
          refine g_isub C (gd DX10_bits_0 10 rfl) ?_
          rw [show nI x - 1 = nI (x - 1) from nx_sub (b := 1) rfl rfl (by omega)]
          refine g_iand C (gd DX10_bits_0 11 rfl) ?_
          refine g_istore_n (lv' := [(0, _), (1, _), (2, _)]) C (gd DX10_bits_0 12 rfl) [1, 2, 0] rfl (by decide) rfl ?_
          refine g_goto (tgt := 4) C (gd DX10_bits_0 13 rfl) (by decide) ?_
          refine GW.cast (by rw [inc1, nI_and (by omega) (by omega)]) rfl rfl (ih (c + 1) (x &&& (x - 1)) (by omega) (by omega) (by omega))
  refine g_iconst (v := 0) C (gd DX10_bits_0 0 rfl) (by decide) ?_
  refine g_istore_n (lv' := [(0, _), (1, _)]) C (gd DX10_bits_0 1 rfl) [1, 0] rfl (by decide) rfl ?_
  refine g_iload_n C (gd DX10_bits_0 2 rfl) 0 rfl rfl ?_
  refine g_istore_n (lv' := [(0, _), (1, _), (2, _)]) C (gd DX10_bits_0 3 rfl) [1, 2, 0] rfl (by decide) rfl ?_
  exact loop n 0 n (Nat.le_refl _) hn (by omega)
end M27
