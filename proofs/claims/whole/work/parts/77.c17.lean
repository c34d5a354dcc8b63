/-! System.arraycopy of int rows from their beginnings -/
theorem ac_st : Cond.static arraycopyName ∈ gtb := gin (gt4 (List.mem_of_getElem? (i := 21) (by decide +kernel))) rfl
theorem ac_na : Cond.native arraycopyName ∈ gtb := gin (gt4 (List.mem_of_getElem? (i := 22) (by decide +kernel))) rfl
theorem ac_in : Cond.initialized "java/lang/System" ∈ gtb := gin (gt1 (List.mem_of_getElem? (i := 19) (by decide +kernel))) rfl
section C17
variable {z : gZ} {w : gD} {d MC MS n : Nat} {y : MethodName} {cc : ByteArray} {ret : Option FieldType} {Q : State → Prop} {cn sn pc : Nat} {lv lv' : List (Nat × Value)} {rest : List Value} {h : HS}
theorem g_copy0 (C : GC z w d MC MS y cc n ret) {a0 a m index : Nat} (hl : Cond.methodLink y.cls index arraycopyName ∈ gtb) (h0 : hK h a0 = 12) (h1 : hK h a = 12) (hm0 : m ≤ hN h a0) (hm1 : m ≤ hN h a) (hm : m < 2 ^ 31) (hd1 : 1 ≤ d) (hrm : rest = []) (hd : decode cc pc = .ok (.invokestatic index, 3)) (kk : GW z w n Q cn sn (pc + 3) lv rest (sF h a (fun k => if k < m then hI h a0 k else hI h a k))) : GW z w n Q cn sn pc lv (.int (nI m) :: .int 0 :: .ref a :: .int 0 :: .ref a0 :: rest) h := by
  subst hrm
  intro H locs ls hR0 hL hlv T hT X
  have c0 := g_arr hR0 (by omega) (gE_i h0)
  have c1 := g_arr hR0 (by omega) (gE_i h1)
  have hG := C.2.2.2.2.1
  obtain ⟨-, k0, hk0, cm0, hkk0⟩ := (C.2.2.2.2.2.1.1.2 0 _ rfl).1 (hN h a0) (fun j => .int (hI h a0 j))
  obtain ⟨-, k1, hk1, cm1, hkk1⟩ := (C.2.2.2.2.2.1.1.2 0 _ rfl).1 (hN h a) (fun j => .int (hI h a j))
  have e0 : (0 : Int32).toNatClampNeg = 0 := rfl
  have em : (nI m).toNatClampNeg = m := nI_clamp hm
  obtain ⟨vm', X', step⟩ := X.arraycopy C.1 C.2.2.2.1 (hG _ hl) (hG _ ac_na) (hG _ ac_st) (hG _ ac_in) (src := a0) (dst := a) (cs := vp_cell (w.2.1 0) (hN h a0, .inl (hI h a0))) (cd := vp_cell (w.2.1 0) (hN h a, .inl (hI h a))) (srcPos := 0) (destPos := 0) (n := nI m) (by rw [hT]; exact c0) (by rw [hT]; exact c1) (fun _ x => by cases x) (fun _ x => by cases x) (fun x => by cases x) (fun x => by cases x) hk0 hk1 hkk0 hkk1 rfl (by decide) (by decide) (nI_nn hm)
    (by rw [nI_toInt hm]; show ¬ (0 : Int) + (m : Int) > ((arrV (w.2.1 0) (hN h a0) (fun j => .int (hI h a0 j))).slots.size : Int); rw [arrV_size]; omega)
    (by rw [nI_toInt hm]; show ¬ (0 : Int) + (m : Int) > ((arrV (w.2.1 0) (hN h a) (fun j => .int (hI h a j))).slots.size : Int); rw [arrV_size]; omega)
    (fun vm₁ _ i hi => by
      rw [em] at hi
      have er : (vp_cell (w.2.1 0) (hN h a0, .inl (hI h a0))).slots.getD ((0 : Int32).toNatClampNeg + i) .null = .int (hI h a0 ((0 : Int32).toNatClampNeg + i)) := by
        show (arrV (w.2.1 0) (hN h a0) (fun j => .int (hI h a0 j))).slots.getD _ _ = _
        rw [Array.getD_eq_getD_getElem?, arrV_read _ _ (by rw [e0]; omega)]
        rfl
      exact ⟨by rw [er]; rfl, by rw [er]; exact trivial⟩)
    (g := F0 (zM z) pc ls (.int (nI m) :: .int 0 :: .ref a :: .int 0 :: .ref a0 :: [])) rfl (by rw [C.2.2.1]; first | exact hlv.1 | exact hlv.1.symm) (rest := []) rfl (by rw [C.2.1]; exact hd) (Nat.le_trans hd1 C.2.2.2.2.2.2.2.2.2.1) (by have hlo := C.2.2.2.2.2.2.2.2.2.2.1; show _ ≤ (zR z).locals; simp [nativeFrameWords]; omega)
  have ec : copied (vp_cell (w.2.1 0) (hN h a0, .inl (hI h a0))) (vp_cell (w.2.1 0) (hN h a, .inl (hI h a))) 0 0 (nI m) = vp_cell (w.2.1 0) (hN h a, .inl (fun k => if k < m then hI h a0 k else hI h a k)) := by
    have := va_copied (fun z => Value.int z) (w.2.1 0) (w.2.1 0) (hI h a0) (hI h a) (n0 := hN h a0) (n1 := hN h a) (sp := (0 : Int32).toNatClampNeg) (dp := (0 : Int32).toNatClampNeg) (n := (nI m).toNatClampNeg) (by rw [e0, em]; omega)
    refine Eq.trans this ?_
    rw [vp_cell_i]
    congr 1
    funext k
    unfold va_cpy
    rw [e0, em]
    by_cases e : k < m
    · rw [if_pos (by omega), if_pos e, show 0 + (k - 0) = k by omega]
    · rw [if_neg (by omega), if_neg e]
  rw [ec] at X' step
  have hlt : a < H.size := (Array.getElem?_eq_some_iff.mp c1).1
  have ht1 := kk (H.setIfInBounds a (vp_cell (w.2.1 0) (hN h a, .inl (fun k => if k < m then hI h a0 k else hI h a k)))) _ ls ?_ ?_ hlv _ (show _ = _ by rw [← hT]; rfl) X'
  · obtain ⟨t, a1, b1⟩ := ht1
    exact ⟨t, step t a1, b1⟩
  · refine hR0.set (a := a) (by omega) (by simp) (fun q hq => by simp [Array.getElem?_setIfInBounds, Ne.symm hq]) rfl (fun _ => rfl) (fun b hb => gE_congr (hI_sF_ne hb) rfl rfl rfl rfl) ?_
    rw [gE_i (show hK (sF h a _) a = 12 from h1), hI_sF_eq]
    show (H.setIfInBounds a _)[a]? = some _
    simp [Array.getElem?_setIfInBounds, hlt]
    rfl
  · intro x hx
    rcases List.mem_append.mp hx with q | q
    · exact hL x q
    · obtain ⟨v, -, hv⟩ := List.mem_map.mp q
      rw [← hv]
      exact (hR0.2.2.2 a (by omega)).1
end C17
