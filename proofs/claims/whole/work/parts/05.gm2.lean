section Rows2
variable {z : gZ} {w : gD} {d MC MS n : Nat} {y : MethodName} {cc : ByteArray} {ret : Option FieldType} {Q : State → Prop} {cn sn pc : Nat} {lv lv' : List (Nat × Value)} {rest : List Value} {h : HS}
theorem g_at {H : Heap} (hR0 : gR w h H) {a ci : Nat} (hk : hK h a = ci + 1) (hc : ci < 11) : va_P w.1 vwCl [(a, .inr (ci, gFl h a ci))] H := by
  have h1 := (hR0.2.2.2 a (by omega)).2
  rw [gE_obj hk hc] at h1
  intro k q hq
  match k, hq with
  | 0, hq => cases hq; exact h1
  | k + 1, hq => simp at hq
theorem g_atA {H : Heap} (hR0 : gR w h H) {a : Nat} {x : ClassId × vp_A} (hk : hK h a ≠ 0) (he : gE w.2.1 h a = .inl x) : va_P w.1 vwCl [(a, .inl x)] H := by
  have h1 := (hR0.2.2.2 a hk).2
  rw [he] at h1
  intro k q hq
  match k, hq with
  | 0, hq => cases hq; exact h1
  | k + 1, hq => simp at hq
theorem g_getv (C : GC z w d MC MS y cc n ret) {a ci k t index N : Nat} {Cn : String} {T : u_T} (hc : vwCl[ci]? = some (Cn, T, N)) (hk : k < N) (ht : (gTag ci)[k]? = some t) (hl : Cond.fieldLink y.cls index (T k).1 (T k).2.1 (T k).2.2.1 ∈ gtb) (ha : hK h a = ci + 1) (hd : decode cc pc = .ok (.getfield index, 3)) (kk : GW z w n Q cn sn (pc + 3) lv (gVal h a k t :: rest) h) : GW z w n Q cn sn pc lv (.ref a :: rest) h := by
  intro H locs ls hR0 hL hlv
  obtain ⟨hci, hlay, -, -, -⟩ := gcl hc
  exact va_get (D := w.1) (cl := vwCl) (tys := gTy w) (ws := [(a, .inr (ci, gFl h a ci))]) C.1 C.2.1 C.2.2.2.2.1 hlay C.2.2.2.1 C.2.2.2.2.2.1.1 (g_at hR0 ha hci) 0 rfl hc k hk (C.2.2.2.2.1 _ hl) (fun _ q => q) (gFl_get ht) hd (kk H locs ls hR0 hL hlv)

theorem g_geti (C : GC z w d MC MS y cc n ret) {a ci k index N : Nat} {Cn : String} {T : u_T} (hc : vwCl[ci]? = some (Cn, T, N)) (hk : k < N) (ht : (gTag ci)[k]? = some 0) (hl : Cond.fieldLink y.cls index (T k).1 (T k).2.1 (T k).2.2.1 ∈ gtb) (ha : hK h a = ci + 1) (hd : decode cc pc = .ok (.getfield index, 3)) (kk : GW z w n Q cn sn (pc + 3) lv (.int (hI h a k) :: rest) h) : GW z w n Q cn sn pc lv (.ref a :: rest) h := g_getv C hc hk ht hl ha hd kk
theorem g_getl (C : GC z w d MC MS y cc n ret) {a ci k index N : Nat} {Cn : String} {T : u_T} (hc : vwCl[ci]? = some (Cn, T, N)) (hk : k < N) (ht : (gTag ci)[k]? = some 1) (hl : Cond.fieldLink y.cls index (T k).1 (T k).2.1 (T k).2.2.1 ∈ gtb) (ha : hK h a = ci + 1) (hd : decode cc pc = .ok (.getfield index, 3)) (kk : GW z w n Q cn sn (pc + 3) lv (.long (hL h a k) :: rest) h) : GW z w n Q cn sn pc lv (.ref a :: rest) h := g_getv C hc hk ht hl ha hd kk
theorem g_getq (C : GC z w d MC MS y cc n ret) {a ci k index N : Nat} {Cn : String} {T : u_T} (hc : vwCl[ci]? = some (Cn, T, N)) (hk : k < N) (ht : (gTag ci)[k]? = some 2) (hl : Cond.fieldLink y.cls index (T k).1 (T k).2.1 (T k).2.2.1 ∈ gtb) (ha : hK h a = ci + 1) (hd : decode cc pc = .ok (.getfield index, 3)) (kk : GW z w n Q cn sn (pc + 3) lv (va_rf (hR h a k) :: rest) h) : GW z w n Q cn sn pc lv (.ref a :: rest) h := g_getv C hc hk ht hl ha hd kk
theorem g_getr (C : GC z w d MC MS y cc n ret) {a ci k index N b : Nat} {Cn : String} {T : u_T} (hc : vwCl[ci]? = some (Cn, T, N)) (hk : k < N) (ht : (gTag ci)[k]? = some 2) (hl : Cond.fieldLink y.cls index (T k).1 (T k).2.1 (T k).2.2.1 ∈ gtb) (ha : hK h a = ci + 1) (hb : hR h a k = some b) (hd : decode cc pc = .ok (.getfield index, 3)) (kk : GW z w n Q cn sn (pc + 3) lv (.ref b :: rest) h) : GW z w n Q cn sn pc lv (.ref a :: rest) h := g_getq C hc hk ht hl ha hd (by rw [hb]; exact kk)
theorem gFl_set {h h' : HS} {a c k t : Nat} {v : Value} (ht : (gTag c)[k]? = some t) (hv : gVal h' a k t = v) (ho : ∀ j t', j ≠ k → gVal h' a j t' = gVal h a j t') : gFl h' a c = (gFl h a c).set k v := by
  apply List.ext_getElem?
  intro j
  rw [List.getElem?_set]
  by_cases e : k = j
  · subst e
    have hl : k < (gFl h a c).length := by rw [gFl_len]; exact (List.getElem?_eq_some_iff.mp ht).1
    rw [gFl_get ht, hv]
    simp [hl]
  · rw [if_neg e]
    cases hj : (gTag c)[j]? with
    | none => simp [gFl, List.getElem?_mapIdx, hj]
    | some t' => rw [gFl_get hj, gFl_get hj, ho j t' (Ne.symm e)]
theorem g_putv (C : GC z w d MC MS y cc n ret) {a ci k t index N : Nat} {Cn : String} {T : u_T} {v : Value} {ty : FieldType} {h' : HS} (hc : vwCl[ci]? = some (Cn, T, N)) (hk : k < N) (ht : (gTag ci)[k]? = some t) (hl : Cond.fieldLink y.cls index (T k).1 (T k).2.1 (T k).2.2.1 ∈ gtb) (ha : hK h a = ci + 1)
    (hf : (T k).2.2.2 = false ∨ ((T k).2.2.2 = true ∧ y.name = "<init>" ∧ (T k).1 = y.cls)) (hty : parseFieldDescriptor (T k).2.2.1 = some ty) (hn : narrow ty v = v) (hfit : fits ty v = true)
    (hv : gVal h' a k t = v) (ho : ∀ j t', j ≠ k → gVal h' a j t' = gVal h a j t') (hT' : hT h' = hT h) (hK' : ∀ b, hK h' b = hK h b) (hE : ∀ b, b ≠ a → gE w.2.1 h' b = gE w.2.1 h b)
    (hd : decode cc pc = .ok (.putfield index, 3)) (kk : GW z w n Q cn sn (pc + 3) lv rest h') : GW z w n Q cn sn pc lv (v :: .ref a :: rest) h := by
  intro H locs ls hR0 hL hlv
  obtain ⟨hci, hlay, ⟨ty0, hty0⟩, hnm, hlen⟩ := gcl hc
  have hP := g_at hR0 ha hci
  have hKs := C.2.2.2.2.2.1.1
  have hap := va_apart (own := y.cls) C.2.2.2.2.1 hlay ty0 hty0 hnm hKs hc
  obtain ⟨r, h1, cell, q1, q2, q3, q4⟩ := hP 0 _ rfl
  have hr : r = (Cn, T, N) := Option.some.inj (h1.symm.trans hc)
  subst hr
  obtain ⟨hS, hfc, kC, hkC, hkind⟩ := hKs.1 ci _ hc
  obtain ⟨cf, kf, fi, f, hi, hsl⟩ := hS k hk
  have hlay0 := C.2.2.2.2.1 _ (hlay _ (u_in_lay hk))
  have hst := (u_facts hfc hkC (u_lays C.2.2.2.2.1 hlay hk) hi).1
  have hlk : k < (gFl h a ci).length := by rw [gFl_len, hlen]; exact hk
  have key : ∀ H' : Heap, H'[a]? = some (cell.setSlot (w.1.2 ci k) v) → H'.size = H.size → (∀ q, q ≠ a → H'[q]? = H[q]?) → gR w h' H' := by
    intro H' e1 e2 e3
    refine hR0.set (by omega) e2 e3 hT' hK' hE ?_
    rw [gE_obj (by rw [hK' a]; exact ha) hci, gFl_set ht hv ho]
    exact ⟨_, hc, t_OB.to (V := updV (vp_V (gFl h a ci)) k v) ⟨_, e1, q2, q3, t_set q4 hap hk v⟩ (fun j _ => vp_updV_set hlk v j)⟩
  have hba := (hR0.2.2.2 a (by omega)).1
  have hlocs : ∀ j : Nat, ∀ x ∈ locs ++ [(⟨a, j⟩ : Loc)], wA w x.base := by
    intro j x hx
    rcases List.mem_append.mp hx with h | h
    · exact hL x h
    · rw [List.mem_singleton.mp h]; exact hba
  rcases hf with hf | ⟨hf, hin, hdecl⟩
  · unfold u_lay at hlay0
    rw [if_neg (by rw [hf]; decide)] at hlay0
    have h6 := u_store hfc hkC hkind hlay0 hi hty hn hfit
    refine W.putK C.1 C.2.1 (f := f) ⟨C.2.2.2.1, C.2.2.2.2.1 _ hl, ⟨_, _, _, hi⟩, hst⟩ (by rw [q2]; exact h6) q1 q3 (by rw [hsl]; exact k2_hasslot (q4 k hk)) rfl rfl hd fun H' e1 e2 e3 => ?_
    rw [hsl] at e1 ⊢
    exact kk H' _ ls (key H' e1 e2 e3) (hlocs _) hlv
  · unfold u_lay at hlay0
    rw [if_pos hf] at hlay0
    have hcf : (zM z).cls = cf := by
      obtain ⟨_, _, c', _, _, _, -, -, hf', -, -, -, hown2, -⟩ := Cond.laysFinal_spec hlay0
      have e1 : c' = cf := by have := hi.symm.trans hf'; simp at this; exact this.1.symm
      rw [hdecl] at hown2
      rw [← e1]; exact Option.some.inj (C.2.2.2.1.symm.trans hown2)
    have h6 := u_fits hfc hkC hkind (Or.inr hlay0) hi hty hn hfit
    refine W.putFinK C.1 C.2.1 C.2.2.2.1 (C.2.2.2.2.1 _ hl) hi hst hcf (C.2.2.2.2.2.2.2.2.1.trans hin) (by rw [q2]; exact h6) q1 q3 (by rw [hsl]; exact k2_hasslot (q4 k hk)) rfl rfl hd fun H' e1 e2 e3 => ?_
    rw [hsl] at e1 ⊢
    exact kk H' _ ls (key H' e1 e2 e3) (hlocs _) hlv
theorem gV_sI {h : HS} {a k : Nat} {v : Int32} : gVal (sI h a k v) a k 0 = .int v := by simp [gVal, hI_sI]
theorem gV_sL {h : HS} {a k : Nat} {v : Int64} : gVal (sL h a k v) a k 1 = .long v := by simp [gVal, hL_sL]
theorem gV_sR {h : HS} {a k : Nat} {v : Option Nat} : gVal (sR h a k v) a k 2 = va_rf v := by simp [gVal, hR_sR]
theorem gV_sI_ne {h : HS} {a k : Nat} {v : Int32} (j t : Nat) (hj : j ≠ k) : gVal (sI h a k v) a j t = gVal h a j t := by simp [gVal, hI_sI, hL_sI, hR_sI, hj]
theorem gV_sL_ne {h : HS} {a k : Nat} {v : Int64} (j t : Nat) (hj : j ≠ k) : gVal (sL h a k v) a j t = gVal h a j t := by simp [gVal, hI_sL, hL_sL, hR_sL, hj]
theorem gV_sR_ne {h : HS} {a k : Nat} {v : Option Nat} (j t : Nat) (hj : j ≠ k) : gVal (sR h a k v) a j t = gVal h a j t := by simp [gVal, hI_sR, hL_sR, hR_sR, hj]

theorem g_puti (C : GC z w d MC MS y cc n ret) {a ci k index N : Nat} {Cn : String} {T : u_T} (hc : vwCl[ci]? = some (Cn, T, N)) (hk : k < N) {v : Int32} (ht : (gTag ci)[k]? = some 0) (hl : Cond.fieldLink y.cls index (T k).1 (T k).2.1 (T k).2.2.1 ∈ gtb) (ha : hK h a = ci + 1) (hf : (T k).2.2.2 = false ∨ ((T k).2.2.2 = true ∧ y.name = "<init>" ∧ (T k).1 = y.cls)) (hty : (T k).2.2.1 = "I") (hd : decode cc pc = .ok (.putfield index, 3)) (kk : GW z w n Q cn sn (pc + 3) lv rest (sI h a k v)) : GW z w n Q cn sn pc lv (.int v :: .ref a :: rest) h := g_putv C hc hk ht hl ha hf (ty := .int) (by rw [hty]; rfl) rfl rfl gV_sI gV_sI_ne rfl (fun _ => rfl) (fun _ => gE_sI) hd kk
theorem g_putz (C : GC z w d MC MS y cc n ret) {a ci k index N : Nat} {Cn : String} {T : u_T} (hc : vwCl[ci]? = some (Cn, T, N)) (hk : k < N) {v : Int32} (ht : (gTag ci)[k]? = some 0) (hl : Cond.fieldLink y.cls index (T k).1 (T k).2.1 (T k).2.2.1 ∈ gtb) (ha : hK h a = ci + 1) (hf : (T k).2.2.2 = false ∨ ((T k).2.2.2 = true ∧ y.name = "<init>" ∧ (T k).1 = y.cls)) (hty : (T k).2.2.1 = "Z") (hz : v = 0 ∨ v = 1) (hd : decode cc pc = .ok (.putfield index, 3)) (kk : GW z w n Q cn sn (pc + 3) lv rest (sI h a k v)) : GW z w n Q cn sn pc lv (.int v :: .ref a :: rest) h := g_putv C hc hk ht hl ha hf (ty := .boolean) (by rw [hty]; rfl) (by rcases hz with rfl | rfl <;> rfl) (by rcases hz with rfl | rfl <;> rfl) gV_sI gV_sI_ne rfl (fun _ => rfl) (fun _ => gE_sI) hd kk
theorem g_putl (C : GC z w d MC MS y cc n ret) {a ci k index N : Nat} {Cn : String} {T : u_T} (hc : vwCl[ci]? = some (Cn, T, N)) (hk : k < N) {v : Int64} (ht : (gTag ci)[k]? = some 1) (hl : Cond.fieldLink y.cls index (T k).1 (T k).2.1 (T k).2.2.1 ∈ gtb) (ha : hK h a = ci + 1) (hf : (T k).2.2.2 = false ∨ ((T k).2.2.2 = true ∧ y.name = "<init>" ∧ (T k).1 = y.cls)) (hty : (T k).2.2.1 = "J") (hd : decode cc pc = .ok (.putfield index, 3)) (kk : GW z w n Q cn sn (pc + 3) lv rest (sL h a k v)) : GW z w n Q cn sn pc lv (.long v :: .ref a :: rest) h := g_putv C hc hk ht hl ha hf (ty := .long) (by rw [hty]; rfl) rfl rfl gV_sL gV_sL_ne rfl (fun _ => rfl) (fun _ => gE_sL) hd kk
theorem g_putr (C : GC z w d MC MS y cc n ret) {a ci k index N : Nat} {Cn : String} {T : u_T} (hc : vwCl[ci]? = some (Cn, T, N)) (hk : k < N) {v : Nat} {ty : FieldType} (ht : (gTag ci)[k]? = some 2) (hl : Cond.fieldLink y.cls index (T k).1 (T k).2.1 (T k).2.2.1 ∈ gtb) (ha : hK h a = ci + 1) (hf : (T k).2.2.2 = false ∨ ((T k).2.2.2 = true ∧ y.name = "<init>" ∧ (T k).1 = y.cls)) (hty : parseFieldDescriptor (T k).2.2.1 = some ty) (hn : narrow ty (.ref v) = .ref v) (hfit : fits ty (.ref v) = true) (hd : decode cc pc = .ok (.putfield index, 3)) (kk : GW z w n Q cn sn (pc + 3) lv rest (sR h a k (some v))) : GW z w n Q cn sn pc lv (.ref v :: .ref a :: rest) h := g_putv C hc hk ht hl ha hf hty hn hfit gV_sR gV_sR_ne rfl (fun _ => rfl) (fun _ => gE_sR) hd kk
theorem g_putn (C : GC z w d MC MS y cc n ret) {a ci k index N : Nat} {Cn : String} {T : u_T} (hc : vwCl[ci]? = some (Cn, T, N)) (hk : k < N) {ty : FieldType} (ht : (gTag ci)[k]? = some 2) (hl : Cond.fieldLink y.cls index (T k).1 (T k).2.1 (T k).2.2.1 ∈ gtb) (ha : hK h a = ci + 1) (hf : (T k).2.2.2 = false ∨ ((T k).2.2.2 = true ∧ y.name = "<init>" ∧ (T k).1 = y.cls)) (hty : parseFieldDescriptor (T k).2.2.1 = some ty) (hn : narrow ty .null = .null) (hfit : fits ty .null = true) (hd : decode cc pc = .ok (.putfield index, 3)) (kk : GW z w n Q cn sn (pc + 3) lv rest (sR h a k none)) : GW z w n Q cn sn pc lv (.null :: .ref a :: rest) h := g_putv C hc hk ht hl ha hf hty hn hfit gV_sR gV_sR_ne rfl (fun _ => rfl) (fun _ => gE_sR) hd kk
theorem g_iald (C : GC z w d MC MS y cc n ret) {a : Nat} {i : Int32} (ha : hK h a = 12) (hi : vp_in i (hN h a)) (hd : decode cc pc = .ok (.iaload, 1)) (kk : GW z w n Q cn sn (pc + 1) lv (.int (hI h a i.toNatClampNeg) :: rest) h) : GW z w n Q cn sn pc lv (.int i :: .ref a :: rest) h := fun H locs ls hR0 hL hlv => va_iald (D := w.1) (cl := vwCl) (tys := gTy w) C.1 C.2.1 C.2.2.2.2.2.1.1 (g_atA hR0 (by omega) (gE_i ha)) 0 0 rfl rfl hi hd (kk H locs ls hR0 hL hlv)
theorem g_lald (C : GC z w d MC MS y cc n ret) {a : Nat} {i : Int32} (ha : hK h a = 13) (hi : vp_in i (hN h a)) (hd : decode cc pc = .ok (.laload, 1)) (kk : GW z w n Q cn sn (pc + 1) lv (.long (hL h a i.toNatClampNeg) :: rest) h) : GW z w n Q cn sn pc lv (.int i :: .ref a :: rest) h := fun H locs ls hR0 hL hlv => va_lald (D := w.1) (cl := vwCl) (tys := gTy w) C.1 C.2.1 C.2.2.2.2.2.1.1 (g_atA hR0 (by omega) (gE_l ha)) 0 1 rfl rfl hi hd (kk H locs ls hR0 hL hlv)
theorem g_bald (C : GC z w d MC MS y cc n ret) {a : Nat} {i : Int32} (ha : hK h a = 14) (hi : vp_in i (hN h a)) (hd : decode cc pc = .ok (.baload, 1)) (kk : GW z w n Q cn sn (pc + 1) lv (.int (hI h a i.toNatClampNeg) :: rest) h) : GW z w n Q cn sn pc lv (.int i :: .ref a :: rest) h := fun H locs ls hR0 hL hlv => va_bald (D := w.1) (cl := vwCl) (tys := gTy w) C.1 C.2.1 C.2.2.2.2.2.1.1 (g_atA hR0 (by omega) (gE_b ha)) 0 2 rfl rfl hi hd (kk H locs ls hR0 hL hlv)
theorem g_zald (C : GC z w d MC MS y cc n ret) {a : Nat} {i : Int32} (ha : hK h a = 15) (hi : vp_in i (hN h a)) (hd : decode cc pc = .ok (.baload, 1)) (kk : GW z w n Q cn sn (pc + 1) lv (.int (hI h a i.toNatClampNeg) :: rest) h) : GW z w n Q cn sn pc lv (.int i :: .ref a :: rest) h := fun H locs ls hR0 hL hlv => va_zald (D := w.1) (cl := vwCl) (tys := gTy w) C.1 C.2.1 C.2.2.2.2.2.1.1 (g_atA hR0 (by omega) (gE_z ha)) 0 3 rfl rfl hi hd (kk H locs ls hR0 hL hlv)
theorem g_aald (C : GC z w d MC MS y cc n ret) {a : Nat} {i : Int32} (ha : hK h a = 16) (hi : vp_in i (hN h a)) (hd : decode cc pc = .ok (.aaload, 1)) (kk : GW z w n Q cn sn (pc + 1) lv (va_rf (hR h a i.toNatClampNeg) :: rest) h) : GW z w n Q cn sn pc lv (.int i :: .ref a :: rest) h := fun H locs ls hR0 hL hlv => va_aldq (D := w.1) (cl := vwCl) (tys := gTy w) C.1 C.2.1 C.2.2.2.2.2.1.1 (g_atA hR0 (by omega) (gE_r ha)) 0 4 rfl rfl hi hd (kk H locs ls hR0 hL hlv)
theorem g_alen_i (C : GC z w d MC MS y cc n ret) {a : Nat} (ha : hK h a = 12) (hd : decode cc pc = .ok (.arraylength, 1)) (kk : GW z w n Q cn sn (pc + 1) lv (.int (nI (hN h a)) :: rest) h) : GW z w n Q cn sn pc lv (.ref a :: rest) h := fun H locs ls hR0 hL hlv => va_alen (D := w.1) (cl := vwCl) (tys := gTy w) C.1 C.2.1 C.2.2.2.2.2.1.1 (g_atA hR0 (by omega) (gE_i ha)) 0 0 rfl rfl rfl hd (kk H locs ls hR0 hL hlv)
theorem g_alen_b (C : GC z w d MC MS y cc n ret) {a : Nat} (ha : hK h a = 14) (hd : decode cc pc = .ok (.arraylength, 1)) (kk : GW z w n Q cn sn (pc + 1) lv (.int (nI (hN h a)) :: rest) h) : GW z w n Q cn sn pc lv (.ref a :: rest) h := fun H locs ls hR0 hL hlv => va_alen (D := w.1) (cl := vwCl) (tys := gTy w) C.1 C.2.1 C.2.2.2.2.2.1.1 (g_atA hR0 (by omega) (gE_b ha)) 0 2 rfl rfl rfl hd (kk H locs ls hR0 hL hlv)
theorem g_alen_r (C : GC z w d MC MS y cc n ret) {a : Nat} (ha : hK h a = 16) (hd : decode cc pc = .ok (.arraylength, 1)) (kk : GW z w n Q cn sn (pc + 1) lv (.int (nI (hN h a)) :: rest) h) : GW z w n Q cn sn pc lv (.ref a :: rest) h := fun H locs ls hR0 hL hlv => va_alen (D := w.1) (cl := vwCl) (tys := gTy w) C.1 C.2.1 C.2.2.2.2.2.1.1 (g_atA hR0 (by omega) (gE_r ha)) 0 4 rfl rfl rfl hd (kk H locs ls hR0 hL hlv)
theorem g_locs {H : Heap} {locs : List Loc} (hR0 : gR w h H) (hL : ∀ x ∈ locs, wA w x.base) {a : Nat} (ha : hK h a ≠ 0) (j : Nat) : ∀ x ∈ locs ++ [(⟨a, j⟩ : Loc)], wA w x.base := by
  intro x hx
  rcases List.mem_append.mp hx with h | h
  · exact hL x h
  · rw [List.mem_singleton.mp h]; exact (hR0.2.2.2 a ha).1
theorem g_arr {H : Heap} (hR0 : gR w h H) {a : Nat} {x : ClassId × vp_A} (hk : hK h a ≠ 0) (he : gE w.2.1 h a = .inl x) : H[a]? = some (vp_cell x.1 x.2) := by
  have h1 := (hR0.2.2.2 a hk).2
  rw [he] at h1
  exact h1
theorem g_iast (C : GC z w d MC MS y cc n ret) {a : Nat} {i : Int32} {x : Int32} (ha : hK h a = 12) (hi : vp_in i (hN h a)) (hd : decode cc pc = .ok (.iastore, 1)) (kk : GW z w n Q cn sn (pc + 1) lv rest (sI h a i.toNatClampNeg x)) : GW z w n Q cn sn pc lv (.int x :: .int i :: .ref a :: rest) h := by
  intro H locs ls hR0 hL hlv
  have hc := g_arr hR0 (by omega) (gE_i ha)
  refine W.iast C.1 C.2.1 hc ((C.2.2.2.2.2.1.1.2 0 _ rfl).1 (hN h a) _) (fun q => by cases q) (by show ¬ (i < 0 ∨ (arrV _ _ _).slots.size ≤ _); rw [arrV_size]; exact hi) rfl rfl hd fun H1 e z oq => ?_
  refine kk H1 _ ls (hR0.set (by omega) z oq rfl (fun _ => rfl) (fun _ => gE_sI) ?_) (g_locs hR0 hL (by omega) _) hlv
  rw [gE_i (show hK (sI h a i.toNatClampNeg x) a = 12 from ha)]
  show H1[a]? = some (vp_cell _ _)
  rw [e, vp_cell_i, vp_cell_i, arrV_store]
  show some (arrV _ _ _) = some (arrV _ _ _)
  congr 2
  funext q
  by_cases hq : q = i.toNatClampNeg
  · subst hq
    simp [updV, hI_sI]
    try rfl
  · simp [updV, hI_sI, hq]
theorem g_last (C : GC z w d MC MS y cc n ret) {a : Nat} {i : Int32} {x : Int64} (ha : hK h a = 13) (hi : vp_in i (hN h a)) (hd : decode cc pc = .ok (.lastore, 1)) (kk : GW z w n Q cn sn (pc + 1) lv rest (sL h a i.toNatClampNeg x)) : GW z w n Q cn sn pc lv (.long x :: .int i :: .ref a :: rest) h := by
  intro H locs ls hR0 hL hlv
  have hc := g_arr hR0 (by omega) (gE_l ha)
  refine W.last C.1 C.2.1 hc ((C.2.2.2.2.2.1.1.2 1 _ rfl).1 (hN h a) _) (fun q => by cases q) (by show ¬ (i < 0 ∨ (arrV _ _ _).slots.size ≤ _); rw [arrV_size]; exact hi) rfl rfl hd fun H1 e z oq => ?_
  refine kk H1 _ ls (hR0.set (by omega) z oq rfl (fun _ => rfl) (fun _ => gE_sL) ?_) (g_locs hR0 hL (by omega) _) hlv
  rw [gE_l (show hK (sL h a i.toNatClampNeg x) a = 13 from ha)]
  show H1[a]? = some (vp_cell _ _)
  rw [e, vp_cell_l, vp_cell_l, arrV_store]
  show some (arrV _ _ _) = some (arrV _ _ _)
  congr 2
  funext q
  by_cases hq : q = i.toNatClampNeg
  · subst hq
    simp [updV, hL_sL]
    try rfl
  · simp [updV, hL_sL, hq]
theorem g_bast (C : GC z w d MC MS y cc n ret) {a : Nat} {i : Int32} {x : Int32} (ha : hK h a = 14) (hi : vp_in i (hN h a)) (hd : decode cc pc = .ok (.bastore, 1)) (kk : GW z w n Q cn sn (pc + 1) lv rest (sI h a i.toNatClampNeg (vp_nar .byte x))) : GW z w n Q cn sn pc lv (.int x :: .int i :: .ref a :: rest) h := by
  intro H locs ls hR0 hL hlv
  have hc := g_arr hR0 (by omega) (gE_b ha)
  refine W.bast C.1 C.2.1 hc ((C.2.2.2.2.2.1.1.2 2 _ rfl).1 (hN h a) _) (fun q => by cases q) (by show ¬ (i < 0 ∨ (arrV _ _ _).slots.size ≤ _); rw [arrV_size]; exact hi) rfl rfl hd fun H1 e z oq => ?_
  refine kk H1 _ ls (hR0.set (by omega) z oq rfl (fun _ => rfl) (fun _ => gE_sI) ?_) (g_locs hR0 hL (by omega) _) hlv
  rw [gE_b (show hK (sI h a i.toNatClampNeg (vp_nar .byte x)) a = 14 from ha)]
  show H1[a]? = some (vp_cell _ _)
  rw [e, vp_cell_i, vp_cell_i, arrV_store]
  show some (arrV _ _ _) = some (arrV _ _ _)
  congr 2
  funext q
  by_cases hq : q = i.toNatClampNeg
  · subst hq
    simp [updV, hI_sI, vp_nar]
    try rfl
  · simp [updV, hI_sI, vp_nar, hq]
theorem g_zast (C : GC z w d MC MS y cc n ret) {a : Nat} {i : Int32} {x : Int32} (ha : hK h a = 15) (hi : vp_in i (hN h a)) (hd : decode cc pc = .ok (.bastore, 1)) (kk : GW z w n Q cn sn (pc + 1) lv rest (sI h a i.toNatClampNeg (vp_nar .boolean x))) : GW z w n Q cn sn pc lv (.int x :: .int i :: .ref a :: rest) h := by
  intro H locs ls hR0 hL hlv
  have hc := g_arr hR0 (by omega) (gE_z ha)
  refine W.zast C.1 C.2.1 hc ((C.2.2.2.2.2.1.1.2 3 _ rfl).1 (hN h a) _) (fun q => by cases q) (by show ¬ (i < 0 ∨ (arrV _ _ _).slots.size ≤ _); rw [arrV_size]; exact hi) rfl rfl hd fun H1 e z oq => ?_
  refine kk H1 _ ls (hR0.set (by omega) z oq rfl (fun _ => rfl) (fun _ => gE_sI) ?_) (g_locs hR0 hL (by omega) _) hlv
  rw [gE_z (show hK (sI h a i.toNatClampNeg (vp_nar .boolean x)) a = 15 from ha)]
  show H1[a]? = some (vp_cell _ _)
  rw [e, vp_cell_i, vp_cell_i, arrV_store]
  show some (arrV _ _ _) = some (arrV _ _ _)
  congr 2
  funext q
  by_cases hq : q = i.toNatClampNeg
  · subst hq
    simp [updV, hI_sI, vp_nar]
    try rfl
  · simp [updV, hI_sI, vp_nar, hq]
theorem g_aast (C : GC z w d MC MS y cc n ret) {a v : Nat} {i : Int32} (ha : hK h a = 16) (hv : hK h v = 3) (hi : vp_in i (hN h a)) (hd : decode cc pc = .ok (.aastore, 1)) (kk : GW z w n Q cn sn (pc + 1) lv rest (sR h a i.toNatClampNeg (some v))) : GW z w n Q cn sn pc lv (.ref v :: .int i :: .ref a :: rest) h := by
  intro H locs ls hR0 hL hlv
  have hc := g_arr hR0 (by omega) (gE_r ha)
  have hKs := C.2.2.2.2.2.1.1
  have hlt : i.toNatClampNeg < hN h a := Nat.not_le.mp fun q => hi (Or.inr q)
  have h0 : ¬ i < 0 := fun q => hi (Or.inl q)
  obtain ⟨r', hr', cellV, g1, g2, g3, -⟩ := g_at hR0 (ci := 2) hv (by omega) 0 _ rfl
  have hcls := (hKs.1 2 (RX2, TX2, 7) rfl).2
  obtain ⟨kA, comp, k1, k2, k3, -⟩ := (hKs.2 4 _ rfl).2
  have hcomp : comp = w.1.1 2 := Option.some.inj (k3.symm.trans hcls.1)
  subst hcomp
  obtain ⟨kC, hkC, -⟩ := hcls.2
  refine W.aast C.1 C.2.1 hc (fun q h => by cases h) (fun h => by cases h) k1 k2 rfl hkC ⟨h0, by show _ < (arrV _ _ _).slots.size; rw [arrV_size]; exact hlt⟩ g1 (fun q h => by rw [g3] at h; cases h) (by rw [g2]; exact hkC) (by rw [g2]; exact va_assign hcls) rfl rfl hd fun H1 e z oq => ?_
  refine kk H1 _ ls (hR0.set (by omega) z oq rfl (fun _ => rfl) (fun _ => gE_sR) ?_) (g_locs hR0 hL (by omega) _) hlv
  rw [gE_r (show hK (sR h a i.toNatClampNeg (some v)) a = 16 from ha)]
  show H1[a]? = some (vp_cell _ _)
  rw [e, vp_cell_q, vp_cell_q, arrV_store]
  show some (arrV _ _ _) = some (arrV _ _ _)
  congr 2
  funext q
  by_cases hq : q = i.toNatClampNeg
  · subst hq
    simp [updV, hR_sR, va_rf]
  · simp [updV, hR_sR, hq]
theorem g_aastN (C : GC z w d MC MS y cc n ret) {a : Nat} {i : Int32} (ha : hK h a = 16) (hi : vp_in i (hN h a)) (hd : decode cc pc = .ok (.aastore, 1)) (kk : GW z w n Q cn sn (pc + 1) lv rest (sR h a i.toNatClampNeg none)) : GW z w n Q cn sn pc lv (.null :: .int i :: .ref a :: rest) h := by
  intro H locs ls hR0 hL hlv
  have hc := g_arr hR0 (by omega) (gE_r ha)
  have hKs := C.2.2.2.2.2.1.1
  refine va_WaastN (C := RX2) C.1 C.2.1 hc ((hKs.2 4 _ rfl).1 (hN h a) _) (fun h => by cases h) (by show ¬ (i < 0 ∨ (arrV _ _ _).slots.size ≤ _); rw [arrV_size]; exact hi) rfl rfl hd fun H1 e z oq => ?_
  refine kk H1 _ ls (hR0.set (by omega) z oq rfl (fun _ => rfl) (fun _ => gE_sR) ?_) (g_locs hR0 hL (by omega) _) hlv
  rw [gE_r (show hK (sR h a i.toNatClampNeg none) a = 16 from ha)]
  show H1[a]? = some (vp_cell _ _)
  rw [e, vp_cell_q, vp_cell_q, arrV_store]
  show some (arrV _ _ _) = some (arrV _ _ _)
  congr 2
  funext q
  by_cases hq : q = i.toNatClampNeg
  · subst hq
    simp [updV, hR_sR, va_rf]
  · simp [updV, hR_sR, hq]
theorem g_new (C : GC z w d MC MS y cc n ret) {ci index N : Nat} {Cn : String} {T : u_T} (hc : vwCl[ci]? = some (Cn, T, N)) (hl : Cond.classLink y.cls index Cn ∈ gtb) (hi : Cond.instantiable Cn N ∈ gtb) (hini : Cond.initialized Cn ∈ gtb) (h1 : cn + 1 ≤ MC) (h2 : sn + N ≤ MS) (hd : decode cc pc = .ok (.new index, 3))
    (ht : ∀ ty : Nat → FieldType, (∀ k, k < N → parseFieldDescriptor (T k).2.2.1 = some (ty k)) → ∀ k t, (gTag ci)[k]? = some t → defaultValue (ty k) = if t = 0 then .int 0 else if t = 1 then .long 0 else .null)
    (kk : GW z w n Q (cn + 1) (sn + N) (pc + 3) lv (.ref (hT h) :: rest) (sN h (ci + 1) 0)) : GW z w n Q cn sn pc lv rest h := by
  intro H locs ls hR0 hL hlv
  obtain ⟨hci, hlay, ⟨ty0, hty0⟩, hnm, hlen⟩ := gcl hc
  have hKn := C.2.2.2.2.2.1.1.1 ci _ hc
  refine W.newcK C.1 C.2.1 C.2.2.2.1 (C.2.2.2.2.1 _ hl) (C.2.2.2.2.1 _ hi) (C.2.2.2.2.1 _ hini) rfl hd (by rw [C.2.2.2.2.2.2.2.2.2.2.2.1]; exact h1) (by rw [C.2.2.2.2.2.2.2.2.2.2.2.2]; exact h2) hKn.2.1 hR0.1 fun H1 kC hkC e1 z1 o1 => ?_
  refine kk H1 locs ls (hR0.new (by rw [hR0.1]; exact z1) (fun q hq => o1 q (by rw [← hR0.1]; exact hq)) rfl (fun b hb => by rw [hK_sN, if_neg hb]) (fun b hb => gE_sN hb) (fun _ => ?_)) hL hlv
  rw [gE_obj (show hK (sN h (ci + 1) 0) (hT h) = ci + 1 by rw [hK_sN, if_pos rfl]) hci]
  refine ⟨_, hc, (u_born ty0 C.2.2.2.2.1 hlay hKn hkC e1 hty0).to (fun k hk => ?_)⟩
  have hk' : k < (gTag ci).length := by rw [hlen]; exact hk
  obtain ⟨t, htk⟩ : ∃ t, (gTag ci)[k]? = some t := ⟨_, List.getElem?_eq_getElem hk'⟩
  rw [vp_V, List.getD_eq_getElem?_getD, gFl_get htk]
  show defaultValue (ty0 k) = gVal _ _ _ _
  rw [ht ty0 hty0 k t htk]
  simp only [gVal, hI_sN, hL_sN, hR_sN, if_pos]
  rfl
theorem g_newa (C : GC z w d MC MS y cc n ret) {atype : ArrayType} {kind : Nat} {v : Int32} {N : Nat} (hv : ¬ v < 0) (hN0 : v.toNatClampNeg = N) (hb : N * 8 ≤ 536870912) (h1 : cn + 1 ≤ MC) (h2 : sn + N ≤ MS)
    (hk : (atype = .int ∧ kind = 12) ∨ (atype = .long ∧ kind = 13) ∨ (atype = .byte ∧ kind = 14) ∨ (atype = .boolean ∧ kind = 15)) (hd : decode cc pc = .ok (.newarray atype, 2))
    (kk : GW z w n Q (cn + 1) (sn + N) (pc + 2) lv (.ref (hT h) :: rest) (sN h kind N)) : GW z w n Q cn sn pc lv (.int v :: rest) h := by
  intro H locs ls hR0 hLo hlv
  have hKs := C.2.2.2.2.2.1.1
  have hcm : ∀ t : ArrayType, N * componentBytes (newarray.typeOf t) ≤ 536870912 := fun t => Nat.le_trans (Nat.mul_le_mul_left N (by cases t <;> decide)) hb
  have fin : ∀ (t0 : Nat) (cA : ClassId) (H1 : Heap) (hz : H1.size = hT h + 1) (ho : ∀ q, q < hT h → H1[q]? = H[q]?), kind ≠ 0 → va_at w.1 vwCl (hT h, gE w.2.1 (sN h kind N) (hT h)) H1 → gR w (sN h kind N) H1 := by
    intro t0 cA H1 hz ho hk0 hat
    exact hR0.new (by rw [hR0.1]; exact hz) (fun q hq => ho q (by rw [← hR0.1]; exact hq)) rfl (fun b hb => by rw [hK_sN, if_neg hb]) (fun b hb => gE_sN hb) (fun _ => hat)
  have hkk : hK (sN h kind N) (hT h) = kind := by rw [hK_sN, if_pos rfl]
  have hnn : hN (sN h kind N) (hT h) = N := by rw [hN_sN, if_pos rfl]
  have hii : hI (sN h kind N) (hT h) = fun _ => 0 := by funext j; rw [hI_sN, if_pos rfl]
  have hll : hL (sN h kind N) (hT h) = fun _ => 0 := by funext j; rw [hL_sN, if_pos rfl]
  rcases hk with ⟨rfl, rfl⟩ | ⟨rfl, rfl⟩ | ⟨rfl, rfl⟩ | ⟨rfl, rfl⟩
  · refine va_newaK C.1 C.2.1 (atype := .int) (C.2.2.2.2.1 _ lA_int) rfl hd rfl hv hN0 (hcm .int) (by rw [C.2.2.2.2.2.2.2.2.2.2.2.1]; exact h1) (by rw [C.2.2.2.2.2.2.2.2.2.2.2.2]; exact h2) hR0.1 fun H1 cA e1 z1 o1 hAr hNm => ?_
    have hcA : cA = w.2.1 0 := Option.some.inj (hNm.symm.trans (hKs.2 0 _ rfl).2)
    subst hcA
    refine kk H1 locs ls (fin 0 (w.2.1 0) H1 z1 o1 (by omega) ?_) hLo hlv
    rw [gE_i hkk, hnn, hii]
    exact e1
  · refine va_newaK C.1 C.2.1 (atype := .long) (C.2.2.2.2.1 _ lA_long) rfl hd rfl hv hN0 (hcm .long) (by rw [C.2.2.2.2.2.2.2.2.2.2.2.1]; exact h1) (by rw [C.2.2.2.2.2.2.2.2.2.2.2.2]; exact h2) hR0.1 fun H1 cA e1 z1 o1 hAr hNm => ?_
    have hcA : cA = w.2.1 1 := Option.some.inj (hNm.symm.trans (hKs.2 1 _ rfl).2)
    subst hcA
    refine kk H1 locs ls (fin 1 (w.2.1 1) H1 z1 o1 (by omega) ?_) hLo hlv
    rw [gE_l hkk, hnn, hll]
    exact e1
  · refine va_newaK C.1 C.2.1 (atype := .byte) (C.2.2.2.2.1 _ lA_byte) rfl hd rfl hv hN0 (hcm .byte) (by rw [C.2.2.2.2.2.2.2.2.2.2.2.1]; exact h1) (by rw [C.2.2.2.2.2.2.2.2.2.2.2.2]; exact h2) hR0.1 fun H1 cA e1 z1 o1 hAr hNm => ?_
    have hcA : cA = w.2.1 2 := Option.some.inj (hNm.symm.trans (hKs.2 2 _ rfl).2)
    subst hcA
    refine kk H1 locs ls (fin 2 (w.2.1 2) H1 z1 o1 (by omega) ?_) hLo hlv
    rw [gE_b hkk, hnn, hii]
    exact e1
  · refine va_newaK C.1 C.2.1 (atype := .boolean) (C.2.2.2.2.1 _ lA_boolean) rfl hd rfl hv hN0 (hcm .boolean) (by rw [C.2.2.2.2.2.2.2.2.2.2.2.1]; exact h1) (by rw [C.2.2.2.2.2.2.2.2.2.2.2.2]; exact h2) hR0.1 fun H1 cA e1 z1 o1 hAr hNm => ?_
    have hcA : cA = w.2.1 3 := Option.some.inj (hNm.symm.trans (hKs.2 3 _ rfl).2)
    subst hcA
    refine kk H1 locs ls (fin 3 (w.2.1 3) H1 z1 o1 (by omega) ?_) hLo hlv
    rw [gE_z hkk, hnn, hii]
    exact e1
theorem g_anew (C : GC z w d MC MS y cc n ret) {index : Nat} {v : Int32} {N : Nat} (hl : Cond.classLink y.cls index RX2 ∈ gtb) (hv : ¬ v < 0) (hN0 : v.toNatClampNeg = N) (hb : N * 4 ≤ 536870912) (h1 : cn + 1 ≤ MC) (h2 : sn + N ≤ MS) (hd : decode cc pc = .ok (.anewarray index, 3))
    (kk : GW z w n Q (cn + 1) (sn + N) (pc + 3) lv (.ref (hT h) :: rest) (sN h 16 N)) : GW z w n Q cn sn pc lv (.int v :: rest) h := by
  intro H locs ls hR0 hL hlv
  subst hN0
  refine W.anew C.1 C.2.1 C.2.2.2.1 (C.2.2.2.2.1 _ hl) (va_AO.use C.2.2.2.2.2.1.2.2.1) rfl hd rfl hv hb (by rw [C.2.2.2.2.2.2.2.2.2.2.2.1]; exact h1) (by rw [C.2.2.2.2.2.2.2.2.2.2.2.2]; exact h2) fun cA kA comp f1 f2 f3 f4 => ?_
  obtain ⟨kA', comp', k1, k2, k3, k4⟩ := (C.2.2.2.2.2.1.1.2 4 _ rfl).2
  have hcA : cA = w.2.1 4 := Option.some.inj (f1.symm.trans k4)
  subst hcA
  rw [hR0.1]
  refine kk _ locs ls (hR0.new (by rw [Array.size_push]) (fun q hq => by rw [Array.getElem?_push, if_neg (Nat.ne_of_lt hq)]) rfl (fun b hb => by rw [hK_sN, if_neg hb]) (fun b hb => gE_sN hb) (fun _ => ?_)) hL hlv
  rw [gE_r (show hK (sN h 16 v.toNatClampNeg) (hT h) = 16 by rw [hK_sN, if_pos rfl]), hN_sN, if_pos rfl]
  have hrr : hR (sN h 16 v.toNatClampNeg) (hT h) = fun _ => none := by funext j; rw [hR_sN, if_pos rfl]
  rw [hrr]
  show (H.push _)[hT h]? = some (vp_cell _ _)
  rw [← hR0.1, Array.getElem?_push_size, vp_cell_q, arrV_new]
  rfl
theorem g_iret {P : Option Value → HS → Prop} (C : GC z w d MC MS y cc n (some .int)) {v : Int32} (h1 : cn ≤ MC) (h2 : sn ≤ MS) (hp : P (some (.int v)) h) (hd : decode cc pc = .ok (.ireturn, 1)) : GW z w n (gQ z w MC MS P) cn sn pc lv [.int v] h := fun H locs ls hR0 hL hlv => W.widen h1 h2 (W.iret C.1 C.2.1 C.2.2.2.2.2.2.1 (fun t ht _ => ⟨_, h, rfl, by rw [ht]; exact hR0, hp⟩) hL hd C.2.2.2.2.2.2.2.1)
theorem g_lret {P : Option Value → HS → Prop} (C : GC z w d MC MS y cc n (some .long)) {v : Int64} (h1 : cn ≤ MC) (h2 : sn ≤ MS) (hp : P (some (.long v)) h) (hd : decode cc pc = .ok (.lreturn, 1)) : GW z w n (gQ z w MC MS P) cn sn pc lv [.long v] h := fun H locs ls hR0 hL hlv => W.widen h1 h2 (W.lret C.1 C.2.1 C.2.2.2.2.2.2.1 (fun t ht _ => ⟨_, h, rfl, by rw [ht]; exact hR0, hp⟩) hL hd C.2.2.2.2.2.2.2.1)
theorem g_zret {P : Option Value → HS → Prop} (C : GC z w d MC MS y cc n (some .boolean)) {v : Int32} (hz : v = 0 ∨ v = 1) (h1 : cn ≤ MC) (h2 : sn ≤ MS) (hp : P (some (.int v)) h) (hd : decode cc pc = .ok (.ireturn, 1)) : GW z w n (gQ z w MC MS P) cn sn pc lv [.int v] h := fun H locs ls hR0 hL hlv => W.widen h1 h2 (W.zret C.1 C.2.1 C.2.2.2.2.2.2.1 (by rcases hz with rfl | rfl <;> rfl) (fun t ht _ => ⟨_, h, rfl, by rw [ht]; exact hR0, hp⟩) hL hd C.2.2.2.2.2.2.2.1)
theorem g_vret {P : Option Value → HS → Prop} (C : GC z w d MC MS y cc n none) (h1 : cn ≤ MC) (h2 : sn ≤ MS) (hp : P none h) (hd : decode cc pc = .ok (.return_, 1)) : GW z w n (gQ z w MC MS P) cn sn pc lv [] h := fun H locs ls hR0 hL hlv => W.widen h1 h2 (W.vret C.1 C.2.1 C.2.2.2.2.2.2.1 (fun t ht _ => ⟨_, h, rfl, by rw [ht]; exact hR0, hp⟩) hL hd C.2.2.2.2.2.2.2.1)
theorem g_aret {P : Option Value → HS → Prop} {Cn : String} (C : GC z w d MC MS y cc n (some (.object Cn))) {v : Nat} (h1 : cn ≤ MC) (h2 : sn ≤ MS) (hp : P (some (.ref v)) h) (hd : decode cc pc = .ok (.areturn, 1)) : GW z w n (gQ z w MC MS P) cn sn pc lv [.ref v] h := fun H locs ls hR0 hL hlv => W.widen h1 h2 (W.aret C.1 C.2.1 C.2.2.2.2.2.2.1 (Or.inl ⟨_, rfl⟩) (Or.inr ⟨_, rfl⟩) (fun t ht _ => ⟨_, h, rfl, by rw [ht]; exact hR0, hp⟩) hL hd C.2.2.2.2.2.2.2.1)
theorem g_blind {as : List Value} : FrameBlind (va_Pc as (fun U => gR w h U.heap ∧ gK w U)) := fun a U g mk q => ⟨q.1, q.2.1, gK.same (U := U.calling g mk a) rfl q.2.2⟩
theorem g_run {mc ms : Nat} {st : List Value} {P : Option Value → HS → Prop} {lv : List (Nat × Value)} (kk : ∀ r h', P r h' → GW z w n Q (cn + mc) (sn + ms) (pc + 3) lv (r.toList ++ rest) h') {H : Heap} {locs : List Loc} {ls : Array Slot} (hL : ∀ x ∈ locs, wA w x.base) (hlv : lv_has ls n lv) {Qa : Array Value → State → Outcome → State → Prop} (hQ : ∀ a s o t, Qa a s o t → ∃ r h', o = .returned r ∧ gR w h' t.heap ∧ P r h') {a : Array Value}
    (hr : va_Run z.1 z.2.1 z.2.2.1 (zR z) (zS z) (zM z) (zA z) (zB z) (zE z) (zC z) H locs cn sn mc ms (F0 (zM z) pc ls st) rest (Qa a) (fun q => wA w q)) : W z.1 z.2.1 z.2.2.1 (zR z) (zS z) (zM z) (zA z) (zB z) (zE z) (zC z) H locs cn sn Q (F0 (zM z) pc ls st) := by
  intro T hT0 X
  obtain ⟨v, st₀, t, T', L, h0, X', hLL, e1, e2, hq, stp⟩ := hr T hT0 X
  obtain ⟨r, h', hv, hR1, hp⟩ := hQ _ _ _ _ hq
  have hv : v = r := by cases hv; rfl
  subst hv
  obtain ⟨t2, a1, b1⟩ := kk v h' hp T'.heap (locs ++ L) ls (by rw [e1]; exact hR1) (fun x hx => by
      rcases List.mem_append.mp hx with h | h
      · exact hL x h
      · exact hLL x h) hlv T' rfl X'
  exact ⟨t2, stp t2 a1, b1⟩
theorem g_pre {H : Heap} {as : List Value} (C : GC z w d MC MS y cc n ret) (hR0 : gR w h H) : PreS (zS z) H (va_Pc as (fun U => gR w h U.heap ∧ gK w U)) as := ⟨g_blind, fun U hU hW => ⟨rfl, by rw [hU]; exact hR0, C.2.2.2.2.2.1.warm hW⟩⟩
theorem g_good (x : MethodName) (bytes : ByteArray) (maxL : Nat) (r : Option FieldType) (hc : Cond.code x bytes maxL r ∈ gtb) : GoodIn gtb (.code x bytes maxL r :: gtb) := g_goodIn (fun w hw => by
  rcases List.mem_cons.mp hw with h | h
  · subst h; exact hc
  · exact h)
theorem g_B (C : GC z w d MC MS y cc n ret) {dd mc ms index maxL k : Nat} {x : MethodName} {bytes : ByteArray} {rt : Option FieldType} (hini : Cond.initialized x.cls ∈ gtb) (hc : Cond.code x bytes maxL rt ∈ gtb) (hnm : x.cls ≠ "java/lang/invoke/MethodHandle" ∧ x.cls ≠ "java/lang/invoke/VarHandle" ∧ (parseMethodDescriptor x.desc).map (fun d => d.parameters.length) = some k) (hl : Cond.methodLink y.cls index x ∈ gtb) (hdd : dd + 1 ≤ d) (hm : maxL ≤ 45) :
    CallB (zR z) (zS z) (zA z) y.cls index x bytes maxL rt (.code x bytes maxL rt :: gtb) { frames := dd, cells := mc, slots := ms, locals := 64 * dd } mc ms k :=
  callB_of k C.2.2.2.2.1 (g_good x bytes maxL rt hc) rfl rfl rfl (C.2.2.2.2.1 _ hini) (C.2.2.2.2.1 _ hl) hnm ⟨Nat.le_trans hdd C.2.2.2.2.2.2.2.2.2.1, by have h1 := C.2.2.2.2.2.2.2.2.2.2.1; show 8 + (maxL + 11) + 64 * dd ≤ (zR z).locals; omega⟩
theorem g_callS (C : GC z w d MC MS y cc n ret) {dd mc ms index maxL k : Nat} {x : MethodName} {bytes : ByteArray} {rt : Option FieldType} {P : Option Value → HS → Prop} (As : List Value) (hm : gMs x bytes maxL rt k) (hl : Cond.methodLink y.cls index x ∈ gtb) (hE : Ev w dd mc ms x bytes maxL rt As h P) (hfl : z.2.1.flags = flags0) (hdd : dd + 1 ≤ d) (hmax : maxL ≤ 45) (h1 : cn + mc ≤ MC) (h2 : sn + ms ≤ MS) (hlen : As.length = k) {st : List Value} (hst : st = As.reverse ++ rest) (hrm : (rest.map fun v => v.category).sum ≤ 8) (hd : decode cc pc = .ok (.invokestatic index, 3))
    (kk : ∀ r h', P r h' → GW z w n Q (cn + mc) (sn + ms) (pc + 3) lv (r.toList ++ rest) h') : GW z w n Q cn sn pc lv st h := by
  intro H locs ls hR0 hL hlv
  obtain ⟨m1, m2, m3, m4⟩ := hm
  refine g_run (Qa := fun _ _ oc t => ∃ r h', oc = .returned r ∧ gR w h' t.heap ∧ P r h') kk hL hlv (fun _ _ _ _ q => q) (a := As.toArray) ?_
  exact va_runS (Ts := gtb) ⟨C.1, C.2.1, C.2.2.1, C.2.2.2.1, C.2.2.2.2.1⟩ (hE z.2.1 hfl) ⟨g_B C m2 m3 m4 hl hdd hmax, C.2.2.2.2.1 _ m1⟩ (g_pre C hR0) rfl hlen hlv.1 hst (lv_room hrm) hd ⟨by rw [C.2.2.2.2.2.2.2.2.2.2.2.1]; exact h1, by rw [C.2.2.2.2.2.2.2.2.2.2.2.2]; exact h2⟩
theorem g_recv {H : Heap} (C : GC z w d MC MS y cc n ret) (hR0 : gR w h H) {b ci : Nat} {r : vw_C} (hb : hK h b = ci + 1) (hc : vwCl[ci]? = some r) : ∃ cell : Cell, H[b]? = some cell ∧ cell.vm.isStatics = false ∧ (zS z).vm.findClass r.1 = some cell.cls :=
  va_recv C.2.2.2.2.2.1.1 (g_at hR0 hb (gcl hc).1) hc (q0 := 0) rfl
theorem g_callV (C : GC z w d MC MS y cc n ret) {dd mc ms index maxL k b ci : Nat} {x : MethodName} {bytes : ByteArray} {rt : Option FieldType} {rr : vw_C} {P : Option Value → HS → Prop} (As : List Value) (hm : gMi x bytes maxL rt k) (hl : Cond.methodLink y.cls index x ∈ gtb) (hb : hK h b = ci + 1) (hci : vwCl[ci]? = some rr) (hcx : rr.1 = x.cls) (hE : Ev w dd mc ms x bytes maxL rt (.ref b :: As) h P) (hfl : z.2.1.flags = flags0) (hdd : dd + 1 ≤ d) (hmax : maxL ≤ 45) (h1 : cn + mc ≤ MC) (h2 : sn + ms ≤ MS) (hlen : As.length = k) {st : List Value} (hst : st = As.reverse ++ .ref b :: rest) (hrm : (rest.map fun v => v.category).sum ≤ 8) (hd : decode cc pc = .ok (.invokevirtual index, 3))
    (kk : ∀ r h', P r h' → GW z w n Q (cn + mc) (sn + ms) (pc + 3) lv (r.toList ++ rest) h') : GW z w n Q cn sn pc lv st h := by
  intro H locs ls hR0 hL hlv
  obtain ⟨m0, m1, m2, m3, m4⟩ := hm
  refine g_run (Qa := fun _ _ oc t => ∃ r h', oc = .returned r ∧ gR w h' t.heap ∧ P r h') kk hL hlv (fun _ _ _ _ q => q) (a := (Value.ref b :: As).toArray) ?_
  have hrc := g_recv C hR0 hb hci
  rw [hcx] at hrc
  exact va_runV (Ts := gtb) (C := x.cls) ⟨C.1, C.2.1, C.2.2.1, C.2.2.2.1, C.2.2.2.2.1⟩ (hE z.2.1 hfl) ⟨g_B C m2 m3 m4 hl hdd hmax, C.2.2.2.2.1 _ m0, C.2.2.2.2.1 _ m1⟩ ⟨(g_pre (as := .ref b :: As) C hR0).1, hrc, (g_pre (as := .ref b :: As) C hR0).2⟩ rfl hlen hlv.1 hst (lv_room hrm) hd ⟨by rw [C.2.2.2.2.2.2.2.2.2.2.2.1]; exact h1, by rw [C.2.2.2.2.2.2.2.2.2.2.2.2]; exact h2⟩
theorem g_callI (C : GC z w d MC MS y cc n ret) {dd mc ms index maxL k b : Nat} {x : MethodName} {bytes : ByteArray} {P : Option Value → HS → Prop} (As : List Value) (hm : gMc x bytes maxL k) (hl : Cond.methodLink y.cls index x ∈ gtb) (hE : Ev w dd mc ms x bytes maxL none (.ref b :: As) h P) (hfl : z.2.1.flags = flags0) (hdd : dd + 1 ≤ d) (hmax : maxL ≤ 45) (h1 : cn + mc ≤ MC) (h2 : sn + ms ≤ MS) (hlen : As.length = k) {st : List Value} (hst : st = As.reverse ++ .ref b :: rest) (hrm : (rest.map fun v => v.category).sum ≤ 8) (hd : decode cc pc = .ok (.invokespecial index, 3))
    (kk : ∀ r h', P r h' → GW z w n Q (cn + mc) (sn + ms) (pc + 3) lv (r.toList ++ rest) h') : GW z w n Q cn sn pc lv st h := by
  intro H locs ls hR0 hL hlv
  obtain ⟨m0, m2, m3, mi, m4⟩ := hm
  refine g_run (Qa := fun _ _ oc t => ∃ r h', oc = .returned r ∧ gR w h' t.heap ∧ P r h') kk hL hlv (fun _ _ _ _ q => q) (a := (Value.ref b :: As).toArray) ?_
  exact va_runI (Ts := gtb) ⟨C.1, C.2.1, C.2.2.1, C.2.2.2.1, C.2.2.2.2.1⟩ (hE z.2.1 hfl) ⟨g_B C m2 m3 m4 hl hdd hmax, mi, C.2.2.2.2.1 _ m0⟩ (g_pre (as := .ref b :: As) C hR0) rfl hlen hlv.1 hst (lv_room hrm) hd ⟨by rw [C.2.2.2.2.2.2.2.2.2.2.2.1]; exact h1, by rw [C.2.2.2.2.2.2.2.2.2.2.2.2]; exact h2⟩
theorem g_callIN (C : GC z w d MC MS y cc n ret) {dd mc ms index maxL k b : Nat} {x : MethodName} {bytes : ByteArray} {host : String} {P : Option Value → HS → Prop} (As : List Value) (hm : gMc x bytes maxL k) (hl : (y.cls, index, x, host) ∈ gNm) (hE : Ev w dd mc ms x bytes maxL none (.ref b :: As) h P) (hfl : z.2.1.flags = flags0) (hdd : dd + 1 ≤ d) (hmax : maxL ≤ 45) (h1 : cn + mc ≤ MC) (h2 : sn + ms ≤ MS) (hlen : As.length = k) {st : List Value} (hst : st = As.reverse ++ .ref b :: rest) (hrm : (rest.map fun v => v.category).sum ≤ 8) (hd : decode cc pc = .ok (.invokespecial index, 3))
    (kk : ∀ r h', P r h' → GW z w n Q (cn + mc) (sn + ms) (pc + 3) lv (r.toList ++ rest) h') : GW z w n Q cn sn pc lv st h := by
  intro H locs ls hR0 hL hlv
  obtain ⟨m0, m2, m3, mi, m4⟩ := hm
  refine g_run (Qa := fun _ _ oc t => ∃ r h', oc = .returned r ∧ gR w h' t.heap ∧ P r h') kk hL hlv (fun _ _ _ _ q => q) (a := (Value.ref b :: As).toArray) ?_
  exact va_runIN (Ts := gtb) (host := host) ⟨C.1, C.2.1, C.2.2.1, C.2.2.2.1, C.2.2.2.2.1⟩ (hE z.2.1 hfl) ⟨va_cnB k C.2.2.2.2.1 (g_good x bytes maxL none m3) rfl rfl rfl (C.2.2.2.2.2.1.2.2.2.1 _ hl) (C.2.2.2.2.1 _ m2) m4 ⟨Nat.le_trans hdd C.2.2.2.2.2.2.2.2.2.1, by have h1 := C.2.2.2.2.2.2.2.2.2.2.1; show 8 + (maxL + 11) + 64 * dd ≤ (zR z).locals; omega⟩, mi, C.2.2.2.2.1 _ m0⟩ (g_pre (as := .ref b :: As) C hR0) rfl hlen hlv.1 hst (lv_room hrm) hd ⟨by rw [C.2.2.2.2.2.2.2.2.2.2.2.1]; exact h1, by rw [C.2.2.2.2.2.2.2.2.2.2.2.2]; exact h2⟩
theorem g_objInit (C : GC z w d MC MS y cc n ret) {a index : Nat} (hl : Cond.methodLink y.cls index objectInit ∈ gtb) (hi : Cond.instanceMethod objectInit ∈ gtb) (hc : Cond.code objectInit ⟨#[0xb1]⟩ 1 none ∈ gtb) (hd1 : 1 ≤ d) (hrm : rest = []) (hd : decode cc pc = .ok (.invokespecial index, 3)) (kk : GW z w n Q cn sn (pc + 3) lv rest h) : GW z w n Q cn sn pc lv (.ref a :: rest) h := by
  intro H locs ls hR0 hL hlv
  subst hrm
  refine W.objInit C.1 C.2.1 C.2.2.2.1 (C.2.2.2.2.1 _ hl) (C.2.2.2.2.1 _ hi) (C.2.2.2.2.1 _ hc) rfl (by rw [C.2.2.1]; exact hlv.1) rfl hd (Nat.le_trans hd1 C.2.2.2.2.2.2.2.2.2.1) (by have h1 := C.2.2.2.2.2.2.2.2.2.2.1; show _ ≤ (zR z).locals; simp; omega) ?_
  exact kk H locs ls hR0 hL hlv
/-- the static row of no places -/
theorem g_noplaces (C : GC z w d MC MS y cc n ret) (hy : y.cls = RX2) (hd : decode cc pc = .ok (.getstatic 19, 3)) (kk : GW z w n Q cn sn (pc + 3) lv (.ref w.2.2.2 :: rest) h) : GW z w n Q cn sn pc lv rest h := by
  intro H locs ls hR0 hL hlv
  obtain ⟨-, hZ, -, -, hN5, hal⟩ := C.2.2.2.2.2.1
  obtain ⟨cf, kf, fi, f, a, cell, f1, f2, f3, f4, f5, f6, f7, f8⟩ := hZ
  have hown := C.2.2.2.1
  rw [hy] at hown
  exact va_WgetsN C.1 C.2.1 hown (va_Nw.use rfl hN5) f1 f2 f3 f4 (by rw [hR0.2.2.1 a f8]; exact f5) (fun e => by rw [e] at f6; cases f6) f7 rfl hd (kk H locs ls hR0 hL hlv)
end Rows2
