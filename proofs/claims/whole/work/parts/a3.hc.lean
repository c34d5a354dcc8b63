/-! Heaps with cells laid behind one another: what constructors make -/
/-- a cell: its kind, its length, its ints, its references -/
abbrev Cl : Type := Nat × Nat × (Nat → Int32) × (Nat → Option Nat)
def zc (k n : Nat) : Cl := (k, n, fun _ => 0, fun _ => none)
def clA (L : List Cl) (i : Nat) : Cl := (L[i]?).getD (zc 0 0)
/-- h with the cells L from a on, and nothing behind -/
def hC (h : HS) (a : Nat) (L : List Cl) : HS := (fun b j => if a ≤ b ∧ b < a + L.length then (clA L (b - a)).2.2.1 j else hI h b j, fun b j => if a ≤ b ∧ b < a + L.length then 0 else hL h b j, fun b j => if a ≤ b ∧ b < a + L.length then (clA L (b - a)).2.2.2 j else hR h b j, fun b => if a ≤ b ∧ b < a + L.length then (clA L (b - a)).1 else hK h b, fun b => if a ≤ b ∧ b < a + L.length then (clA L (b - a)).2.1 else hN h b, a + L.length)
theorem cAt_app (L L' : List Cl) (i : Nat) : clA (L ++ L') i = if i < L.length then clA L i else clA L' (i - L.length) := by
  unfold clA
  rw [List.getElem?_append]
  by_cases e : i < L.length
  · rw [if_pos e, if_pos e]
  · rw [if_neg e, if_neg e]
theorem cAt_some {L : List Cl} {i : Nat} {q : Cl} (e : L[i]? = some q) : clA L i = q := by unfold clA; rw [e]; rfl
section HC
variable {h : HS} {a : Nat} {L L' : List Cl}
theorem hC_T : hT (hC h a L) = a + L.length := rfl
theorem hC_Tn {n : Nat} (e : L.length = n) : hT (hC h a L) = a + n := by rw [hC_T, e]
theorem hC_hC (h : HS) (a : Nat) (L L' : List Cl) : hC (hC h a L) (a + L.length) L' = hC h a (L ++ L') := by
  refine Prod.ext (funext fun b => funext fun j => ?_) (Prod.ext (funext fun b => funext fun j => ?_) (Prod.ext (funext fun b => funext fun j => ?_) (Prod.ext (funext fun b => ?_) (Prod.ext (funext fun b => ?_) ?_))))
  · show (if a + L.length ≤ b ∧ b < a + L.length + L'.length then (clA L' (b - (a + L.length))).2.2.1 j else if a ≤ b ∧ b < a + L.length then (clA L (b - a)).2.2.1 j else hI h b j) = (if a ≤ b ∧ b < a + (L ++ L').length then (clA (L ++ L') (b - a)).2.2.1 j else hI h b j)
    rw [cAt_app, List.length_append]
    by_cases e1 : a + L.length ≤ b ∧ b < a + L.length + L'.length
    · rw [if_pos e1, if_pos (by omega), if_neg (by omega), show b - a - L.length = b - (a + L.length) by omega]
    · rw [if_neg e1]
      by_cases e2 : a ≤ b ∧ b < a + L.length
      · rw [if_pos e2, if_pos (by omega), if_pos (by omega)]
      · rw [if_neg e2, if_neg (by omega)]
  · show (if a + L.length ≤ b ∧ b < a + L.length + L'.length then 0 else if a ≤ b ∧ b < a + L.length then 0 else hL h b j) = (if a ≤ b ∧ b < a + (L ++ L').length then 0 else hL h b j)
    rw [List.length_append]
    by_cases e1 : a + L.length ≤ b ∧ b < a + L.length + L'.length
    · rw [if_pos e1, if_pos (by omega)]
    · rw [if_neg e1]
      by_cases e2 : a ≤ b ∧ b < a + L.length
      · rw [if_pos e2, if_pos (by omega)]
      · rw [if_neg e2, if_neg (by omega)]
  · show (if a + L.length ≤ b ∧ b < a + L.length + L'.length then (clA L' (b - (a + L.length))).2.2.2 j else if a ≤ b ∧ b < a + L.length then (clA L (b - a)).2.2.2 j else hR h b j) = (if a ≤ b ∧ b < a + (L ++ L').length then (clA (L ++ L') (b - a)).2.2.2 j else hR h b j)
    rw [cAt_app, List.length_append]
    by_cases e1 : a + L.length ≤ b ∧ b < a + L.length + L'.length
    · rw [if_pos e1, if_pos (by omega), if_neg (by omega), show b - a - L.length = b - (a + L.length) by omega]
    · rw [if_neg e1]
      by_cases e2 : a ≤ b ∧ b < a + L.length
      · rw [if_pos e2, if_pos (by omega), if_pos (by omega)]
      · rw [if_neg e2, if_neg (by omega)]
  · show (if a + L.length ≤ b ∧ b < a + L.length + L'.length then (clA L' (b - (a + L.length))).1 else if a ≤ b ∧ b < a + L.length then (clA L (b - a)).1 else hK h b) = (if a ≤ b ∧ b < a + (L ++ L').length then (clA (L ++ L') (b - a)).1 else hK h b)
    rw [cAt_app, List.length_append]
    by_cases e1 : a + L.length ≤ b ∧ b < a + L.length + L'.length
    · rw [if_pos e1, if_pos (by omega), if_neg (by omega), show b - a - L.length = b - (a + L.length) by omega]
    · rw [if_neg e1]
      by_cases e2 : a ≤ b ∧ b < a + L.length
      · rw [if_pos e2, if_pos (by omega), if_pos (by omega)]
      · rw [if_neg e2, if_neg (by omega)]
  · show (if a + L.length ≤ b ∧ b < a + L.length + L'.length then (clA L' (b - (a + L.length))).2.1 else if a ≤ b ∧ b < a + L.length then (clA L (b - a)).2.1 else hN h b) = (if a ≤ b ∧ b < a + (L ++ L').length then (clA (L ++ L') (b - a)).2.1 else hN h b)
    rw [cAt_app, List.length_append]
    by_cases e1 : a + L.length ≤ b ∧ b < a + L.length + L'.length
    · rw [if_pos e1, if_pos (by omega), if_neg (by omega), show b - a - L.length = b - (a + L.length) by omega]
    · rw [if_neg e1]
      by_cases e2 : a ≤ b ∧ b < a + L.length
      · rw [if_pos e2, if_pos (by omega), if_pos (by omega)]
      · rw [if_neg e2, if_neg (by omega)]
  · show a + L.length + L'.length = a + (L ++ L').length
    rw [List.length_append, Nat.add_assoc]
theorem sN_hC (h : HS) (k n : Nat) : sN h k n = hC h (hT h) [zc k n] := by
  refine Prod.ext (funext fun b => funext fun j => ?_) (Prod.ext (funext fun b => funext fun j => ?_) (Prod.ext (funext fun b => funext fun j => ?_) (Prod.ext (funext fun b => ?_) (Prod.ext (funext fun b => ?_) rfl))))
  · show (if b = hT h then 0 else h.1 b j) = (if hT h ≤ b ∧ b < hT h + 1 then (clA [zc k n] (b - hT h)).2.2.1 j else hI h b j)
    by_cases e : b = hT h
    · rw [if_pos e, if_pos (by omega), show b - hT h = 0 by omega]; rfl
    · rw [if_neg e, if_neg (by omega)]; rfl
  · show (if b = hT h then 0 else h.2.1 b j) = (if hT h ≤ b ∧ b < hT h + 1 then 0 else hL h b j)
    by_cases e : b = hT h
    · rw [if_pos e, if_pos (by omega)]
    · rw [if_neg e, if_neg (by omega)]; rfl
  · show (if b = hT h then none else h.2.2.1 b j) = (if hT h ≤ b ∧ b < hT h + 1 then (clA [zc k n] (b - hT h)).2.2.2 j else hR h b j)
    by_cases e : b = hT h
    · rw [if_pos e, if_pos (by omega), show b - hT h = 0 by omega]; rfl
    · rw [if_neg e, if_neg (by omega)]; rfl
  · show (if b = hT h then k else h.2.2.2.1 b) = (if hT h ≤ b ∧ b < hT h + 1 then (clA [zc k n] (b - hT h)).1 else hK h b)
    by_cases e : b = hT h
    · rw [if_pos e, if_pos (by omega), show b - hT h = 0 by omega]; rfl
    · rw [if_neg e, if_neg (by omega)]; rfl
  · show (if b = hT h then n else h.2.2.2.2.1 b) = (if hT h ≤ b ∧ b < hT h + 1 then (clA [zc k n] (b - hT h)).2.1 else hN h b)
    by_cases e : b = hT h
    · rw [if_pos e, if_pos (by omega), show b - hT h = 0 by omega]; rfl
    · rw [if_neg e, if_neg (by omega)]; rfl
theorem hC_n {x : Cl} {k n : Nat} : sN (hC h a (x :: L)) k n = hC h a (x :: (L ++ [zc k n])) := by rw [sN_hC, hC_T, hC_hC]; rfl
theorem hC_c {x : Cl} {n : Nat} (e : (x :: L).length = n) : hC (hC h a (x :: L)) (a + n) L' = hC h a (x :: (L ++ L')) := by rw [← e, hC_hC]; rfl
theorem hC_K0 {k n : Nat} {I : Nat → Int32} {r : Nat → Option Nat} : hK (hC h a ((k, n, I, r) :: L)) a = k := by
  show (if a ≤ a ∧ a < a + ((k, n, I, r) :: L).length then (clA ((k, n, I, r) :: L) (a - a)).1 else hK h a) = k
  rw [if_pos ⟨Nat.le_refl _, by rw [List.length_cons]; omega⟩, Nat.sub_self]
  rfl
theorem hC_i {k n : Nat} {I : Nat → Int32} {r : Nat → Option Nat} {j : Nat} {v : Int32} : sI (hC h a ((k, n, I, r) :: L)) a j v = hC h a ((k, n, upd I j v, r) :: L) := by
  refine Prod.ext (funext fun b => funext fun i => ?_) (Prod.ext rfl (Prod.ext (funext fun b => funext fun i => ?_) (Prod.ext (funext fun b => ?_) (Prod.ext (funext fun b => ?_) rfl))))
  · show (if b = a ∧ i = j then v else if a ≤ b ∧ b < a + ((k, n, I, r) :: L).length then (clA ((k, n, I, r) :: L) (b - a)).2.2.1 i else hI h b i) = (if a ≤ b ∧ b < a + ((k, n, upd I j v, r) :: L).length then (clA ((k, n, upd I j v, r) :: L) (b - a)).2.2.1 i else hI h b i)
    rw [List.length_cons, List.length_cons]
    by_cases e : b = a
    · rw [e, if_pos (c := a ≤ a ∧ a < a + (L.length + 1)) (by omega), if_pos (c := a ≤ a ∧ a < a + (L.length + 1)) (by omega), Nat.sub_self]
      show (if a = a ∧ i = j then v else I i) = if i = j then v else I i
      by_cases e2 : i = j
      · rw [if_pos ⟨rfl, e2⟩, if_pos e2]
      · rw [if_neg (fun x => e2 x.2), if_neg e2]
    · rw [if_neg (fun x => e x.1)]
      by_cases e2 : a ≤ b ∧ b < a + (L.length + 1)
      · rw [if_pos e2, if_pos e2]
        obtain ⟨d, hd⟩ : ∃ d, b - a = d + 1 := ⟨b - a - 1, by omega⟩
        rw [hd]; rfl
      · rw [if_neg e2, if_neg e2]
  · show (if a ≤ b ∧ b < a + ((k, n, I, r) :: L).length then (clA ((k, n, I, r) :: L) (b - a)).2.2.2 i else hR h b i) = (if a ≤ b ∧ b < a + ((k, n, upd I j v, r) :: L).length then (clA ((k, n, upd I j v, r) :: L) (b - a)).2.2.2 i else hR h b i)
    rw [List.length_cons, List.length_cons]
    cases b - a <;> rfl
  · show (if a ≤ b ∧ b < a + ((k, n, I, r) :: L).length then (clA ((k, n, I, r) :: L) (b - a)).1 else hK h b) = (if a ≤ b ∧ b < a + ((k, n, upd I j v, r) :: L).length then (clA ((k, n, upd I j v, r) :: L) (b - a)).1 else hK h b)
    rw [List.length_cons, List.length_cons]
    cases b - a <;> rfl
  · show (if a ≤ b ∧ b < a + ((k, n, I, r) :: L).length then (clA ((k, n, I, r) :: L) (b - a)).2.1 else hN h b) = (if a ≤ b ∧ b < a + ((k, n, upd I j v, r) :: L).length then (clA ((k, n, upd I j v, r) :: L) (b - a)).2.1 else hN h b)
    rw [List.length_cons, List.length_cons]
    cases b - a <;> rfl
theorem hC_r {k n : Nat} {I : Nat → Int32} {r : Nat → Option Nat} {j : Nat} {v : Option Nat} : sR (hC h a ((k, n, I, r) :: L)) a j v = hC h a ((k, n, I, updO r j v) :: L) := by
  refine Prod.ext (funext fun b => funext fun i => ?_) (Prod.ext rfl (Prod.ext (funext fun b => funext fun i => ?_) (Prod.ext (funext fun b => ?_) (Prod.ext (funext fun b => ?_) rfl))))
  · show (if a ≤ b ∧ b < a + ((k, n, I, r) :: L).length then (clA ((k, n, I, r) :: L) (b - a)).2.2.1 i else hI h b i) = (if a ≤ b ∧ b < a + ((k, n, I, updO r j v) :: L).length then (clA ((k, n, I, updO r j v) :: L) (b - a)).2.2.1 i else hI h b i)
    rw [List.length_cons, List.length_cons]
    cases b - a <;> rfl
  · show (if b = a ∧ i = j then v else if a ≤ b ∧ b < a + ((k, n, I, r) :: L).length then (clA ((k, n, I, r) :: L) (b - a)).2.2.2 i else hR h b i) = (if a ≤ b ∧ b < a + ((k, n, I, updO r j v) :: L).length then (clA ((k, n, I, updO r j v) :: L) (b - a)).2.2.2 i else hR h b i)
    rw [List.length_cons, List.length_cons]
    by_cases e : b = a
    · rw [e, if_pos (c := a ≤ a ∧ a < a + (L.length + 1)) (by omega), if_pos (c := a ≤ a ∧ a < a + (L.length + 1)) (by omega), Nat.sub_self]
      show (if a = a ∧ i = j then v else r i) = if i = j then v else r i
      by_cases e2 : i = j
      · rw [if_pos ⟨rfl, e2⟩, if_pos e2]
      · rw [if_neg (fun x => e2 x.2), if_neg e2]
    · rw [if_neg (fun x => e x.1)]
      by_cases e2 : a ≤ b ∧ b < a + (L.length + 1)
      · rw [if_pos e2, if_pos e2]
        obtain ⟨d, hd⟩ : ∃ d, b - a = d + 1 := ⟨b - a - 1, by omega⟩
        rw [hd]; rfl
      · rw [if_neg e2, if_neg e2]
  · show (if a ≤ b ∧ b < a + ((k, n, I, r) :: L).length then (clA ((k, n, I, r) :: L) (b - a)).1 else hK h b) = (if a ≤ b ∧ b < a + ((k, n, I, updO r j v) :: L).length then (clA ((k, n, I, updO r j v) :: L) (b - a)).1 else hK h b)
    rw [List.length_cons, List.length_cons]
    cases b - a <;> rfl
  · show (if a ≤ b ∧ b < a + ((k, n, I, r) :: L).length then (clA ((k, n, I, r) :: L) (b - a)).2.1 else hN h b) = (if a ≤ b ∧ b < a + ((k, n, I, updO r j v) :: L).length then (clA ((k, n, I, updO r j v) :: L) (b - a)).2.1 else hN h b)
    rw [List.length_cons, List.length_cons]
    cases b - a <;> rfl
/-- what the i-th cell holds -/
theorem hC_at {i k n : Nat} {I : Nat → Int32} {r : Nat → Option Nat} (e : L[i]? = some (k, n, I, r)) : hK (hC h a L) (a + i) = k ∧ hN (hC h a L) (a + i) = n ∧ hI (hC h a L) (a + i) = I ∧ hR (hC h a L) (a + i) = r ∧ hL (hC h a L) (a + i) = fun _ => 0 := by
  have hi : i < L.length := by
    obtain ⟨hi, -⟩ := List.getElem?_eq_some_iff.mp e
    exact hi
  have c : a ≤ a + i ∧ a + i < a + L.length := by omega
  have ec := cAt_some e
  refine ⟨?_, ?_, funext fun j => ?_, funext fun j => ?_, funext fun j => ?_⟩
  · show (if a ≤ a + i ∧ a + i < a + L.length then (clA L (a + i - a)).1 else hK h (a + i)) = k
    rw [if_pos c, Nat.add_sub_cancel_left, ec]
  · show (if a ≤ a + i ∧ a + i < a + L.length then (clA L (a + i - a)).2.1 else hN h (a + i)) = n
    rw [if_pos c, Nat.add_sub_cancel_left, ec]
  · show (if a ≤ a + i ∧ a + i < a + L.length then (clA L (a + i - a)).2.2.1 j else hI h (a + i) j) = I j
    rw [if_pos c, Nat.add_sub_cancel_left, ec]
  · show (if a ≤ a + i ∧ a + i < a + L.length then (clA L (a + i - a)).2.2.2 j else hR h (a + i) j) = r j
    rw [if_pos c, Nat.add_sub_cancel_left, ec]
  · show (if a ≤ a + i ∧ a + i < a + L.length then 0 else hL h (a + i) j) = 0
    rw [if_pos c]
theorem hC_lo {b : Nat} (hb : b < a) : hK (hC h a L) b = hK h b ∧ hN (hC h a L) b = hN h b ∧ hI (hC h a L) b = hI h b ∧ hR (hC h a L) b = hR h b ∧ hL (hC h a L) b = hL h b := by
  have c : ¬ (a ≤ b ∧ b < a + L.length) := by omega
  exact ⟨if_neg c, if_neg c, funext fun j => if_neg c, funext fun j => if_neg c, funext fun j => if_neg c⟩
theorem hC_ext : hExt h (hC h (hT h) L) := ⟨by rw [hC_T]; omega, fun b hb => by
  obtain ⟨a1, a2, a3, a4, a5⟩ := hC_lo (h := h) (L := L) hb
  exact ⟨a3, a5, a4, a1, a2⟩⟩
end HC
/-- a piece of weight 0 just made -/
theorem pcF_hC (np : Nat) (h : HS) (e : Int32) : pcF np h 0 e = hC h (hT h) [(3, 0, pcI 0 0 e, pcR4 np np np np)] := by
  unfold pcF
  rw [if_pos (show szP 0 = 0 from rfl)]
  generalize hT h = a
  refine Prod.ext (funext fun b => funext fun j => ?_) (Prod.ext (funext fun b => funext fun j => ?_) (Prod.ext (funext fun b => funext fun j => ?_) (Prod.ext (funext fun b => ?_) (Prod.ext (funext fun b => ?_) rfl))))
  · show (if b = a then pcI 0 0 e j else if a < b ∧ b ≤ a + 0 then 0 else hI h b j) = (if a ≤ b ∧ b < a + 1 then (clA [(3, 0, pcI 0 0 e, pcR4 np np np np)] (b - a)).2.2.1 j else hI h b j)
    by_cases q : b = a
    · rw [if_pos q, if_pos (by omega), show b - a = 0 by omega]; rfl
    · rw [if_neg q, if_neg (by omega), if_neg (by omega)]
  · show (if a ≤ b ∧ b ≤ a + 0 then 0 else hL h b j) = (if a ≤ b ∧ b < a + 1 then 0 else hL h b j)
    by_cases q : b = a
    · rw [if_pos (by omega), if_pos (by omega)]
    · rw [if_neg (by omega), if_neg (by omega)]
  · show (if b = a then pcR4 np np np np j else if a < b ∧ b ≤ a + 0 then none else hR h b j) = (if a ≤ b ∧ b < a + 1 then (clA [(3, 0, pcI 0 0 e, pcR4 np np np np)] (b - a)).2.2.2 j else hR h b j)
    by_cases q : b = a
    · rw [if_pos q, if_pos (by omega), show b - a = 0 by omega]; rfl
    · rw [if_neg q, if_neg (by omega), if_neg (by omega)]
  · show (if b = a then 3 else if a < b ∧ b ≤ a + 0 then 12 else hK h b) = (if a ≤ b ∧ b < a + 1 then (clA [(3, 0, pcI 0 0 e, pcR4 np np np np)] (b - a)).1 else hK h b)
    by_cases q : b = a
    · rw [if_pos q, if_pos (by omega), show b - a = 0 by omega]; rfl
    · rw [if_neg q, if_neg (by omega), if_neg (by omega)]
  · show (if b = a then 0 else if a < b ∧ b ≤ a + 0 then _ else hN h b) = (if a ≤ b ∧ b < a + 1 then (clA [(3, 0, pcI 0 0 e, pcR4 np np np np)] (b - a)).2.1 else hN h b)
    by_cases q : b = a
    · rw [if_pos q, if_pos (by omega), show b - a = 0 by omega]; rfl
    · rw [if_neg q, if_neg (c := a < b ∧ b ≤ a + 0) (by omega), if_neg (by omega)]
