/-! The start: what the Statement gives -/
theorem st_arr {args : Array Value} {s : State} {ty : FieldType} (h : (Cond.arrayClass ty).before args s = true) (hr : ty = .int ∨ ty = .long ∨ ty = .byte ∨ ty = .boolean) : ∃ c : ClassId, ArrOfT s c ty ∧ va_RA s c ty := by
  obtain ⟨c, k, comp, h1, h2, h3⟩ := Cond.arrayClass_spec h
  refine ⟨c, fun n z => ⟨fun k h => (by cases h), k, h2, comp, h3⟩, ?_⟩
  rcases hr with rfl | rfl | rfl | rfl <;> exact h1
theorem st_arrO {args : Array Value} {s : State} {C : String} (h : (Cond.arrayOver (.object C)).before args s = true) : ∃ c : ClassId, ArrOfT s c (.object C) ∧ va_RA s c (.object C) := by
  obtain ⟨comp, c, k, h1, h2, h3, h4, h5⟩ := Cond.arrayOver_spec h
  exact ⟨c, fun n z => ⟨fun k h => (by cases h), k, h3, comp, h4⟩, k, comp, h3, h4, h1, h5⟩
def tmS (i : Nat) : Term := if i = 0 then .string "TestJudgeModel" 200 else .string "TestJudgeModel" 190
theorem st_el0 : ∀ j, j < 46 → Cond.eq (.elem (.field (tmS 0) "java/lang/String" "value" "[B") (.int (Int32.ofNat j))) (.int ((gByt.getD 0 []).getD j 0)) ∈ flatC (Jvm.Cond.and given_1 narrow_1) := by decide +kernel
theorem st_el1 : ∀ j, j < 9 → Cond.eq (.elem (.field (tmS 1) "java/lang/String" "value" "[B") (.int (Int32.ofNat j))) (.int ((gByt.getD 1 []).getD j 0)) ∈ flatC (Jvm.Cond.and given_1 narrow_1) := by decide +kernel
theorem st_cls {args : Array Value} {s : State} (hg : ∀ w ∈ gtb, w.before args s = true) (k : Nat) (q : vw_C) (hq : vwCl[k]? = some q) : ∃ (cC : ClassId) (iS : Nat → Nat), u_Kn s q.1 q.2.1 q.2.2 cC iS := by
  obtain ⟨hci, hlay, -, -, -⟩ := gcl hq
  rcases (show k = 0 ∨ k = 1 ∨ k = 2 ∨ k = 3 ∨ k = 4 ∨ k = 5 ∨ k = 6 ∨ k = 7 ∨ k = 8 ∨ k = 9 ∨ k = 10 by omega) with rfl | rfl | rfl | rfl | rfl | rfl | rfl | rfl | rfl | rfl | rfl
  · cases hq; exact u_known (ws := gtb) hg hlay (hg _ lI_TestJudge_Deeds)
  · cases hq; exact u_known (ws := gtb) hg hlay (hg _ lI_TestJudge_Paper)
  · cases hq; exact u_known (ws := gtb) hg hlay (hg _ lI_TestJudge_Piece)
  · cases hq; exact u_known (ws := gtb) hg hlay (hg _ lI_TestJudge_Reader)
  · cases hq; exact u_known (ws := gtb) hg hlay (hg _ lI_TestJudge_Runner)
  · cases hq; exact u_known (ws := gtb) hg hlay (hg _ lI_TestJudge_Search)
  · cases hq; exact u_known (ws := gtb) hg hlay (hg _ lI_TestJudge_Table)
  · cases hq; exact u_known (ws := gtb) hg hlay (hg _ lI_TestJudge_Tokens)
  · cases hq; exact u_known (ws := gtb) hg hlay (hg _ lI_TestJudge_World)
  · cases hq; exact u_known (ws := gtb) hg hlay (hg _ lI_TestJudge)
  · cases hq; exact u_known (ws := gtb) hg hlay (hg _ lI_TestJudgeModel)
theorem st_0 {b : Nat} {s : State} (hts : ∀ w ∈ lw_tbl, w.before #[Value.ref b] s = true) (hgv : (Jvm.Cond.and given_1 narrow_1).before #[Value.ref b] s = true) : ∃ D : lD, lS0 D s ∧ lX0 D s := by
  have hs := flat_of_before _ hgv
  have tt : ∀ w, w ∈ tables_1 → w.before #[Value.ref b] s = true := fun w hw => hts w (List.mem_append_right _ hw)
  have hg : ∀ w ∈ gtb, w.before #[Value.ref b] s = true := fun w hw => hts w (List.mem_filter.mp hw).1
  have hA : ∀ a : Nat, a < s.heap.size → ¬ s.heap.size ≤ a := fun a h => Nat.not_le.mpr h
  have h1 : ∀ k : Nat, ∃ cd : ClassId × (Nat → Nat), ∀ q, vwCl[k]? = some q → u_Kn s q.1 q.2.1 q.2.2 cd.1 cd.2 := by
    intro k
    cases hq : vwCl[k]? with
    | none => exact ⟨((0 : Nat), fun _ => 0), fun q h => by cases h⟩
    | some q0 =>
      obtain ⟨cC, iS, h⟩ := st_cls hg k q0 hq
      exact ⟨(cC, iS), fun q h' => by cases h'; exact h⟩
  obtain ⟨f, hf⟩ := Classical.axiomOfChoice h1
  obtain ⟨c0, p0, r0⟩ := st_arr (hg _ lA_int) (Or.inl rfl)
  obtain ⟨c1, p1, r1⟩ := st_arr (hg _ lA_long) (Or.inr (Or.inl rfl))
  obtain ⟨c2, p2, r2⟩ := st_arr (hg _ lA_byte) (Or.inr (Or.inr (Or.inl rfl)))
  obtain ⟨c3, p3, r3⟩ := st_arr (hg _ lA_boolean) (Or.inr (Or.inr (Or.inr rfl)))
  have hov : (Cond.arrayOver (.object RX2)).before #[Value.ref b] s = true := (tt _ (gt1 (List.mem_of_getElem? (i := 77) (by decide +kernel))))
  obtain ⟨c4, p4, r4⟩ := st_arrO hov
  obtain ⟨np, hnp, -⟩ := va_Tof (tm := .static "TestJudge" "NO_PLACES" "[I") (ty := .int) (N := 0) (f := fun _ => .null) (A := fun q => s.heap.size ≤ q) (by decide) (hs _ (by decide +kernel)) (va_eqt (hs _ (by decide +kernel))) (fun j hj => absurd hj (Nat.not_lt_zero _)) hA
  have zN : va_Z RX9 "NO_PLACES" "[I" (.ref np) (fun q => s.heap.size ≤ q) s s.heap := va_Zof (tt _ (gt1 (List.mem_of_getElem? (i := 84) (by decide +kernel)))) (hg _ li_TestJudge) hnp hA
  have zC : va_Z RJ0 "COMPACT_STRINGS" "Z" (.int 1) (fun q => s.heap.size ≤ q) s s.heap := va_Zof (tt _ (gt6 (List.mem_of_getElem? (i := 138) (by decide +kernel)))) (tt _ (gt1 (List.mem_of_getElem? (i := 12) (by decide +kernel)))) (va_eqt (hs _ (by decide +kernel))) hA
  have zF : va_Zq "jdk/internal/util/Preconditions" "SIOOBE_FORMATTER" "Ljava/util/function/BiFunction;" (fun q => s.heap.size ≤ q) s s.heap := va_Zqof (tt _ (gt6 (List.mem_of_getElem? (i := 154) (by decide +kernel)))) (tt _ (gt1 (List.mem_of_getElem? (i := 14) (by decide +kernel)))) (hs _ (by decide +kernel)) hA
  have i2 : ∀ i : Nat, i < 2 → i = 0 ∨ i = 1 := fun i hi => by omega
  obtain ⟨adK, adV, hS, hK⟩ := vk_Sof (args := #[Value.ref b]) (s := s) (N := 2) (tm := tmS) (len := [46, 9]) (byt := gByt) (A := fun q => s.heap.size ≤ q)
    (fun i hi => by rcases i2 i hi with rfl | rfl <;> decide)
    (fun i hi => by
      rcases i2 i hi with rfl | rfl
      · exact hs _ (by decide +kernel)
      · exact hs _ (by decide +kernel))
    (fun i hi => by
      rcases i2 i hi with rfl | rfl
      · exact hs _ (by decide +kernel)
      · exact hs _ (by decide +kernel))
    (fun i hi => by
      rcases i2 i hi with rfl | rfl
      · exact hs _ (by decide +kernel)
      · exact hs _ (by decide +kernel))
    (fun i hi => by
      rcases i2 i hi with rfl | rfl
      · exact hs _ (by decide +kernel)
      · exact hs _ (by decide +kernel))
    (fun i hi j hj => by
      rcases i2 i hi with rfl | rfl
      · exact hs _ (st_el0 j hj)
      · exact hs _ (st_el1 j hj))
    (fun i j hi hj e => by
      rcases i2 i hi with rfl | rfl <;> rcases i2 j hj with rfl | rfl
      · exact absurd rfl e
      · exact Or.inl (hs _ (by decide +kernel))
      · exact Or.inr (hs _ (by decide +kernel))
      · exact absurd rfl e)
    hA
  have gs : gS (lw ((fun k => (f k).1, fun k => (f k).2), (fun k => if k = 0 then c0 else if k = 1 then c1 else if k = 2 then c2 else if k = 3 then c3 else c4), np) s s.heap (fun q => s.heap.size ≤ q)) s :=
    ⟨adK, adV, vk_R.of (tt _ (gt6 (List.mem_of_getElem? (i := 128) (by decide +kernel)))) (hK 0 (by omega)), vk_R.of (tt _ (gt6 (List.mem_of_getElem? (i := 177) (by decide +kernel)))) (hK 1 (by omega)), hS, zC⟩
  refine ⟨((fun k => (f k).1, fun k => (f k).2), (fun k => if k = 0 then c0 else if k = 1 then c1 else if k = 2 then c2 else if k = 3 then c3 else c4), np), ⟨⟨⟨fun k q hq => hf k q hq, fun k q hq => ?_⟩, zN, va_AO.of hov, ?_, va_Nw.of rfl (tt _ (gt1 (List.mem_of_getElem? (i := 83) (by decide +kernel)))), State.WarmedH.refl s, gs⟩, gs, zF⟩, ⟨fun c hc => ?_, vx_Zqof (tt _ (gt5 (List.mem_of_getElem? (i := 107) (by decide +kernel)))) (tt _ (gt1 (List.mem_of_getElem? (i := 21) (by decide +kernel)))) (hs _ (by decide +kernel)) hA, vx_Zqof (tt _ (gt5 (List.mem_of_getElem? (i := 109) (by decide +kernel)))) (tt _ (gt1 (List.mem_of_getElem? (i := 21) (by decide +kernel)))) (hs _ (by decide +kernel)) hA⟩⟩
  · have hk : k < 5 := (List.getElem?_eq_some_iff.mp hq).1
    rcases (show k = 0 ∨ k = 1 ∨ k = 2 ∨ k = 3 ∨ k = 4 by omega) with rfl | rfl | rfl | rfl | rfl
    · cases hq; exact ⟨p0, r0⟩
    · cases hq; exact ⟨p1, r1⟩
    · cases hq; exact ⟨p2, r2⟩
    · cases hq; exact ⟨p3, r3⟩
    · cases hq; exact ⟨p4, r4⟩
  · refine List.forall_mem_cons.mpr ⟨va_Nw.of rfl (tt _ (gt1 (List.mem_of_getElem? (i := 35) (by decide +kernel)))), List.forall_mem_cons.mpr ⟨va_Nw.of rfl (tt _ (gt1 (List.mem_of_getElem? (i := 72) (by decide +kernel)))), List.forall_mem_cons.mpr ⟨va_Nw.of rfl (tt _ (gt1 (List.mem_of_getElem? (i := 162) (by decide +kernel)))), List.forall_mem_cons.mpr ⟨va_Nw.of rfl (tt _ (gt1 (List.mem_of_getElem? (i := 186) (by decide +kernel)))), List.forall_mem_cons.mpr ⟨va_Nw.of rfl (tt _ (gt1 (List.mem_of_getElem? (i := 192) (by decide +kernel)))), List.forall_mem_cons.mpr ⟨va_Nw.of rfl (tt _ (gt2 (List.mem_of_getElem? (i := 33) (by decide +kernel)))), List.forall_mem_cons.mpr ⟨va_Nw.of rfl (tt _ (gt2 (List.mem_of_getElem? (i := 86) (by decide +kernel)))), List.forall_mem_cons.mpr ⟨va_Nw.of rfl (tt _ (gt2 (List.mem_of_getElem? (i := 192) (by decide +kernel)))), fun _ h => absurd h List.not_mem_nil⟩⟩⟩⟩⟩⟩⟩⟩
  · exact word_atF (State.WarmedH.refl s) (gxM_ot c hc) (gxM_kf c hc) (hts c (gxM_tbl c hc))
