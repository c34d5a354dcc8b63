/-! The law's own out, called -/
section HM
variable {z : gZ} {n : Nat} {A : Nat → Prop} {Q : State → Prop} {cc : ByteArray} {cn sn pc : Nat} {lv lv' : List (Nat × Value)} {rest : List Value} {H : Heap}
theorem l_last {w : gD} {d MC MS : Nat} {y : MethodName} {ret : Option FieldType} {h : HS} (C : GC z w d MC MS y cc n ret) (hR0 : gR w h H) {a : Nat} {i : Int32} {x : Int64} (ha : hK h a = 13) (hi : vp_in i (hN h a)) (hd : decode cc pc = .ok (.lastore, 1)) (hA : ∀ q, wA w q → A q) (kk : ∀ H1, gR w (sL h a i.toNatClampNeg x) H1 → H1.size = H.size → (∀ q, q ≠ a → H1[q]? = H[q]?) → LW z n A Q cn sn (pc + 1) lv rest H1) : LW z n A Q cn sn pc lv (.long x :: .int i :: .ref a :: rest) H := by
  intro locs ls hS hlv
  have hc := g_arr hR0 (by omega) (gE_l ha)
  have hAa : A a := hA a (hR0.2.2.2 a (by omega)).1
  refine W.last C.1 C.2.1 hc ((C.2.2.2.2.2.1.1.2 1 _ rfl).1 (hN h a) _) (fun q => by cases q) (by show ¬ (i < 0 ∨ (arrV _ _ _).slots.size ≤ _); rw [arrV_size]; exact hi) rfl rfl hd fun H1 e z oq => ?_
  refine kk H1 (hR0.set (by omega) z oq rfl (fun _ => rfl) (fun _ => gE_sL) ?_) z oq _ ls ⟨by rw [z]; exact hS.1, fun q h1 h2 => (oq q (fun e => h2 (e ▸ hAa))).trans (hS.2.1 q h1 h2), fun l hl => ?_⟩ hlv
  · rw [gE_l (show hK (sL h a i.toNatClampNeg x) a = 13 from ha)]
    show H1[a]? = some (vp_cell _ _)
    rw [e, vp_cell_l, vp_cell_l, arrV_store]
    show some (arrV _ _ _) = some (arrV _ _ _)
    congr 2
    funext q
    by_cases hq : q = i.toNatClampNeg
    · subst hq
      simp [updV, hL_sL]
      try rfl
    · simp [updV, hL_sL, hq]
  · rcases List.mem_append.mp hl with g | g
    · exact hS.2.2 l g
    · rcases List.mem_singleton.mp g with rfl
      exact hAa
theorem l_lald {w : gD} {d MC MS : Nat} {y : MethodName} {ret : Option FieldType} {h : HS} (C : GC z w d MC MS y cc n ret) (hR0 : gR w h H) {a : Nat} {i : Int32} (ha : hK h a = 13) (hi : vp_in i (hN h a)) (hd : decode cc pc = .ok (.laload, 1)) (kk : LW z n A Q cn sn (pc + 1) lv (.long (hL h a i.toNatClampNeg) :: rest) H) : LW z n A Q cn sn pc lv (.int i :: .ref a :: rest) H := fun locs ls hS hlv => va_lald (D := w.1) (cl := vwCl) (tys := gTy w) C.1 C.2.1 C.2.2.2.2.2.1.1 (g_atA hR0 (by omega) (gE_l ha)) 0 1 rfl rfl hi hd (kk locs ls hS hlv)
theorem l_iret {Qc : Array Value → State → Outcome → State → Prop} {mc ms : Nat} {free : Addr → Prop} {v : Int32} (C : lwC z cc) (hr : (zE z).sig.returnType = some .int) (hlk : (zE z).locks = false) (h1 : cn ≤ mc) (h2 : sn ≤ ms) (hf : ∀ q, A q → free q) (hq : ∀ t : State, t.heap = H → Qc (zA z) (zS z) (.returned (some (.int v))) t) (hd : decode cc pc = .ok (.ireturn, 1)) : LW z n A (MQ (zB z) Qc (zA z) (zS z) mc ms free) cn sn pc lv [.int v] H :=
  fun locs ls hS hl => W.widen h1 h2 (W.iret C.1 C.2.1 hr (fun t ht _ => hq t ht) (fun q hq => hf _ (hS.2.2 q hq)) hd hlk)
end HM
/-- the words of the law's own out -/
def hhL : List (Nat × Nat × Nat × Nat) := [(0, 9, 12, 13)]
theorem lL_out : Cond.codeWith yL_out cL_out 4 (some .int) hhL ∈ gtb := gin (gt5 (List.mem_of_getElem? (i := 74) (by decide +kernel))) rfl
theorem lL_outS : Cond.static yL_out ∈ gtb := gin (gt5 (List.mem_of_getElem? (i := 73) (by decide +kernel))) rfl
/-- from which states it is called -/
def hPc (S : State) (H : Heap) (x m : Nat) (p : Int32) : Array Value → State → Prop := va_Pc [.ref x, .int p, .ref (m + 27)] (fun U => U.heap = H ∧ S.WarmedH U.vm)
def hFr (S : State) (m : Nat) (q : Nat) : Prop := lA S.heap.size m q ∨ q = m + 27
theorem hPc_b {S : State} {H : Heap} {x m : Nat} {p : Int32} : FrameBlind (hPc S H x m p) := fun a U g mk q => ⟨q.1, q.2.1, q.2.2⟩
section HO
variable {D : lD} {S : State} {m x : Nat} {V : aV} {M : aM} {Y : HS → Prop} {ov : Int64} {H : Heap}
theorem h_in (v : lIV D S m (fun h => KV x h V M) Y ov H) (hY : ∀ h k, Y h → Y (hTt h k)) (b : lS0 D S) {j : Nat} (hj : j < M.2.2.2.1) {l : Launch} (hfl : l.flags = flags0) :
    Met l yL_out (.codeWith yL_out cL_out 4 (some .int) hhL :: gtb) { frames := 20, cells := 0, slots := 0, locals := 64 * 20 } (hPc S H x m (nI j)) (fun _ _ oc t => oc = .returned (some (.int 0)) ∧ lIV D S m (fun h => KV x h V M) Y (M.2.2.2.2 j).toInt64 t.heap) 0 0 (hFr S m) := by
  refine va_MetW (cc := cL_out) (maxL := 4) (ret := some .int) (by decide) rfl ?_
  intro p' e s mm args below meth c s₁ B hml hv
  obtain ⟨rfl, hH, hW⟩ := hv
  have hts := atoms_spec (ws := .codeWith yL_out cL_out 4 (some .int) hhL :: gtb) B.pre
  generalize hz : ((p', l, e, (headSpec (.codeWith yL_out cL_out 4 (some .int) hhL :: gtb) { frames := 20, cells := 0, slots := 0, locals := 64 * 20 }).room, s, mm, [.ref x, .int (nI j), .ref (m + 27)].toArray, below, meth, c) : gZ) = z
  have G : ∀ (H' : Heap) (A : Nat → Prop), (∀ q, A q → S.heap.size ≤ q) → (∀ q, q < S.heap.size → H'[q]? = S.heap[q]?) → GC z (lw D S H' A) 20 0 0 yL_out cL_out 4 (some .int) := by
    intro H' A hA hH'
    subst hz
    exact ⟨B.exec, B.bytes, hml, findClass_of_methodNamed B.named, fun x hx => hts x (List.mem_cons_of_mem _ hx), (lK_at b hA hH').1.warm hW, B.returns, B.notSynchronized, (name_of_methodNamed B.named B.method).1, Nat.le_refl _, Nat.le_refl _, rfl, rfl⟩
  have C : lwC z cL_out := by subst hz; exact ⟨B.exec, B.bytes, trivial⟩
  have hfz : z.2.1.flags = flags0 := by subst hz; exact hfl
  have hrt : (zE z).sig.returnType = some .int := by subst hz; exact B.returns
  have hlk : (zE z).locks = false := by subst hz; exact B.notSynchronized
  have body : LW z 4 (hFr S m) (MQ (zB z) (fun _ _ oc t => oc = .returned (some (.int 0)) ∧ lIV D S m (fun h => KV x h V M) Y (M.2.2.2.2 j).toInt64 t.heap) (zA z) (zS z) 0 0 (hFr S m)) 0 0 0 [(0, .ref x), (1, .int (nI j)), (2, .ref (m + 27))] [] H := by
    refine l_aload_n C (gd DL_out_0 0 rfl) 2 rfl rfl ?_
    refine l_iconst (v := 0) C (gd DL_out_0 1 rfl) (by decide) ?_
    refine l_aload_n C (gd DL_out_0 2 rfl) 0 rfl rfl ?_
    refine l_iload_n C (gd DL_out_0 3 rfl) 1 rfl rfl ?_
    obtain ⟨⟨h, g1, W, RC, K, hM⟩, -, -, o, z1, z2⟩ := id v
    refine l_V (rest := [.int 0, .ref (m + 27)]) (G H (lA S.heap.size m) (fun q hq => hq.1) o) g1 (ci := 9) [.int _] mX9_out lm_TestJudgeLaw_7 K.1.1 rfl rfl (e_x_out K hM hj) hfz (by decide) (by decide) (Nat.le_refl _) (Nat.le_refl _) rfl rfl (Nat.le_of_ble_eq_true rfl) (gd DL_out_0 4 rfl) (fun q hq => Or.inl hq) (fun r h' H1 hp r1 s1 s2 => ?_)
    obtain ⟨rfl, rfl⟩ := hp
    have v1 : lIV D S m (fun h => KV x h V M) Y ov H1 := v.x hY r1 ⟨W, RC, K, hM⟩ s1
    show LW z 4 _ _ 0 0 7 _ [.int _, .int 0, .ref (m + 27)] H1
    refine l_i2l C (gd DL_out_0 5 rfl) ?_
    obtain ⟨-, -, ⟨ho, t1, t2, t3, t4⟩, o1, y1, y2⟩ := id v1
    refine l_last (G H1 (lO m H1) (fun q hq => lO_A y2 y1 hq) o1) t1 (a := m + 27) t2 (by rw [t3]; exact vp_in_nI (n := 0) (by omega) (by omega)) (gd DL_out_0 6 rfl) (fun q hq => ?_) (fun H2 r2 e1 e2 => ?_)
    · rcases hq with hq | hq
      · exact Or.inr hq
      · exact Or.inl ⟨by omega, by omega⟩
    have eO : lO m H2 = lO m H1 := by
      funext q
      unfold lO
      rw [e1]
    have v2 : lIV D S m (fun h => KV x h V M) Y (M.2.2.2.2 j).toInt64 H2 := v1.o ⟨sL ho (m + 27) (Int32.toNatClampNeg 0) (M.2.2.2.2 j).toInt64, by rw [eO]; exact r2.re, t2, t3, by rw [hL_sL, if_pos ⟨rfl, rfl⟩]⟩ e1 e2
    refine l_goto (tgt := 15) C (gd DL_out_0 7 rfl) (by decide) ?_
    refine l_iconst (v := 0) C (gd DL_out_0 11 rfl) (by decide) ?_
    exact l_iret C hrt hlk (Nat.le_refl _) (Nat.le_refl _) (fun q hq => hq) (fun t ht => ⟨rfl, by rw [ht]; exact v2⟩) (gd DL_out_0 12 rfl)
  have k := body [] _ (by subst hz; show va_S (hFr S m) s.heap H []; rw [hH]; exact va_S.rf) (lv_entry [.ref x, .int (nI j), .ref (m + 27)] (Nat.le_of_ble_eq_true rfl))
  rw [lg_entry_eq]
  subst hz
  rw [← hH] at k
  exact k
end HO
