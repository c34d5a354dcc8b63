/-! The law's own out: what the class's throws, its catching -/
abbrev cNE : String := "java/util/NoSuchElementException"
abbrev nNE : List String := ["java/lang/RuntimeException", "java/lang/Exception"]
def gxL : List Cond := Cond.classLink RX9 316 cNE :: Cond.initialized cNE :: vx_at0 RX9 318 cNE nNE
def gxM : List Cond := Cond.classLink RL 13 cNE :: Cond.castable cNE cNE :: gxL
theorem gxM_ot : ∀ w ∈ gxM, w.onTables = true := by decide +kernel
theorem gxM_kf : ∀ w ∈ gxM, w.keepsFace = true := by decide +kernel
theorem gxM_in : ∀ w ∈ gxM, w ∈ (tables_1_1.drop 20).take 15 ++ (tables_1_5.drop 70).take 73 := by decide +kernel
theorem gxM_tbl : ∀ w ∈ gxM, w ∈ lw_tbl := fun w hw => List.mem_append_right _ (by
  rcases List.mem_append.mp (gxM_in w hw) with h | h
  · exact gt1 (List.mem_of_mem_drop (List.mem_of_mem_take h))
  · exact gt5 (List.mem_of_mem_drop (List.mem_of_mem_take h)))
theorem word_atF {args a' : Array Value} {s U : State} (hW : s.WarmedH U.vm) {c : Cond} (h1 : c.onTables = true) (h2 : c.keepsFace = true) (h : c.before args s = true) : c.before a' U = true := by
  have k := Cond.before_shiftedFace (State.Shifted.of_warmed hW) c h2 h
  have e := Cond.onTables_vm (A := args) (A' := a') (U := s) (U' := U) U.vm c h1
  rw [State.setVm_self] at e
  exact e.symm.trans k
/-- what a throw wants of the state -/
def gX (w : gD) (U : State) : Prop := (∀ c ∈ gxM, c.before #[] U = true) ∧ vx_Zq Bundle.tN "UNASSIGNED_STACK" Bundle.steD (fun q => wA w q) U w.2.2.1.1.heap ∧ vx_Zq Bundle.tN "SUPPRESSED_SENTINEL" Bundle.listD (fun q => wA w q) U w.2.2.1.1.heap
theorem gX.warm {w : gD} {s U : State} (hW : s.WarmedH U.vm) (h : gX w s) : gX w U := ⟨fun c hc => word_atF hW (gxM_ot c hc) (gxM_kf c hc) (h.1 c hc), h.2.1.moved hW.alike, h.2.2.moved hW.alike⟩
theorem gX.same {w : gD} {s U : State} (hv : s.vm = U.vm) (h : gX w s) : gX w U := by
  have hW : s.WarmedH U.vm := hv ▸ State.WarmedH.refl s
  exact h.warm hW
def lX0 (D : lD) (S : State) : Prop := gX (lw D S S.heap (fun q => S.heap.size ≤ q)) S
theorem lX_at {D : lD} {S : State} (b : lX0 D S) {H : Heap} {A : Nat → Prop} (hA : ∀ q, A q → S.heap.size ≤ q) (hH : ∀ q, q < S.heap.size → H[q]? = S.heap[q]?) : gX (lw D S H A) S := by
  have hk : ∀ a : Nat, a < S.heap.size → ¬ S.heap.size ≤ a → H[a]? = S.heap[a]? := fun a h _ => hH a h
  exact ⟨b.1, (b.2.1.kept hk).narrow hA, (b.2.2.kept hk).narrow hA⟩
theorem flags_st {l : Launch} (h : l.flags = flags0) : l.stackTraces = false := by
  unfold Launch.stackTraces
  rw [h]
  decide +kernel
section OT
variable {w : gD} {x W : Nat} {h : HS} {V : aV} {RC : Nat → Nat → Int32} {M : aM}
/-- the class's out where it throws -/
theorem e_x_outT (K : K0 x W h V RC) (hM : kvM x h M) {p : Int32} (hp : ¬ (0 ≤ p ∧ p < nI M.2.2.2.1)) {l : Launch} (hfl : l.flags = flags0) :
    vx_Met l yX9_out (.code yX9_out cX9_out 2 (some .int) :: gtb) { frames := 10, cells := 1, slots := 6, locals := 64 * 10 } (va_Pc [.ref x, .int p] (fun U => gR w h U.heap ∧ gK w U ∧ gX w U)) (fun _ _ _ _ => False) (fun E _ t => E = cNE ∧ gR w (hTt h t.heap.size) t.heap ∧ hT h ≤ t.heap.size) 1 6 (fun q => wA w q) := by
  refine vx_ofW (cc := cX9_out) (maxL := 2) (ret := some .int) (by decide) rfl ?_
  intro p' e s m args below meth c s₁ B hml hxt hv
  obtain ⟨rfl, hR0, hK0, hX0⟩ := hv
  have hts := atoms_spec (ws := .code yX9_out cX9_out 2 (some .int) :: gtb) B.pre
  have C : GC (p', l, e, (headSpec (.code yX9_out cX9_out 2 (some .int) :: gtb) { frames := 10, cells := 1, slots := 6, locals := 64 * 10 }).room, s, m, [.ref x, .int p].toArray, below, meth, c) w 10 1 6 yX9_out cX9_out 2 (some .int) :=
    ⟨B.exec, B.bytes, hml, findClass_of_methodNamed B.named, fun x hx => hts x (List.mem_cons_of_mem _ hx), hK0, B.returns, B.notSynchronized, (name_of_methodNamed B.named B.method).1, Nat.le_refl _, Nat.le_refl _, rfl, rfl⟩
  have hx := K.1
  obtain ⟨-, -, -, m1, m2, m3⟩ := hM
  have hpp : hK h (x + 47) = 2 ∧ hR h (x + 47) 0 = some (x + 48) ∧ hK h (x + 48) = 14 ∧ hN h (x + 48) = 7620 := hx.2.2.2.2.2.2.2.1.2
  have wb : ∀ c ∈ gxM, c.before [.ref x, .int p].toArray s = true := fun c hc => word_atF (State.WarmedH.refl s) (gxM_ot c hc) (gxM_kf c hc) (hX0.1 c hc)
  have inM : ∀ c, c ∈ gxL → c ∈ gxM := fun c hc => List.mem_cons_of_mem _ (List.mem_cons_of_mem _ hc)
  generalize hz : ((p', l, e, (headSpec (.code yX9_out cX9_out 2 (some .int) :: gtb) { frames := 10, cells := 1, slots := 6, locals := 64 * 10 }).room, s, m, [.ref x, .int p].toArray, below, meth, c) : gZ) = z at C
  have fin : GW z w 2 (vx_MQ below (fun _ _ _ _ => False) (fun E _ t => E = cNE ∧ gR w (hTt h t.heap.size) t.heap ∧ hT h ≤ t.heap.size) [.ref x, .int p].toArray s 1 6 (fun q => wA w q)) 0 0 15 [(0, .ref x), (1, .int p)] [] h := by
    subst hz
    intro H locs ls hR hL hl
    have un : ∀ q, ¬ wA w q → H[q]? = s.heap[q]? := fun q hq => (hR.2.2.1 q hq).trans (hR0.2.2.1 q hq).symm
    have kp : ∀ q : Nat, q < w.2.2.1.1.heap.size → ¬ wA w q → s.heap[q]? = w.2.2.1.1.heap[q]? := fun q _ hq => hR0.2.2.1 q hq
    exact vx_throw0 (own := RX9) (cls := cNE) (names := nNE) (ik := 316) (ic := 318) (A := fun q => wA w q) (ls := ls) (rest := []) B.exec B.bytes (flags_st hfl) C.2.2.2.1 (by decide) (by decide)
      (wb _ (inM _ List.mem_cons_self)) (wb _ (inM _ (List.mem_cons_of_mem _ List.mem_cons_self))) (fun c hc => wb c (inM c (List.mem_cons_of_mem _ (List.mem_cons_of_mem _ hc))))
      (fun c hc => by
        have := gxM_ot c (inM c hc)
        unfold vx_ot
        rw [this]
        rfl)
      (hX0.2.1.kept kp) (hX0.2.2.kept kp) ⟨by rw [hR.1, hR0.1]; exact Nat.le_refl _, fun q _ hq => un q hq, hL⟩ (hl.1.trans hml.symm)
      (gd DX9_out_0 7 rfl) (gd DX9_out_0 8 rfl) (gd DX9_out_0 9 rfl) (gd DX9_out_0 10 rfl) (fun y hy => absurd (hxt y hy) id) (Nat.le_of_ble_eq_true rfl) (Nat.le_of_ble_eq_true rfl) (Nat.le_of_ble_eq_true rfl) (Nat.le_of_ble_eq_true rfl) B.notSynchronized
      (fun t _ hz hq => ⟨rfl, ⟨rfl, fun q hq' => hR.2.1 q (by have := hR.1; have hq2 : t.heap.size ≤ q := hq'; omega), fun q hq' => (hq q (by
          have := hR.1
          rcases Nat.lt_or_ge q H.size with d | d
          · exact d
          · exact absurd (hR.2.1 q (by omega)) hq')).trans (hR.2.2.1 q hq'), fun a ha => ⟨(hR.2.2.2 a ha).1, va_at.kept (H := H) (hR.2.2.2 a ha).2 (hq a (hR.2.2.2 a ha).2.lt)⟩⟩, by rw [← hR.1]; exact hz⟩)
      hL (by decide) (by decide)
  have body : GW z w 2 (vx_MQ below (fun _ _ _ _ => False) (fun E _ t => E = cNE ∧ gR w (hTt h t.heap.size) t.heap ∧ hT h ≤ t.heap.size) [.ref x, .int p].toArray s 1 6 (fun q => wA w q)) 0 0 0 [(0, .ref x), (1, .int p)] [] h := by
    refine g_iload_n C (gd DX9_out_0 0 rfl) 1 rfl rfl ?_
    refine g_if_lt C 15 (gd DX9_out_0 1 rfl) (by decide) (fun c1 => ?_) (fun c1 => ?_)
    · exact fin
    refine g_iload_n C (gd DX9_out_0 2 rfl) 1 rfl rfl ?_
    refine g_aload_n C (gd DX9_out_0 3 rfl) 0 rfl rfl ?_
    refine g_getr (ci := 9) (k := 10) C rfl (by decide) rfl lf_TestJudge_64 hx.1 hx.2.2.2.2.2.2.2.1.1 (gd DX9_out_0 4 rfl) ?_
    refine g_geti (ci := 1) (k := 1) C rfl (by decide) rfl lf_TestJudge_311 hpp.1 (gd DX9_out_0 5 rfl) ?_
    rw [m1]
    refine g_icmp_lt C 23 (gd DX9_out_0 6 rfl) (by decide) (fun c2 => ?_) (fun c2 => ?_)
    · exact absurd ⟨Int32.not_lt.mp c1, c2⟩ hp
    · exact fin
  subst hz
  rw [lg_entry_eq]
  exact body s.heap [] _ hR0 (fun x hx => by cases hx) (lv_entry [.ref x, .int p] (Nat.le_of_ble_eq_true rfl))
end OT
