/-! The law's own out where the class's throws; the call of the law's own out -/
section HT
variable {D : lD} {S : State} {m x : Nat} {V : aV} {M : aM} {Y : HS → Prop} {ov : Int64} {H : Heap}
theorem h_no (v : lIV D S m (fun h => KV x h V M) Y ov H) (hY : ∀ h k, Y h → Y (hTt h k)) (b : lS0 D S) (bx : lX0 D S) {p : Int32} (hp : ¬ (0 ≤ p ∧ p < nI M.2.2.2.1)) {l : Launch} (hfl : l.flags = flags0) :
    Met l yL_out (.codeWith yL_out cL_out 4 (some .int) hhL :: gtb) { frames := 20, cells := 1, slots := 6, locals := 64 * 20 } (hPc S H x m p) (fun _ _ oc t => oc = .returned (some (.int 1)) ∧ lIV D S m (fun h => KV x h V M) Y ov t.heap) 1 6 (hFr S m) := by
  refine va_MetW (cc := cL_out) (maxL := 4) (ret := some .int) (by decide) rfl ?_
  intro p' e s mm args below meth c s₁ B hml hv
  obtain ⟨rfl, hH, hW⟩ := hv
  have hts := atoms_spec (ws := .codeWith yL_out cL_out 4 (some .int) hhL :: gtb) B.pre
  have htab : c.exceptionTable.toList = tableOf hhL := vx_table (x := yL_out) B (hts _ List.mem_cons_self)
  have hown : s.vm.findClass RL = some mm.cls := findClass_of_methodNamed B.named
  have wb : ∀ c ∈ gxM, c.before [.ref x, .int p, .ref (m + 27)].toArray s = true := fun c hc => word_atF hW (gxM_ot c hc) (gxM_kf c hc) (bx.1 c hc)
  generalize hz : ((p', l, e, (headSpec (.codeWith yL_out cL_out 4 (some .int) hhL :: gtb) { frames := 20, cells := 1, slots := 6, locals := 64 * 20 }).room, s, mm, [.ref x, .int p, .ref (m + 27)].toArray, below, meth, c) : gZ) = z
  have G : ∀ (H' : Heap) (A : Nat → Prop), (∀ q, A q → S.heap.size ≤ q) → (∀ q, q < S.heap.size → H'[q]? = S.heap[q]?) → GC z (lw D S H' A) 20 1 6 yL_out cL_out 4 (some .int) := by
    intro H' A hA hH'
    subst hz
    exact ⟨B.exec, B.bytes, hml, findClass_of_methodNamed B.named, fun x hx => hts x (List.mem_cons_of_mem _ hx), (lK_at b hA hH').1.warm hW, B.returns, B.notSynchronized, (name_of_methodNamed B.named B.method).1, Nat.le_refl _, Nat.le_refl _, rfl, rfl⟩
  have C : lwC z cL_out := by subst hz; exact ⟨B.exec, B.bytes, trivial⟩
  have hfz : z.2.1.flags = flags0 := by subst hz; exact hfl
  have hrt : (zE z).sig.returnType = some .int := by subst hz; exact B.returns
  have hlk : (zE z).locks = false := by subst hz; exact B.notSynchronized
  have hWz : S.WarmedH (zS z).vm := by subst hz; exact hW
  have hbz : ∀ c ∈ gxM, c.before (zA z) (zS z) = true := by subst hz; exact wb
  have htz : (zC z).exceptionTable.toList = tableOf hhL := by subst hz; exact htab
  have body : LW z 4 (hFr S m) (MQ (zB z) (fun _ _ oc t => oc = .returned (some (.int 1)) ∧ lIV D S m (fun h => KV x h V M) Y ov t.heap) (zA z) (zS z) 1 6 (hFr S m)) 0 0 0 [(0, .ref x), (1, .int p), (2, .ref (m + 27))] [] H := by
    refine l_aload_n C (gd DL_out_0 0 rfl) 2 rfl rfl ?_
    refine l_iconst (v := 0) C (gd DL_out_0 1 rfl) (by decide) ?_
    refine l_aload_n C (gd DL_out_0 2 rfl) 0 rfl rfl ?_
    refine l_iload_n C (gd DL_out_0 3 rfl) 1 rfl rfl ?_
    obtain ⟨⟨h, g1, W, RC, K, hM⟩, -, -, o, z1, z2⟩ := id v
    have GG := G H (lA S.heap.size m) (fun q hq => hq.1) o
    intro locs ls hS hlv
    have hrc := g_recv (ci := 9) GG g1 K.1.1 rfl
    have hm : gMi yX9_out cX9_out 2 (some .int) 1 := mX9_out
    obtain ⟨m0, m1, m2, m3, m4⟩ := hm
    have bl : FrameBlind (va_Pc [.ref x, .int p] (fun U => gR (lw D S H (lA S.heap.size m)) h U.heap ∧ gK (lw D S H (lA S.heap.size m)) U ∧ gX (lw D S H (lA S.heap.size m)) U)) := fun a U g mk q => ⟨q.1, q.2.1, gK.same (U := U.calling g mk a) rfl q.2.2.1, gX.same (s := U) (U := U.calling g mk a) rfl q.2.2.2⟩
    have hr := vx_runV (p := z.1) (l := z.2.1) (e := z.2.2.1) (below := zB z) (meth := zE z) (c := zC z) (Ts := gtb) (C := RX9) (H := H) (locs := locs) (cells := 0) (slots := 0) (g := F0 (zM z) 4 ls [.int p, .ref x, .int 0, .ref (m + 27)]) (rest := [.int 0, .ref (m + 27)]) (As := [.int p]) (b := x) (index := 7) ⟨GG.1, GG.2.1, GG.2.2.1, GG.2.2.2.1, GG.2.2.2.2.1⟩ (e_x_outT K hM hp hfz) ⟨g_B GG m2 m3 m4 lm_TestJudgeLaw_7 (by decide) (by decide), GG.2.2.2.2.1 _ m0, GG.2.2.2.2.1 _ m1⟩
      ⟨bl, hrc, fun U hU hW2 => ⟨rfl, by rw [hU]; exact g1, GG.2.2.2.2.2.1.warm hW2, ((lX_at bx (fun q hq => hq.1) o).warm hWz).warm hW2⟩⟩ rfl rfl hlv.1 rfl (lv_room (Nat.le_of_ble_eq_true rfl)) (gd DL_out_0 4 rfl) ⟨by rw [GG.2.2.2.2.2.2.2.2.2.2.2.1]; exact Nat.le_refl _, by rw [GG.2.2.2.2.2.2.2.2.2.2.2.2]; exact Nat.le_refl _⟩
    intro T hT X
    rcases hr T hT X with ⟨u, st₀, t, T', L, h0, X', hL, e1, e2, hq, st⟩ | ⟨q, st₀, t, T', L, E, ce, h0, X', hL, e1, e2, ⟨rfl, xr, xz⟩, hce, hcv, hcl, st⟩
    · exact absurd hq id
    · have v1 : lIV D S m (fun h => KV x h V M) Y ov t.heap := v.x hY xr (KV.tt ⟨W, RC, K, hM⟩ xz) (by rw [g1.1]; exact xz)
      have k : LW z 4 (hFr S m) (MQ (zB z) (fun _ _ oc t => oc = .returned (some (.int 1)) ∧ lIV D S m (fun h => KV x h V M) Y ov t.heap) (zA z) (zS z) 1 6 (hFr S m)) 1 6 12 [(0, .ref x), (1, .int p), (2, .ref (m + 27))] [.ref q] t.heap := by
        refine l_astore_n (lv' := [(0, _), (1, _), (2, _), (3, _)]) C (gd DL_out_0 8 rfl) [1, 2, 3, 0] rfl (by decide) rfl ?_
        refine l_iconst (v := 1) C (gd DL_out_0 9 rfl) (by decide) ?_
        exact l_iret C hrt hlk (Nat.le_refl _) (Nat.le_refl _) (fun q hq => hq) (fun t2 ht => ⟨rfl, by rw [ht]; exact v1⟩) (gd DL_out_0 10 rfl)
      have un : ∀ q, ¬ lA S.heap.size m q → t.heap[q]? = H[q]? := xr.2.2.1
      have k2 := k (locs ++ L) ls ⟨by rw [← e1]; exact X'.same.2.1, fun q h1 h2 => (un q (fun y => h2 (Or.inl y))).trans (hS.2.1 q h1 h2), fun y hy => by
        rcases List.mem_append.mp hy with g | g
        · exact hS.2.2 y g
        · exact Or.inl (hL y g)⟩ hlv
      obtain ⟨t2, a1, b1⟩ := vx_catch (own := RL) (name := cNE) (E := cNE) (ce := ce) (q := q) (pc := 4) (ls := ls) (rest := [.int 0, .ref (m + 27)]) GG.2.2.2.1 [] ⟨0, 9, 12, 13⟩ [] htz (fun _ h => by cases h) (by decide) (by decide) (hbz _ List.mem_cons_self) (hbz _ (List.mem_cons_of_mem _ List.mem_cons_self)) hce hcv hcl k2 T' e1 X'
      exact ⟨t2, st.trans a1, b1⟩
  have k := body [] _ (by subst hz; show va_S (hFr S m) s.heap H []; rw [hH]; exact va_S.rf) (lv_entry [.ref x, .int p, .ref (m + 27)] (Nat.le_of_ble_eq_true rfl))
  rw [lg_entry_eq]
  subst hz
  rw [← hH] at k
  exact k
end HT
