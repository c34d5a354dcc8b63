/-! The law's beginning: two new objects, its long row; three pictures out of one; then its end -/
/-- a heap of n cells of which nothing is pictured -/
def hZ0 (n : Nat) : HS := (fun _ _ => 0, fun _ _ => 0, fun _ _ => none, fun _ => 0, fun _ => 0, n)
section G0
variable {cA : Nat → ClassId} {h h' : HS} {a b : Nat} {L : List Cl}
theorem gE_hC (h1 : a ≤ b) (h2 : b < a + L.length) : gE cA (hC h' a L) b = gE cA (hC h a L) b := by
  obtain ⟨i, rfl⟩ : ∃ i, b = a + i := ⟨b - a, by omega⟩
  obtain ⟨⟨k, n, I, r⟩, e⟩ : ∃ q, L[i]? = some q := ⟨_, List.getElem?_eq_getElem (by omega)⟩
  obtain ⟨k1, n1, i1, r1, l1⟩ := hC_at (h := h) (a := a) e
  obtain ⟨k2, n2, i2, r2, l2⟩ := hC_at (h := h') (a := a) e
  exact gE_congr (i2.trans i1.symm) (l2.trans l1.symm) (r2.trans r1.symm) (k2.trans k1.symm) (n2.trans n1.symm)
theorem gE_hC_lo (hb : b < a) : gE cA (hC h a L) b = gE cA h b := by
  obtain ⟨k1, n1, i1, r1, l1⟩ := hC_lo (h := h) (L := L) hb
  exact gE_congr i1 l1 r1 k1 n1
theorem hK_hC_lo (hb : b < a) : hK (hC h a L) b = hK h b := (hC_lo hb).1
theorem hK_hC_in (h1 : a ≤ b) (h2 : b < a + L.length) : hK (hC h' a L) b = hK (hC h a L) b := by
  obtain ⟨i, rfl⟩ : ∃ i, b = a + i := ⟨b - a, by omega⟩
  obtain ⟨⟨k, n, I, r⟩, e⟩ : ∃ q, L[i]? = some q := ⟨_, List.getElem?_eq_getElem (by omega)⟩
  exact (hC_at (h := h') (a := a) e).1.trans (hC_at (h := h) (a := a) e).1.symm
theorem hK_hC_ne (h1 : hK (hC h a L) b ≠ 0) (h0 : hK h b = 0) : a ≤ b ∧ b < a + L.length := by
  refine Classical.byContradiction fun c => h1 ?_
  have e : hK (hC h a L) b = hK h b := if_neg c
  rw [e, h0]
end G0
/-- fewer cells of a picture, as a picture of their own -/
theorem lP.mk {D : lD} {S : State} {A A' : Nat → Prop} {X : HS → Prop} {H : Heap} {h h' : HS} (r : gR (lw D S S.heap A) h H) (ht : hT h' = H.size) (hA : ∀ q, H.size ≤ q → A' q) (hin : ∀ a, hK h' a ≠ 0 → A' a ∧ hK h a ≠ 0 ∧ gE D.2.1 h a = gE D.2.1 h' a) (x : X h') : lP D S A' X H := by
  refine ⟨h', ⟨ht.symm, fun q hq => hA q (by omega), fun _ _ => rfl, fun a ha => ?_⟩, x⟩
  obtain ⟨i1, i2, i3⟩ := hin a ha
  have k : va_at D.1 vwCl (a, gE D.2.1 h a) H := (r.2.2.2 a i2).2
  rw [i3] at k
  exact ⟨i1, k⟩
theorem lIV.first {D : lD} {S : State} {H : Heap} {sz : Nat} (hz : S.heap.size = sz) (r : gR (lw D S S.heap (fun q => S.heap.size ≤ q)) (hC (hC (hC (hZ0 sz) sz (cX9 sz D.2.2)) (sz + 50) (cX10 (sz + 50))) (sz + 77) [zc 13 1]) H) : lIV D S (sz + 50) (fun h => KV sz h V00 M00) (fun h => MV (sz + 50) h V00 M00) 0 H := by
  have l9 : (cX9 sz D.2.2).length = 50 := rfl
  have l10 : (cX10 (sz + 50)).length = 27 := rfl
  have l1 : [zc 13 1].length = 1 := rfl
  have eH : H.size = sz + 78 := r.1
  refine ⟨lP.mk r (h' := hTt (hC (hZ0 sz) sz (cX9 sz D.2.2)) H.size) rfl (fun q hq => ⟨by omega, by omega⟩) (fun a ha => ?_) (KV.tt KV_new (by rw [hC_T, l9]; omega)), lP.mk r (h' := hTt (hC (hZ0 sz) (sz + 50) (cX10 (sz + 50))) H.size) rfl (fun q hq => Or.inr hq) (fun a ha => ?_) (MV.t MV_new _), lP.mk r (h' := hTt (hC (hZ0 sz) (sz + 77) [zc 13 1]) H.size) rfl (fun q hq => Or.inr hq) (fun a ha => ?_) ?_, fun q hq => r.2.2.1 q (Nat.not_le.mpr hq), by omega, by omega⟩
  · have ha : hK (hC (hZ0 sz) sz (cX9 sz D.2.2)) a ≠ 0 := ha
    obtain ⟨b1, b2⟩ := hK_hC_ne ha rfl
    rw [l9] at b2
    refine ⟨⟨by omega, by omega⟩, ?_, (gE_hC_lo (by omega)).trans (gE_hC_lo (by omega))⟩
    rw [hK_hC_lo (by omega), hK_hC_lo (by omega)]
    exact ha
  · have ha : hK (hC (hZ0 sz) (sz + 50) (cX10 (sz + 50))) a ≠ 0 := ha
    obtain ⟨b1, b2⟩ := hK_hC_ne ha rfl
    have b3 := b2
    rw [l10] at b3
    refine ⟨Or.inl ⟨by omega, by omega⟩, ?_, (gE_hC_lo (by omega)).trans (gE_hC b1 b2)⟩
    rw [hK_hC_lo (by omega), hK_hC_in b1 b2 (h := hZ0 sz)]
    exact ha
  · have ha : hK (hC (hZ0 sz) (sz + 77) [zc 13 1]) a ≠ 0 := ha
    obtain ⟨b1, b2⟩ := hK_hC_ne ha rfl
    have b3 := b2
    rw [l1] at b3
    refine ⟨Or.inl (by omega), ?_, gE_hC b1 b2⟩
    rw [hK_hC_in b1 b2 (h := hZ0 sz)]
    exact ha
  · obtain ⟨k1, n1, i1, r1, l1⟩ := hC_at (h := hZ0 sz) (a := sz + 77) (L := [zc 13 1]) (i := 0) rfl
    exact ⟨k1, n1, congrFun l1 0⟩
section LB
variable {z : gZ} {D : lD} {Q : State → Prop} {b L : Nat} {xs : Nat → Int32}
theorem l_first (C : lC z D cL_law 7 ret) (bx : lX0 D (zS z)) (hX : va_X b L xs (zS z) (zS z).heap) (hbl : b < (zS z).heap.size) (hLl : L ≤ 3072) {sz : Nat} (hz : (zS z).heap.size = sz) (hEnd : ∀ (H : Heap) (cn sn i : Nat), cn ≤ 601024 → sn ≤ 7293034 → LW z 7 (fun q => (zS z).heap.size ≤ q) Q cn sn 1672 (lL b sz (sz + 50) i) [] H) : GW z (lw D (zS z) (zS z).heap (fun q => (zS z).heap.size ≤ q)) 7 Q 0 0 0 [(0, .ref b)] [] (hZ0 sz) := by
  obtain ⟨G, -⟩ := C.g (H := (zS z).heap) (A := fun q => (zS z).heap.size ≤ q) (fun _ h => h) (fun _ _ => rfl)
  have hfl := C.2.2.2.2.2.2.2.2.2
  refine g_new (ci := 9) G rfl lc_TestJudgeLaw_8 lI_TestJudge li_TestJudge (by omega) (by omega) (gd DL_law_0 0 rfl) gdv9 ?_
  refine g_dup G (gd DL_law_0 1 rfl) rfl ?_
  refine g_cI G [] mX9_init lm_TestJudgeLaw_15 e_X9_init hfl (by decide) (by decide) (by omega) (by omega) rfl rfl (Nat.le_of_ble_eq_true rfl) (gd DL_law_0 2 rfl) ?_
  show GW z _ 7 Q 58 73949 7 [(0, .ref b)] [.ref sz] (hC (hZ0 sz) sz (cX9 sz D.2.2))
  refine g_astore_n (lv' := [(0, .ref b), (1, .ref sz)]) G (gd DL_law_0 3 rfl) [1, 0] rfl (by decide) rfl ?_
  refine g_new (ci := 10) G rfl lc_TestJudgeLaw_16 lI_TestJudgeModel li_TestJudgeModel (by omega) (by omega) (gd DL_law_0 4 rfl) gdv10 ?_
  refine g_dup G (gd DL_law_0 5 rfl) rfl ?_
  refine g_cI G [] mX10_init lm_TestJudgeLaw_18 e_X10_init hfl (by decide) (by decide) (by omega) (by omega) rfl rfl (Nat.le_of_ble_eq_true rfl) (gd DL_law_0 6 rfl) ?_
  show GW z _ 7 Q 85 879767 15 [(0, .ref b), (1, .ref sz)] [.ref (sz + 50)] (hC (hC (hZ0 sz) sz (cX9 sz D.2.2)) (sz + 50) (cX10 (sz + 50)))
  refine g_astore_n (lv' := [(0, .ref b), (1, .ref sz), (2, .ref (sz + 50))]) G (gd DL_law_0 7 rfl) [1, 2, 0] rfl (by decide) rfl ?_
  refine g_iconst (v := 1) G (gd DL_law_0 8 rfl) (by decide) ?_
  refine g_newa (atype := .long) (kind := 13) (N := 1) G (by decide) (by decide +kernel) (Nat.le_of_ble_eq_true rfl) (by omega) (by omega) (by decide) (gd DL_law_0 9 rfl) ?_
  rw [sN_hC]
  show GW z _ 7 Q 86 879768 19 [(0, .ref b), (1, .ref sz), (2, .ref (sz + 50))] [.ref (sz + 50 + 27)] (hC (hC (hC (hZ0 sz) sz (cX9 sz D.2.2)) (sz + 50) (cX10 (sz + 50))) (sz + 77) [zc 13 1])
  refine g_astore_n (lv' := [(0, .ref b), (1, .ref sz), (2, .ref (sz + 50)), (3, .ref (sz + 50 + 27))]) G (gd DL_law_0 10 rfl) [1, 2, 3, 0] rfl (by decide) rfl ?_
  refine g_iconst (v := nI 0) G (gd DL_law_0 11 rfl) (by decide) ?_
  refine g_istore (lv' := lL b sz (sz + 50) 0) G (gd DL_law_0 12 rfl) [1, 2, 3, 4, 0] (by decide) rfl ?_
  intro H locs ls r hL hl
  have e1 : (zS z).heap.size ≤ H.size := by
    rw [hz, r.1]
    show sz ≤ sz + 77 + 1
    omega
  exact l_loop C bx hX hbl hLl hEnd (L + 1) 0 0 rfl (by omega) (by omega) V00 M00 0 H 86 879768 (lIV.first hz r) (Nat.le_of_ble_eq_true rfl) (Nat.le_of_ble_eq_true rfl) locs ls ⟨e1, fun q hq hA => r.2.2.1 q hA, hL⟩ hl
end LB
theorem whole_start {p : Program} {e : Env} {s : State} {m : MethodId} {below : List Frame} {meth : Method} {c : Code} (l : Launch) (hflags : l.flags = flags0) {b L : Nat} {xs : Nat → Int32} (hL : L ≤ 3072) (C0 : lw_At p s m meth c b L xs) : W p l e room_1 s m #[Value.ref b] below meth c s.heap [] 0 0 (lw_Z below #[Value.ref b] s) (entryFrame m ([Value.ref b] : List Value).toArray 7) := by
  obtain ⟨hx, hb, hr, hml, hown, hts, hX, hbl, hlocks, hgv⟩ := id C0
  obtain ⟨D, d1, d2⟩ := st_0 hts hgv
  have C : lC (p, l, e, room_1, s, m, #[Value.ref b], below, meth, c) D cL_law 7 ret := ⟨hx, hb, hml, hown, fun w hw => hts w (List.mem_filter.mp hw).1, d1, hr, hlocks, rfl, hflags⟩
  have hl := lv_entry ([.ref b]) (n := 7) (Nat.le_of_ble_eq_true rfl)
  rw [lg_entry_eq]
  generalize (lg_sl ([.ref b]) ++ List.replicate (7 - (lg_sl ([.ref b])).length) Slot.unset).toArray = ls at hl ⊢
  have hl : lv_has ls 7 [(0, .ref b)] := hl
  refine l_first (z := (p, l, e, room_1, s, m, #[Value.ref b], below, meth, c)) (Q := lw_Z below #[Value.ref b] s) C d2 hX hbl hL (sz := s.heap.size) rfl (fun H cn sn i h1 h2 locs ls hS hl => ?_) s.heap [] ls ⟨rfl, fun q h => h, fun _ _ => rfl, fun a ha => absurd rfl ha⟩ (fun x hx => by cases hx) hl
  refine lv_iconst (v := 1) hx hb (gd DL_law_17 42 rfl) (by decide) ?_
  refine va_forget (fun q hq => hS.2.2 q hq) ?_
  exact W.widen h1 h2 (lw_ret hx hb hr hlocks (gd DL_law_17 43 rfl))
