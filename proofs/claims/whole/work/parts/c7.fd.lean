/-! The class's feed -/
theorem and255 (y : Int32) : ∃ t, t < 256 ∧ y &&& 255 = nI t := by
  refine ⟨y.toBitVec.toNat % 256, Nat.mod_lt _ (by omega), ?_⟩
  apply Int32.toBitVec_inj.mp
  apply BitVec.eq_of_toNat_eq
  rw [Int32.toBitVec_and, BitVec.toNat_and]
  show y.toBitVec.toNat &&& (2 ^ 8 - 1) = (BitVec.ofNat 32 (y.toBitVec.toNat % 256)).toNat
  rw [Nat.and_two_pow_sub_one_eq_mod, BitVec.toNat_ofNat]
  omega
theorem by_sb (v : Int32) (k : Nat) (hk : k = 0 ∨ k = 8 ∨ k = 16 ∨ k = 24) : (v >>> (nI k &&& 31)).toInt8 = (byO v (nI k)).toInt8 := by
  apply Int8.toBitVec_inj.mp
  rw [Int32.toBitVec_toInt8, Int32.toBitVec_toInt8, Int32.toBitVec_shiftRight, BitVec.signExtend_eq_setWidth_of_le _ (by decide), BitVec.signExtend_eq_setWidth_of_le _ (by decide)]
  unfold byO
  rw [Int32.toBitVec_and]
  rcases hk with rfl | rfl | rfl | rfl
  · show BitVec.setWidth 8 (v.toBitVec.sshiftRight 0) = BitVec.setWidth 8 (v.toBitVec >>> 0#32 &&& 255#32)
    apply BitVec.eq_of_getLsbD_eq
    intro i hi
    rw [BitVec.getLsbD_setWidth, BitVec.getLsbD_setWidth, BitVec.getLsbD_and, BitVec.getLsbD_sshiftRight, BitVec.ushiftRight_eq', BitVec.getLsbD_ushiftRight]
    rcases (show i = 0 ∨ i = 1 ∨ i = 2 ∨ i = 3 ∨ i = 4 ∨ i = 5 ∨ i = 6 ∨ i = 7 by omega) with rfl | rfl | rfl | rfl | rfl | rfl | rfl | rfl <;> simp
  · show BitVec.setWidth 8 (v.toBitVec.sshiftRight 8) = BitVec.setWidth 8 (v.toBitVec >>> 8#32 &&& 255#32)
    apply BitVec.eq_of_getLsbD_eq
    intro i hi
    rw [BitVec.getLsbD_setWidth, BitVec.getLsbD_setWidth, BitVec.getLsbD_and, BitVec.getLsbD_sshiftRight, BitVec.ushiftRight_eq', BitVec.getLsbD_ushiftRight]
    rcases (show i = 0 ∨ i = 1 ∨ i = 2 ∨ i = 3 ∨ i = 4 ∨ i = 5 ∨ i = 6 ∨ i = 7 by omega) with rfl | rfl | rfl | rfl | rfl | rfl | rfl | rfl <;> simp
  · show BitVec.setWidth 8 (v.toBitVec.sshiftRight 16) = BitVec.setWidth 8 (v.toBitVec >>> 16#32 &&& 255#32)
    apply BitVec.eq_of_getLsbD_eq
    intro i hi
    rw [BitVec.getLsbD_setWidth, BitVec.getLsbD_setWidth, BitVec.getLsbD_and, BitVec.getLsbD_sshiftRight, BitVec.ushiftRight_eq', BitVec.getLsbD_ushiftRight]
    rcases (show i = 0 ∨ i = 1 ∨ i = 2 ∨ i = 3 ∨ i = 4 ∨ i = 5 ∨ i = 6 ∨ i = 7 by omega) with rfl | rfl | rfl | rfl | rfl | rfl | rfl | rfl <;> simp
  · show BitVec.setWidth 8 (v.toBitVec.sshiftRight 24) = BitVec.setWidth 8 (v.toBitVec >>> 24#32 &&& 255#32)
    apply BitVec.eq_of_getLsbD_eq
    intro i hi
    rw [BitVec.getLsbD_setWidth, BitVec.getLsbD_setWidth, BitVec.getLsbD_and, BitVec.getLsbD_sshiftRight, BitVec.ushiftRight_eq', BitVec.getLsbD_ushiftRight]
    rcases (show i = 0 ∨ i = 1 ∨ i = 2 ∨ i = 3 ∨ i = 4 ∨ i = 5 ∨ i = 6 ∨ i = 7 by omega) with rfl | rfl | rfl | rfl | rfl | rfl | rfl | rfl <;> simp
theorem sb_8 : ∀ t, t < 256 → (nI t).toInt8.toInt32 = sb t := by decide +kernel
/-- a byte of a number, counted from the high one -/
def byN (v : Int32) (i : Nat) : Nat := (byO v (nI (24 - 8 * i))).toNatClampNeg
theorem byN_lt {v : Int32} {i : Nat} : byN v i < 256 ∧ byO v (nI (24 - 8 * i)) = nI (byN v i) := by
  obtain ⟨t, ht, e⟩ := and255 (v.toUInt32 >>> ((nI (24 - 8 * i)).toUInt32 &&& Int32.toUInt32 31)).toInt32
  have e' : byO v (nI (24 - 8 * i)) = nI t := e
  unfold byN
  rw [e', nI_clamp (by omega)]
  exact ⟨ht, rfl⟩
theorem byN_sb {v : Int32} {i : Nat} (hi : i < 4) : (v >>> (nI (24 - 8 * i) &&& 31)).toInt8.toInt32 = sb (byN v i) := by
  rw [by_sb v (24 - 8 * i) (by omega), byN_lt.2, sb_8 _ byN_lt.1]
/-- the tape behind a byte, behind a number, behind five -/
abbrev aT : Type := Nat × (Nat → Nat)
def tpB (T : aT) (b : Nat) : aT := (T.1 + 1, fun k => if k = T.1 then b else T.2 k)
def tpW (T : aT) (v : Int32) : aT := tpB (tpB (tpB (tpB T (byN v 0)) (byN v 1)) (byN v 2)) (byN v 3)
def tpF (T : aT) (a b c d e : Int32) : aT := tpW (tpW (tpW (tpW (tpW T a) b) c) d) e
def qFed (V : aV) (M : aM) (a b c d e : Int32) (v : Value) (V' : aV) (M' : aM) : Prop := V' = V ∧ ((M.1.1 + 20 ≤ 500 ∧ v = .int (nI (M.1.1 + 20)) ∧ M' = (tpF M.1 a b c d e, M.2)) ∨ (¬ M.1.1 + 20 ≤ 500 ∧ v = .int (-1) ∧ M' = M))
/-- only the tape, the tokens and the object's own numbers change -/
def xTp (x : Nat) (h h' : HS) : Prop := h'.2 = h.2 ∧ ∀ b, (b < x ∨ x + 5 < b) → hI h' b = hI h b
section FD
variable {w : gD} {x W : Nat} {h h' : HS} {V : aV} {RC : Nat → Nat → Int32} {M : aM}
theorem xTp.pc {a n : Nat} {R : Nat → Int32} (k : xTp x h h') (p : pcS h a n R) (ha : x + 5 < a) : pcS h' a n R := p.e k.1 (fun b b1 b2 => k.2 b (by omega))
theorem kvX.tp (hx : kvX x W h) (k : xTp x h h') : kvX x W h' := by
  obtain ⟨x0, x1, x2, x3, x4, x5, x6, x7, ⟨x8, x9⟩, xW, ⟨xa, xb⟩, xc⟩ := hx
  have p9 := k.pc x9 (by omega)
  have pc := k.pc xc (by omega)
  have eK : hK h' = hK h := congrArg (fun z => z.2.2.1) k.1
  have eN : hN h' = hN h := congrArg (fun z => z.2.2.2.1) k.1
  have eR : hR h' = hR h := congrArg (fun z => z.2.1) k.1
  have eT : hT h' = hT h := congrArg (fun z => z.2.2.2.2) k.1
  unfold kvX kSh wSh dSh sSh rSh tSh ppSh
  unfold kSh at x2
  unfold wSh at x3
  unfold dSh at x4
  unfold sSh rSh at x5
  unfold tSh at x6
  unfold ppSh at x7
  rw [eK, eN, eR, eT]
  exact ⟨x0, x1, x2, x3, x4, x5, x6, x7, ⟨x8, p9⟩, xW, ⟨xa, xb⟩, pc⟩
theorem K0.tp (K : K0 x W h V RC) (k : xTp x h h') : K0 x W h' V RC := by
  obtain ⟨hx, hV, ⟨w0, w5, w6, w7⟩, ⟨d1, d2⟩, t, s1, s2⟩ := K
  have hx1 := hx.tp k
  have xW := hx.2.2.2.2.2.2.2.2.2.1
  have eK : hK h' = hK h := congrArg (fun z => z.2.2.1) k.1
  have eR : hR h' = hR h := congrArg (fun z => z.2.1) k.1
  have eT : hT h' = hT h := congrArg (fun z => z.2.2.2.2) k.1
  have eL : hL h' = hL h := congrArg (fun z => z.1) k.1
  have eI := k.2
  have eP : ∀ a R, okP x W h a R → okP x W h' a R := fun a R p => ⟨p.1, by rw [eT]; exact p.2.1, k.pc p.2.2 (by have := p.1; omega)⟩
  refine ⟨hx1, hV, ⟨by rw [eI W (by omega)]; exact w0, fun i hi => ?_, fun f hf => ?_, fun f hf => ?_⟩, ⟨by rw [eI _ (by omega)]; exact d1, fun i hi => ?_⟩, ?_, ?_, fun j hj => by rw [eL]; exact s2 j hj⟩
  · obtain ⟨a, a1, a2, a3, a4⟩ := w5 i hi
    exact ⟨a, by rw [eR]; exact a1, a2, eP _ _ a3, by rw [eI _ (by omega)]; exact a4⟩
  · obtain ⟨b, b1, b2, b3, b4, b5, b6⟩ := w6 f hf
    exact ⟨b, by rw [eR]; exact b1, b2, b3, by rw [eT]; exact b4, by rw [eK]; exact b5, by rw [eI b (by omega)]; exact b6⟩
  · obtain ⟨b, b1, b2, b3, b4⟩ := w7 f hf
    exact ⟨b, by rw [eR]; exact b1, b2, by rw [eT]; exact b3, k.pc b4 (by omega)⟩
  · obtain ⟨⟨b, b1, b2, b3, b4⟩, l⟩ := d2 i hi
    rw [eR, eI (x + 13) (by omega), eI (x + 14) (by omega), eI (x + 16) (by omega)]
    refine ⟨⟨b, b1, by rw [eK]; exact b2, b3, by rw [eT]; exact b4⟩, ?_⟩
    rcases l with l | ⟨l1, q, a, l2, l3, l4, l5, l6, l7, l8, l9, l10, l11⟩ | l
    · exact Or.inl l
    · exact Or.inr (Or.inl ⟨l1, q, a, l2, l3, l4, l5, l6, l7, l8, l9, l10, eP _ _ l11⟩)
    · exact Or.inr (Or.inr l)
  · rcases t with t | ⟨a, f, t1, t2, t3, t4, t5⟩
    · exact Or.inl (by rw [eR]; exact t)
    · exact Or.inr ⟨a, f, by rw [eR]; exact t1, by rw [eT]; exact t2, t3, by rw [eI _ (by omega)]; exact t4, tbO.cg (fun i hi => eI _ (by omega)) t5⟩
  · unfold sId
    rw [eI _ (by omega), eI _ (by omega), eI _ (by omega)]
    exact s1
theorem xTp.tr {h1 h2 : HS} (a : xTp x h h1) (b : xTp x h1 h2) : xTp x h h2 := ⟨b.1.trans a.1, fun c c1 => (b.2 c c1).trans (a.2 c c1)⟩
def tBc (x : Nat) (h : HS) (n : Nat) (b : Int32) : HS := sI (sI h (x + 1) n b) x 2 (nI (n + 1))
theorem tBc_tp {n : Nat} {b : Int32} : xTp x h (tBc x h n b) := ⟨rfl, fun c hc => by unfold tBc; rw [hI_sI_ne (by omega), hI_sI_ne (by omega)]⟩
theorem tBc_2 {n : Nat} {b : Int32} : hI (tBc x h n b) x 2 = nI (n + 1) := by
  unfold tBc
  rw [hI_sI, if_pos ⟨rfl, rfl⟩]
/-- the tape and the rest of what M says -/
theorem kvM.tB (m : kvM x h M) {b : Nat} {c : Int32} (hb : b < 256) (hc : c = sb b) (hn : M.1.1 < 500) : kvM x (tBc x h M.1.1 c) (tpB M.1 b, M.2) := by
  obtain ⟨⟨m1, m2, m3⟩, ⟨m4, m5, m6⟩, ⟨m7, m8, m9⟩, ma, mb, mc⟩ := m
  have ne : ∀ b, b ≠ x → b ≠ x + 1 → hI (tBc x h M.1.1 c) b = hI h b := fun b b1 b2 => by unfold tBc; rw [hI_sI_ne b1, hI_sI_ne b2]
  have xx : ∀ j, j ≠ 2 → hI (tBc x h M.1.1 c) x j = hI h x j := fun j hj => by
    unfold tBc
    rw [hI_sI, if_neg (by omega), hI_sI_ne (by omega)]
  refine ⟨⟨tBc_2, by show M.1.1 + 1 ≤ 500; omega, fun k hk => ?_⟩, ⟨by rw [xx _ (by omega)]; exact m4, by rw [xx _ (by omega)]; exact m5, by rw [xx _ (by omega)]; exact m6⟩, ⟨by rw [xx _ (by omega)]; exact m7, by rw [xx _ (by omega)]; exact m8, by rw [xx _ (by omega)]; exact m9⟩, by rw [ne _ (by omega) (by omega)]; exact ma, mb, by rw [ne _ (by omega) (by omega)]; exact mc⟩
  have hk' : k < M.1.1 + 1 := hk
  show (if k = M.1.1 then b else M.1.2 k) < 256 ∧ hI (tBc x h M.1.1 c) (x + 1) k = sb (if k = M.1.1 then b else M.1.2 k)
  have e1 : hI (tBc x h M.1.1 c) (x + 1) k = if k = M.1.1 then c else hI h (x + 1) k := by
    unfold tBc
    rw [hI_sI, if_neg (by omega), hI_sI]
    by_cases e : k = M.1.1
    · rw [if_pos ⟨rfl, e⟩, if_pos e]
    · rw [if_neg (fun q => e q.2), if_neg e]
  rw [e1]
  by_cases e : k = M.1.1
  · rw [if_pos e, if_pos e]; exact ⟨hb, hc⟩
  · rw [if_neg e, if_neg e]; exact m3 k (by omega)
def bB (v : Int32) (k : Nat) : Int32 := (v >>> (nI k &&& 31)).toInt8.toInt32
def tWc (x : Nat) (h : HS) (n : Nat) (v : Int32) : HS := tBc x (tBc x (tBc x (tBc x h n (bB v 24)) (n + 1) (bB v 16)) (n + 2) (bB v 8)) (n + 3) (bB v 0)
theorem tWc_tp {n : Nat} {v : Int32} : xTp x h (tWc x h n v) := ((tBc_tp.tr tBc_tp).tr tBc_tp).tr tBc_tp
theorem kvM.tW (m : kvM x h M) {v : Int32} (hn : M.1.1 + 4 ≤ 500) : kvM x (tWc x h M.1.1 v) (tpW M.1 v, M.2) := by
  have a := m.tB (c := bB v 24) (byN_lt (v := v) (i := 0)).1 (byN_sb (i := 0) (by omega)) (by omega)
  have b := a.tB (c := bB v 16) (byN_lt (v := v) (i := 1)).1 (byN_sb (i := 1) (by omega)) (by show M.1.1 + 1 < 500; omega)
  have c := b.tB (c := bB v 8) (byN_lt (v := v) (i := 2)).1 (byN_sb (i := 2) (by omega)) (by show M.1.1 + 1 + 1 < 500; omega)
  exact c.tB (c := bB v 0) (byN_lt (v := v) (i := 3)).1 (byN_sb (i := 3) (by omega)) (by show M.1.1 + 1 + 1 + 1 < 500; omega)
theorem e_x_putBytes (hx : kvX x W h) {n : Nat} (hn : n + 4 ≤ 500) (ht : hI h x 2 = nI n) (v : Int32) : EvF w 0 0 0 yX9_putBytes cX9_putBytes 3 none [.ref x, .int v] h none (tWc x h n v) := by
  refine g_start (by decide) (Nat.le_of_ble_eq_true rfl) [(0, _), (1, _)] rfl (fun z hfl C => ?_)
  have step : ∀ (k : Int32) (h1 : HS) (n1 : Nat), kvX x W h1 → ¬ k < 0 → n1 < 500 → hI h1 x 2 = nI n1 → GW z w 3 (gQ z w 0 0 (fun r' h'' => r' = none ∧ h'' = tWc x h n v)) 0 0 3 [(0, .ref x), (1, .int v), (2, .int (k + -8))] [] (tBc x h1 n1 (v >>> (k &&& 31)).toInt8.toInt32) → GW z w 3 (gQ z w 0 0 (fun r' h'' => r' = none ∧ h'' = tWc x h n v)) 0 0 3 [(0, .ref x), (1, .int v), (2, .int k)] [] h1 := by
    intro k h1 n1 hx hk hn ht hG
    refine g_iload_n C (gd DX9_putBytes_0 2 rfl) 2 rfl rfl ?_
    refine g_if_lt C 46 (gd DX9_putBytes_0 3 rfl) (by decide) (fun c4 => ?_) (fun c4 => ?_)
    · exact absurd c4 hk
    · refine g_aload_n C (gd DX9_putBytes_0 4 rfl) 0 rfl rfl ?_
      refine g_geti (ci := 9) (k := 2) C rfl (by decide) rfl lf_TestJudge_20 hx.1 (gd DX9_putBytes_0 5 rfl) ?_
      rw [ht]
      refine g_sipush (v := 500) C (gd DX9_putBytes_0 6 rfl) (by decide) ?_
      refine g_icmp_ge C 46 (gd DX9_putBytes_0 7 rfl) (by decide) (fun c14 => ?_) (fun c14 => ?_)
      · exact absurd ((nI_leI (a := 500) (by omega) (by omega)).mp c14) (by omega)
      · refine g_aload_n C (gd DX9_putBytes_0 8 rfl) 0 rfl rfl ?_
        refine g_getr (ci := 9) (k := 0) C rfl (by decide) rfl lf_TestJudge_9 hx.1 hx.2.1.1 (gd DX9_putBytes_0 9 rfl) ?_
        refine g_aload_n C (gd DX9_putBytes_0 10 rfl) 0 rfl rfl ?_
        refine g_geti (ci := 9) (k := 2) C rfl (by decide) rfl lf_TestJudge_20 hx.1 (gd DX9_putBytes_0 11 rfl) ?_
        rw [ht]
        refine g_iload_n C (gd DX9_putBytes_0 12 rfl) 1 rfl rfl ?_
        refine g_iload_n C (gd DX9_putBytes_0 13 rfl) 2 rfl rfl ?_
        refine g_ishr C (gd DX9_putBytes_0 14 rfl) ?_
        refine g_i2b C (gd DX9_putBytes_0 15 rfl) ?_
        refine g_bsj (j := n1) C hx.2.1.2.1 hx.2.1.2.2 (by first | decide | omega) rfl (by omega) (gd DX9_putBytes_0 16 rfl) ?_
        refine g_aload_n C (gd DX9_putBytes_0 17 rfl) 0 rfl rfl ?_
        refine g_dup C (gd DX9_putBytes_0 18 rfl) rfl ?_
        refine g_geti (ci := 9) (k := 2) C rfl (by decide) rfl lf_TestJudge_20 hx.1 (gd DX9_putBytes_0 19 rfl) ?_
        rw [show ∀ u : Int32, hI (sI h1 (x + 1) n1 u) x 2 = nI n1 from fun u => by rw [hI_sI, if_neg (by omega)]; exact ht]
        refine g_iconst (v := 1) C (gd DX9_putBytes_0 20 rfl) (by decide) ?_
        refine g_iadd C (gd DX9_putBytes_0 21 rfl) ?_
        rw [nI_1]
        refine g_puti (ci := 9) (k := 2) C rfl (by decide) rfl lf_TestJudge_20 hx.1 (Or.inl rfl) rfl (gd DX9_putBytes_0 22 rfl) ?_
        refine g_iinc (lv' := [(0, _), (1, _), (2, _)]) C (gd DX9_putBytes_0 23 rfl) 2 [1, 2, 0] rfl rfl (by decide) rfl ?_
        refine g_goto (tgt := 3) C (gd DX9_putBytes_0 24 rfl) (by decide) ?_
        rw [pk_vb]
        exact hG
  refine g_bipush (v := 24) C (gd DX9_putBytes_0 0 rfl) (by decide) ?_
  refine g_istore_n (lv' := [(0, _), (1, _), (2, _)]) C (gd DX9_putBytes_0 1 rfl) [1, 2, 0] rfl (by decide) rfl ?_
  refine step 24 h n hx (by decide) (by omega) ht ?_
  refine step 16 (tBc x h n (bB v 24)) (n + 1) (hx.tp tBc_tp) (by decide) (by omega) tBc_2 ?_
  refine step 8 (tBc x (tBc x h n (bB v 24)) (n + 1) (bB v 16)) (n + 2) (hx.tp (tBc_tp.tr tBc_tp)) (by decide) (by omega) tBc_2 ?_
  refine step 0 (tBc x (tBc x (tBc x h n (bB v 24)) (n + 1) (bB v 16)) (n + 2) (bB v 8)) (n + 3) (hx.tp ((tBc_tp.tr tBc_tp).tr tBc_tp)) (by decide) (by omega) tBc_2 ?_
  refine g_iload_n C (gd DX9_putBytes_0 2 rfl) 2 rfl rfl ?_
  refine g_if_lt C 46 (gd DX9_putBytes_0 3 rfl) (by decide) (fun c4 => ?_) (fun c4 => ?_)
  · exact g_vret C (by omega) (by omega) ⟨rfl, rfl⟩ (gd DX9_putBytes_0 25 rfl)
  · exact absurd (by decide) c4
theorem e_x_feed (K : K0 x W h V RC) (hM : kvM x h M) (a b c d e : Int32) : Ev w 1 0 0 yX9_feed cX9_feed 6 (some .int) [.ref x, .int a, .int b, .int c, .int d, .int e] h (aQ x (qFed V M a b c d e)) := by
  refine g_start (by decide) (Nat.le_of_ble_eq_true rfl) [(0, _), (1, _), (2, _), (3, _), (4, _), (5, _)] rfl (fun z hfl C => ?_)
  have hx := K.1
  have h2 := hM.1.1
  have h5 := hM.1.2.1
  refine g_aload_n C (gd DX9_feed_0 0 rfl) 0 rfl rfl ?_
  refine g_geti (ci := 9) (k := 2) C rfl (by decide) rfl lf_TestJudge_20 hx.1 (gd DX9_feed_0 1 rfl) ?_
  refine g_bipush (v := 20) C (gd DX9_feed_0 2 rfl) (by decide) ?_
  rw [h2]
  refine g_iadd C (gd DX9_feed_0 3 rfl) ?_
  rw [show nI M.1.1 + 20 = nI (M.1.1 + 20) from nI_add M.1.1 20]
  refine g_sipush (v := 500) C (gd DX9_feed_0 4 rfl) (by decide) ?_
  refine g_icmp_le C 15 (gd DX9_feed_0 5 rfl) (by decide) (fun c10 => ?_) (fun c10 => ?_)
  rotate_left
  · have hc : ¬ M.1.1 + 20 ≤ 500 := fun q => c10 ((nI_leI (by omega) (by decide)).mpr q)
    refine g_iconst (v := -1) C (gd DX9_feed_0 6 rfl) (by decide) ?_
    exact g_iret C (by omega) (by omega) ⟨_, V, M, rfl, ⟨W, RC, K, hM⟩, rfl, Or.inr ⟨hc, rfl, rfl⟩⟩ (gd DX9_feed_0 7 rfl)
  have hc : M.1.1 + 20 ≤ 500 := (nI_leI (by omega) (by decide)).mp c10
  have m1 := hM.tW (v := a) (by omega)
  have m2 := m1.tW (v := b) (by show M.1.1 + 4 + 4 ≤ 500; omega)
  have m3 := m2.tW (v := c) (by show M.1.1 + 8 + 4 ≤ 500; omega)
  have m4 := m3.tW (v := d) (by show M.1.1 + 12 + 4 ≤ 500; omega)
  have m5 := m4.tW (v := e) (by show M.1.1 + 16 + 4 ≤ 500; omega)
  have t1 : xTp x h (tWc x h M.1.1 a) := tWc_tp
  refine g_aload_n C (gd DX9_feed_0 8 rfl) 0 rfl rfl ?_
  refine g_iload_n C (gd DX9_feed_0 9 rfl) 1 rfl rfl ?_
  refine g_cV0 (v := .null) (ci := 9) C [_] mX9_putBytes lm_TestJudge_86 (by exact hx.1) rfl rfl (e_x_putBytes hx (by omega) h2 a) hfl (by first | decide | omega) (by decide) (by omega) (by omega) rfl rfl (Nat.le_of_ble_eq_true rfl) (gd DX9_feed_0 10 rfl) ?_
  generalize tWc x h M.1.1 a = g1 at m1 m2 m3 m4 m5 t1 ⊢
  have t2 : xTp x h (tWc x g1 (M.1.1 + 4) b) := t1.tr tWc_tp
  have hx1 := hx.tp t1
  refine g_aload_n C (gd DX9_feed_0 11 rfl) 0 rfl rfl ?_
  refine g_iload_n C (gd DX9_feed_0 12 rfl) 2 rfl rfl ?_
  refine g_cV0 (v := .null) (ci := 9) C [_] mX9_putBytes lm_TestJudge_86 (by exact hx1.1) rfl rfl (e_x_putBytes hx1 (n := M.1.1 + 4) (by omega) m1.1.1 b) hfl (by first | decide | omega) (by decide) (by omega) (by omega) rfl rfl (Nat.le_of_ble_eq_true rfl) (gd DX9_feed_0 13 rfl) ?_
  have m2 : kvM x (tWc x g1 (M.1.1 + 4) b) (tpW (tpW M.1 a) b, M.2) := m2
  have m3 : kvM x (tWc x (tWc x g1 (M.1.1 + 4) b) (M.1.1 + 8) c) (tpW (tpW (tpW M.1 a) b) c, M.2) := m3
  have m4 : kvM x (tWc x (tWc x (tWc x g1 (M.1.1 + 4) b) (M.1.1 + 8) c) (M.1.1 + 12) d) (tpW (tpW (tpW (tpW M.1 a) b) c) d, M.2) := m4
  have m5 : kvM x (tWc x (tWc x (tWc x (tWc x g1 (M.1.1 + 4) b) (M.1.1 + 8) c) (M.1.1 + 12) d) (M.1.1 + 16) e) (tpW (tpW (tpW (tpW (tpW M.1 a) b) c) d) e, M.2) := m5
  generalize tWc x g1 (M.1.1 + 4) b = g2 at m2 m3 m4 m5 t2 ⊢
  have hx2 := hx.tp t2
  have t3 : xTp x h (tWc x g2 (M.1.1 + 8) c) := t2.tr tWc_tp
  refine g_aload_n C (gd DX9_feed_0 14 rfl) 0 rfl rfl ?_
  refine g_iload_n C (gd DX9_feed_0 15 rfl) 3 rfl rfl ?_
  refine g_cV0 (v := .null) (ci := 9) C [_] mX9_putBytes lm_TestJudge_86 (by exact hx2.1) rfl rfl (e_x_putBytes hx2 (n := M.1.1 + 8) (by omega) m2.1.1 c) hfl (by first | decide | omega) (by decide) (by omega) (by omega) rfl rfl (Nat.le_of_ble_eq_true rfl) (gd DX9_feed_0 16 rfl) ?_
  generalize tWc x g2 (M.1.1 + 8) c = g3 at m3 m4 m5 t3 ⊢
  have hx3 := hx.tp t3
  have t4 : xTp x h (tWc x g3 (M.1.1 + 12) d) := t3.tr tWc_tp
  refine g_aload_n C (gd DX9_feed_0 17 rfl) 0 rfl rfl ?_
  refine g_iload C (gd DX9_feed_0 18 rfl) 4 rfl ?_
  refine g_cV0 (v := .null) (ci := 9) C [_] mX9_putBytes lm_TestJudge_86 (by exact hx3.1) rfl rfl (e_x_putBytes hx3 (n := M.1.1 + 12) (by omega) m3.1.1 d) hfl (by first | decide | omega) (by decide) (by omega) (by omega) rfl rfl (Nat.le_of_ble_eq_true rfl) (gd DX9_feed_0 19 rfl) ?_
  generalize tWc x g3 (M.1.1 + 12) d = g4 at m4 m5 t4 ⊢
  have hx4 := hx.tp t4
  have t5 : xTp x h (tWc x g4 (M.1.1 + 16) e) := t4.tr tWc_tp
  refine g_aload_n C (gd DX9_feed_0 20 rfl) 0 rfl rfl ?_
  refine g_iload C (gd DX9_feed_0 21 rfl) 5 rfl ?_
  refine g_cV0 (v := .null) (ci := 9) C [_] mX9_putBytes lm_TestJudge_86 (by exact hx4.1) rfl rfl (e_x_putBytes hx4 (n := M.1.1 + 16) (by omega) m4.1.1 e) hfl (by first | decide | omega) (by decide) (by omega) (by omega) rfl rfl (Nat.le_of_ble_eq_true rfl) (gd DX9_feed_0 22 rfl) ?_
  generalize tWc x g4 (M.1.1 + 16) e = g5 at m5 t5 ⊢
  have hx5 := hx.tp t5
  refine g_aload_n C (gd DX9_feed_0 23 rfl) 0 rfl rfl ?_
  refine g_geti (ci := 9) (k := 2) C rfl (by decide) rfl lf_TestJudge_20 hx5.1 (gd DX9_feed_0 24 rfl) ?_
  rw [m5.1.1]
  exact g_iret C (by omega) (by omega) ⟨_, V, _, rfl, ⟨W, RC, K.tp t5, m5⟩, rfl, Or.inl ⟨hc, rfl, rfl⟩⟩ (gd DX9_feed_0 25 rfl)
end FD
