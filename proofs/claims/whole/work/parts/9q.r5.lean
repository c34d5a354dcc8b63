/-! the class's Reader: contracts of sums, readNot; readSum behind a fault -/
theorem GW.up {z : gZ} {w : gD} {n : Nat} {Q : State → Prop} {cn sn cn' sn' pc : Nat} {lv : List (Nat × Value)} {st : List Value} {h : HS} (h1 : cn ≤ cn') (h2 : sn ≤ sn') (k : GW z w n Q cn' sn' pc lv st h) : GW z w n Q cn sn pc lv st h := fun H locs ls hR hL hl => W.widen h1 h2 (k H locs ls hR hL hl)
theorem cT.hc {T : Nat} {h : HS} {tx : Nat → Nat} {n c j : Nat} (ct : cT T h tx n c j) : ∀ i, i < c → cdT tx n i ≠ 0 → i + 1 < c := fun i hi e => by
  obtain ⟨⟨-, -, -, c1, -⟩, -⟩ := ct
  by_cases q : i = c - 1
  · rw [q] at e; exact absurd c1 e
  · omega
/-- between tokens, no fault told -/
def cSt (U W T N : Nat) (h : HS) (tx : Nat → Nat) (n c j nt na np : Nat) (Wd : Nat → Nat) (PR : Nat → pR) : Prop := cQ U W T N h ∧ cT T h tx n c j ∧ hI h U 1 = 0 ∧ cN W N h nt na np Wd PR
theorem cSt.q {U W T N : Nat} {h h1 : HS} {tx : Nat → Nat} {n c j j1 nt na np : Nat} {Wd : Nat → Nat} {PR : Nat → pR} (s : cSt U W T N h tx n c j nt na np Wd PR) (a : qF U T h h1) (ct : cT T h1 tx n c j1) (h0 : hI h1 U 1 = 0) : cSt U W T N h1 tx n c j1 nt na np Wd PR := ⟨s.1.q a, ct, h0, s.2.2.2.q s.1 a⟩
theorem cSt.t {U W T N : Nat} {h h1 : HS} {tx : Nat → Nat} {n c j j1 nt na np : Nat} {Wd : Nat → Nat} {PR : Nat → pR} (s : cSt U W T N h tx n c j nt na np Wd PR) (a : tF T h h1) (ct : cT T h1 tx n c j1) : cSt U W T N h1 tx n c j1 nt na np Wd PR := s.q a.q ct ((a.2 U 1 (fun x => s.1.ne x.1)).trans s.2.2.1)
theorem cSt.e {U W T N : Nat} {h h1 : HS} {tx : Nat → Nat} {n c j nt na np : Nat} {Wd : Nat → Nat} {PR : Nat → pR} (s : cSt U W T N h tx n c j nt na np Wd PR) (e : hExt h h1) : cSt U W T N h1 tx n c j nt na np Wd PR := s.q e.q (s.2.1.ext s.1 e) (by rw [(e.2 U s.1.2.2.2.2.1).1]; exact s.2.2.1)
/-- pieces that a base, a sum, an if (behind its word) makes at most -/
def jB (o j : Nat) : pRz → Nat
  | .inl x => 4 * (x.2 - j) + 1 + 12 * (4 - o)
  | .inr x => 4 * (x.1 - j) - 1
def jS (o j : Nat) : pRz → Nat
  | .inl x => 4 * (x.2 - j) + 7 + 12 * (4 - o)
  | .inr x => 4 * (x.1 - j) + 3
def jI (o j : Nat) : pRz → Nat
  | .inl x => 4 * (x.2 - j) + 17 + 12 * (4 - o)
  | .inr x => 4 * (x.1 - j) + 3
def cCB (w : gD) (U W T N : Nat) (tx : Nat → Nat) (n c nt na np : Nat) (Wd : Nat → Nat) (PR : Nat → pR) (F : Nat) : Prop := ∀ h o j acc r K, cSt U W T N h tx n c j nt na np Wd PR → o ≤ 4 → j < c → 8 * (c - j) < F → pz (envT tx n nt na np Wd PR) F 0 o j acc = some r → jB o j r ≤ K → Ev w (4 + 3 * (4 - o)) (5 * K) (61 * K) yX3_readBase cX3_readBase 4 (some (.object RX2)) [.ref U, .int (nI o)] h (rsC U T h tx n c j r)
def cCS (w : gD) (U W T N : Nat) (tx : Nat → Nat) (n c nt na np : Nat) (Wd : Nat → Nat) (PR : Nat → pR) (F : Nat) : Prop := ∀ h o j acc r K, cSt U W T N h tx n c j nt na np Wd PR → o ≤ 4 → j < c → 8 * (c - j) + 3 < F → pz (envT tx n nt na np Wd PR) F 4 o j acc = some r → jS o j r ≤ K → Ev w (5 + 3 * (4 - o)) (5 * K) (61 * K) yX3_readSum cX3_readSum 7 (some (.object RX2)) [.ref U, .int (nI o)] h (rsC U T h tx n c j r)
theorem pcW.row0 {h : HS} {p b : Nat} {X Y : Nat → Int32} (q : pcW h p (0 + b) (rJoin X Y 0 b)) : pcW h p b (rBegins Y b (X 1)) := by
  rw [Nat.zero_add] at q
  exact q.cg (rq_begins X Y b)
section R5
variable {w : gD} {U W T N : Nat} {h : HS} {tx : Nat → Nat} {n c j nt na np : Nat} {Wd : Nat → Nat} {PR : Nat → pR}
theorem e_r_sum1 (hq : cQ U W T N h) (h0 : hI h U 1 ≠ 0) (v : Int32) : Ev w 3 15 183 yX3_readSum cX3_readSum 7 (some (.object RX2)) [.ref U, .int v] h (fun r' h' => hExt h h' ∧ ∃ p R, r' = some (.ref p) ∧ pcW h' p 0 R) := by
  refine g_start (by decide) (Nat.le_of_ble_eq_true rfl) [(0, _), (1, _)] rfl (fun z hfl C => ?_)
  refine g_aload_n C (gd DX3_readSum_0 0 rfl) 0 rfl rfl ?_
  refine g_getr (ci := 3) (k := 0) C rfl (by decide) rfl lf_TestJudge_Reader_12 hq.1.1 hq.1.2.1 (gd DX3_readSum_0 1 rfl) ?_
  refine g_cV1 (ci := 8) C [] mX8_allAtoms lm_TestJudge_Reader_113 (by exact hq.2.2.2.1.1) rfl rfl (e_w_allAtoms hq.2.2.2.1) hfl (by first | decide | omega) (by decide) (by omega) (by omega) rfl rfl (Nat.le_of_ble_eq_true rfl) (gd DX3_readSum_0 2 rfl) ?_
  refine g_istore_n (lv' := [(0, _), (1, _), (2, _)]) C (gd DX3_readSum_0 3 rfl) [1, 2, 0] rfl (by decide) rfl ?_
  refine g_new (ci := 2) C rfl lc_TestJudge_Reader_94 lI_TestJudge_Piece li_TestJudge_Piece (by decide) (by decide) (gd DX3_readSum_0 4 rfl) (gdv2) ?_
  refine g_dup C (gd DX3_readSum_0 5 rfl) rfl ?_
  refine g_iconst (v := 0) C (gd DX3_readSum_0 6 rfl) (by decide) ?_
  refine g_iconst (v := 0) C (gd DX3_readSum_0 7 rfl) (by decide) ?_
  refine g_cI C [_, _] mX2_init lm_TestJudge_Reader_116 (e_pc_init 0 (by omega) _) hfl (by first | decide | omega) (by decide) (by omega) (by omega) rfl rfl (Nat.le_of_ble_eq_true rfl) (gd DX3_readSum_0 8 rfl) ?_
  obtain ⟨p1, e1, -, x1, -, w1⟩ := pcF_mk (np := w.2.2.2) (h := h) 0
  cases Option.some.inj e1
  generalize pcF w.2.2.2 h 0 0 = g1 at x1 w1 ⊢
  refine g_astore_n (lv' := [(0, _), (1, _), (2, _), (3, _)]) C (gd DX3_readSum_0 9 rfl) [1, 2, 3, 0] rfl (by decide) rfl ?_
  refine g_new (ci := 2) C rfl lc_TestJudge_Reader_94 lI_TestJudge_Piece li_TestJudge_Piece (by decide) (by decide) (gd DX3_readSum_0 10 rfl) (gdv2) ?_
  refine g_dup C (gd DX3_readSum_0 11 rfl) rfl ?_
  refine g_iconst (v := 0) C (gd DX3_readSum_0 12 rfl) (by decide) ?_
  refine g_iload_n C (gd DX3_readSum_0 13 rfl) 2 rfl rfl ?_
  refine g_cI C [_, _] mX2_init lm_TestJudge_Reader_116 (e_pc_init 0 (by omega) _) hfl (by first | decide | omega) (by decide) (by omega) (by omega) rfl rfl (Nat.le_of_ble_eq_true rfl) (gd DX3_readSum_0 14 rfl) ?_
  obtain ⟨p2, e2, -, x2, -, w2⟩ := pcF_mk (np := w.2.2.2) (h := g1) (allF (hI h W 0))
  cases Option.some.inj e2
  generalize pcF w.2.2.2 g1 0 (allF (hI h W 0)) = g2 at x2 w2 ⊢
  have x12 := x1.tr x2
  have hq2 := hq.q (x12.q (U := U))
  have w1' := w1.ext x2
  have k144 : ∀ v5, GW z w 7 (gQ z w 15 183 (fun r' h'' => hExt h h'' ∧ ∃ p R, r' = some (.ref p) ∧ pcW h'' p 0 R)) 10 122 144 [(0, .ref U), (1, .int v), (2, .int (allF (hI h W 0))), (3, .ref (hT h)), (4, .ref (hT g1)), (5, .int v5)] [] g2 := by
    intro v5
    refine g_aload_n C (gd DX3_readSum_1 8 rfl) 3 rfl rfl ?_
    refine g_aload C (gd DX3_readSum_1 9 rfl) 4 rfl ?_
    refine g_callS C [_, _] mX2_sum lm_TestJudge_Reader_133 (e_pc_sum w1' w2 (by omega)) hfl (by first | decide | omega) (by decide) (by omega) (by omega) rfl rfl (Nat.le_of_ble_eq_true rfl) (gd DX3_readSum_1 10 rfl) (fun r h2 hp => ?_)
    obtain ⟨p, rfl, p2, p3, p4, p5⟩ := hp
    show GW z w 7 _ _ _ _ _ [.ref p] _
    exact g_aret C (by omega) (by omega) ⟨x12.tr p3, p, _, rfl, p5⟩ (gd DX3_readSum_1 11 rfl)
  refine g_astore (lv' := [(0, _), (1, _), (2, _), (3, _), (4, _)]) C (gd DX3_readSum_0 15 rfl) [1, 2, 3, 4, 0] (by decide) rfl ?_
  refine g_iconst (v := 0) C (gd DX3_readSum_0 16 rfl) (by decide) ?_
  refine g_istore (lv' := [(0, _), (1, _), (2, _), (3, _), (4, _), (5, _)]) C (gd DX3_readSum_0 17 rfl) [1, 2, 3, 4, 5, 0] (by decide) rfl ?_
  refine g_iload C (gd DX3_readSum_0 18 rfl) 5 rfl ?_
  refine g_aload_n C (gd DX3_readSum_0 19 rfl) 0 rfl rfl ?_
  refine g_getr (ci := 3) (k := 3) C rfl (by decide) rfl lf_TestJudge_Reader_33 hq2.1.1 hq2.1.2.2.1 (gd DX3_readSum_0 20 rfl) ?_
  refine g_geti (ci := 7) (k := 0) C rfl (by decide) rfl lf_TestJudge_Reader_37 hq2.2.2.1.1 (gd DX3_readSum_0 21 rfl) ?_
  refine g_icmp_gt C 144 (gd DX3_readSum_0 22 rfl) (by decide) (fun c41 => ?_) (fun c41 => ?_)
  · exact GW.up (by omega) (by omega) (k144 _)
  · refine g_aload_n C (gd DX3_readSum_0 23 rfl) 0 rfl rfl ?_
    refine g_geti (ci := 3) (k := 1) C rfl (by decide) rfl lf_TestJudge_Reader_18 hq2.1.1 (gd DX3_readSum_0 24 rfl) ?_
    refine g_if_ne C 144 (gd DX3_readSum_0 25 rfl) (by decide) (fun c48 => ?_) (fun c48 => ?_)
    · exact GW.up (by omega) (by omega) (k144 _)
    · exact absurd (by first | exact c48 | exact Decidable.of_not_not c48) (by rw [(x12.2 U hq.2.2.2.2.1).1]; exact h0)
theorem e_r_not {F o : Nat} {acc : pR} {r0 r : pRz} {K : Nat} (hB : cCB w U W T N tx n c nt na np Wd PR F) (s : cSt U W T N h tx n c j nt na np Wd PR) (ho : o ≤ 4) (hj : j < c) (hF : 8 * (c - j) < F) (hz0 : pz (envT tx n nt na np Wd PR) F 0 o j acc = some r0) (hz : pThen (some r0) (fun j1 a => if a.1 = 0 then some (.inr (j1, (0, rPlain (allF (nI nt) &&& (a.2 1 ^^^ -1))))) else some (.inl (5, j1))) = some r) (hK : jB o j r0 + 1 ≤ K) : Ev w (5 + 3 * (4 - o)) (5 * K) (61 * K) yX3_readNot cX3_readNot 3 (some (.object RX2)) [.ref U, .int (nI o)] h (rsC U T h tx n c j r) := by
  refine g_start (by decide) (Nat.le_of_ble_eq_true rfl) [(0, _), (1, _)] rfl (fun z hfl C => ?_)
  obtain ⟨r1, hr1, ok⟩ := pz_tot (E := envT tx n nt na np Wd PR) s.2.1.hc s.2.2.2.nm F 0 o j acc (by omega) hj (show 8 * (c - j) + 0 < F by omega) (fun q => by omega)
  cases Option.some.inj (hz0.symm.trans hr1)
  have c5 : c ≤ 501 := s.2.1.1.2.1.2
  have bad : ∀ g k jf p m R, bdF U T h g tx n c k jf → r = .inl (k, jf) → pcW g p m R → GW z w 3 (gQ z w (5 * K) (61 * K) (fun r' h'' => rsC U T h tx n c j r r' h'')) (5 * (K - 1)) (61 * (K - 1)) 11 [(0, .ref U), (1, .int (nI o)), (2, .ref p)] [] g := by
    intro g k jf p m R b er pw
    have hq := s.1.q b.1
    refine g_aload_n C (gd DX3_readNot_0 7 rfl) 0 rfl rfl ?_
    refine g_aload_n C (gd DX3_readNot_0 8 rfl) 2 rfl rfl ?_
    refine g_callV (ci := 3) C [_] mX3_opposite lm_TestJudge_Reader_170 (by exact hq.1.1) rfl rfl (e_r_opposite hq pw.2.2.1.1.1 pw.2.1) hfl (by first | decide | omega) (by decide) (by omega) (by omega) rfl rfl (Nat.le_of_ble_eq_true rfl) (gd DX3_readNot_0 9 rfl) (fun r h2 hp => ?_)
    obtain ⟨p2, rfl, y2, y3, y4, y5⟩ := hp
    show GW z w 3 _ _ _ _ _ [.ref p2] _
    rw [er]
    exact g_aret C (by omega) (by omega) ⟨b.ext s.1 y3, p2, 0, _, rfl, y5, Nat.zero_le _⟩ (gd DX3_readNot_0 10 rfl)
  refine g_aload_n C (gd DX3_readNot_0 0 rfl) 0 rfl rfl ?_
  refine g_iload_n C (gd DX3_readNot_0 1 rfl) 1 rfl rfl ?_
  refine g_callV (ci := 3) C [_] mX3_readBase lm_TestJudge_Reader_118 (by exact s.1.1.1) rfl rfl (hB h o j acc r0 (K - 1) s ho hj hF hz0 (by omega)) hfl (by first | decide | omega) (by decide) (by omega) (by omega) rfl rfl (Nat.le_of_ble_eq_true rfl) (gd DX3_readNot_0 2 rfl) (fun r h2 hp => ?_)
  rcases r0 with x | ⟨j1, a⟩
  · obtain ⟨b, p, m, R, rfl, pw, pm⟩ := hp
    have er : r = .inl x := (Option.some.inj (show some (Sum.inl x) = some r from hz)).symm
    have hq := s.1.q b.1
    show GW z w 3 _ _ _ _ _ [.ref p] _
    refine g_astore_n (lv' := [(0, _), (1, _), (2, _)]) C (gd DX3_readNot_0 3 rfl) [1, 2, 0] rfl (by decide) rfl ?_
    refine g_aload_n C (gd DX3_readNot_0 4 rfl) 0 rfl rfl ?_
    refine g_aload_n C (gd DX3_readNot_0 5 rfl) 2 rfl rfl ?_
    refine g_cV0 (v := .null) (ci := 3) C [_] mX3_needPlain lm_TestJudge_Reader_167 (by exact hq.1.1) rfl rfl (e_r_needPlain1 hq b.2.2.2.2 pw.2.2.1.1.1) hfl (by first | decide | omega) (by decide) (by omega) (by omega) rfl rfl (Nat.le_of_ble_eq_true rfl) (gd DX3_readNot_0 6 rfl) ?_
    exact GW.up (by omega) (by omega) (bad _ x.1 x.2 p m R b er pw)
  · obtain ⟨b, ct, f0, p, rfl, pw⟩ := hp
    dsimp only at ct pw
    obtain ⟨k1, k2, k3, k4, k5⟩ := ok
    rw [if_neg (by omega)] at k5
    dsimp only at k1 k2 k5
    change (if a.1 = 0 then some (.inr (j1, (0, rPlain (allF (nI nt) &&& (a.2 1 ^^^ -1))))) else some (.inl (5, j1))) = some r at hz
    have hq := s.1.q b
    have s1 := s.q b ct f0
    show GW z w 3 _ _ _ _ _ [.ref p] _
    refine g_astore_n (lv' := [(0, _), (1, _), (2, _)]) C (gd DX3_readNot_0 3 rfl) [1, 2, 0] rfl (by decide) rfl ?_
    refine g_aload_n C (gd DX3_readNot_0 4 rfl) 0 rfl rfl ?_
    refine g_aload_n C (gd DX3_readNot_0 5 rfl) 2 rfl rfl ?_
    refine g_cV0 (v := .null) (ci := 3) C [_] mX3_needPlain lm_TestJudge_Reader_167 (by exact hq.1.1) rfl rfl (e_r_needPlain hq ct f0 pw.2.2.1.1.1 pw.1.1 (by omega)) hfl (by first | decide | omega) (by decide) (by omega) (by omega) rfl rfl (Nat.le_of_ble_eq_true rfl) (gd DX3_readNot_0 6 rfl) ?_
    by_cases e : a.1 = 0
    · rw [if_pos e] at hz ⊢
      cases Option.some.inj hz
      refine g_aload_n C (gd DX3_readNot_0 7 rfl) 0 rfl rfl ?_
      refine g_aload_n C (gd DX3_readNot_0 8 rfl) 2 rfl rfl ?_
      refine g_callV (ci := 3) C [_] mX3_opposite lm_TestJudge_Reader_170 (by exact hq.1.1) rfl rfl (e_r_opposite hq pw.2.2.1.1.1 pw.2.1) hfl (by first | decide | omega) (by decide) (by omega) (by omega) rfl rfl (Nat.le_of_ble_eq_true rfl) (gd DX3_readNot_0 9 rfl) (fun r h2 hp => ?_)
      obtain ⟨p2, rfl, y2, y3, y4, y5⟩ := hp
      show GW z w 3 _ _ _ _ _ [.ref p2] _
      have s2 := s1.e y3
      rw [s1.2.2.2.2.1.1, pw.1.2 (by omega)] at y5
      exact g_aret C (by omega) (by omega) ⟨b.tr y3.q, s2.2.1, s2.2.2.1, p2, rfl, y5⟩ (gd DX3_readNot_0 10 rfl)
    · rw [if_neg e] at hz ⊢
      have er : r = .inl (5, j1) := (Option.some.inj hz).symm
      have bd := bdF.mk hq ct (k := 5) ⟨by omega, by omega⟩
      exact GW.up (by omega) (by omega) (bad _ 5 j1 p _ _ (bdF.pre b bd) er (pw.q hq.1.1 hq.2.2.1.1 bd.1))
end R5
