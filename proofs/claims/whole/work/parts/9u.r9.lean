/-! the class's Reader: readSum, and all of a sum -/
theorem en_then2 {E : pE} {c F md o i : Nat} {acc : pR} {r : pRz} {k : Nat → pR → Option pRz} (hp : ∃ r, pz E F md o i acc = some r ∧ pOk E c md i acc r) (hz : pThen (pz E F md o i acc) k = some r) (hk : ∀ j1 a, pOk E c md i acc (.inr (j1, a)) → k j1 a = some r → j1 ≤ pEn r) : i ≤ pEn r := by
  obtain ⟨r1, h1, h2⟩ := hp
  rw [h1] at hz
  rcases r1 with x | ⟨j1, a⟩
  · cases Option.some.inj (show some (Sum.inl x) = some r from hz); exact h2.1
  · exact Nat.le_trans h2.1 (hk j1 a h2 hz)
/-- what a sum gives is a new piece -/
def frS (h : HS) (r : pRz) (r' : Option Value) : Prop := ∀ x, r = .inr x → ∃ p, r' = some (.ref p) ∧ hT h ≤ p
def cCT (w : gD) (U W T N : Nat) (tx : Nat → Nat) (n c nt na np : Nat) (Wd : Nat → Nat) (PR : Nat → pR) (F : Nat) : Prop := ∀ h o j acc r K, cSt U W T N h tx n c j nt na np Wd PR → o ≤ 4 → j < c → 8 * (c - j) + 3 < F → pz (envT tx n nt na np Wd PR) F 4 o j acc = some r → jS o j r ≤ K → Ev w (5 + 3 * (4 - o)) (5 * K) (61 * K) yX3_readSum cX3_readSum 7 (some (.object RX2)) [.ref U, .int (nI o)] h (fun r' h' => rsC U T h tx n c j r r' h' ∧ frS h r r')
theorem cCT.s {w : gD} {U W T N : Nat} {tx : Nat → Nat} {n c nt na np : Nat} {Wd : Nat → Nat} {PR : Nat → pR} {F : Nat} (t : cCT w U W T N tx n c nt na np Wd PR F) : cCS w U W T N tx n c nt na np Wd PR F := fun h o j acc r K a b d e f g => Ev.to (t h o j acc r K a b d e f g) (fun _ _ q => q.1)
section R9
variable {w : gD} {U W T N : Nat} {tx : Nat → Nat} {n c nt na np : Nat} {Wd : Nat → Nat} {PR : Nat → pR}
theorem rc_sum {F : Nat} (hB : ∀ F', F' < F → cCB w U W T N tx n c nt na np Wd PR F') : cCT w U W T N tx n c nt na np Wd PR F := by
  intro h o j acc r K s ho hj hF hz hK
  refine g_start (by decide) (Nat.le_of_ble_eq_true rfl) [(0, _), (1, _)] rfl (fun z hfl C => ?_)
  have hc := s.2.1.hc
  have c5 : c ≤ 501 := s.2.1.1.2.1.2
  have hnm := s.2.2.2.nm
  have Ke : 4 * (pEn r - j) + 3 ≤ K := by
    rcases r with x | x
    · have h1 : 4 * (x.2 - j) + 7 + 12 * (4 - o) ≤ K := hK
      show 4 * (x.2 - j) + 3 ≤ K
      omega
    · exact hK
  have bad144 : ∀ g x k jf p1 m1 R1 p2 m2 R2 v2 v5, bdF U T h g tx n c k jf → jf < c → r = .inl (k, jf) → pcW g p1 m1 R1 → pcW g p2 m2 R2 → m1 + m2 ≤ 5 * (jf - j) → x + 1 ≤ K → GW z w 7 (gQ z w (5 * K) (61 * K) (fun r' h'' => rsC U T h tx n c j r r' h'' ∧ frS h r r')) (5 * x) (61 * x) 144 [(0, .ref U), (1, .int (nI o)), (2, .int v2), (3, .ref p1), (4, .ref p2), (5, .int v5)] [] g := by
    intro g x k jf p1 m1 R1 p2 m2 R2 v2 v5 b lf er w1 w2 hm hx
    refine g_aload_n C (gd DX3_readSum_1 8 rfl) 3 rfl rfl ?_
    refine g_aload C (gd DX3_readSum_1 9 rfl) 4 rfl ?_
    refine g_callS C [_, _] mX2_sum lm_TestJudge_Reader_133 (e_pc_sum w1 w2 (by omega)) hfl (by first | decide | omega) (by decide) (by omega) (by omega) rfl rfl (Nat.le_of_ble_eq_true rfl) (gd DX3_readSum_1 10 rfl) (fun r h2 hp => ?_)
    obtain ⟨p4, rfl, -, x4, -, w4⟩ := hp
    show GW z w 7 _ _ _ _ _ [.ref p4] _
    rw [er]
    exact g_aret C (by omega) (by omega) ⟨⟨b.ext s.1 x4, p4, _, _, rfl, w4, by show m1 + m2 ≤ 5 * (jf - j); omega⟩, fun _ e => by cases e⟩ (gd DX3_readSum_1 11 rfl)
  have bad138 : ∀ g x k jf p1 m1 R1 p2 m2 R2 p6 v2 v5, bdF U T h g tx n c k jf → jf < c → r = .inl (k, jf) → pcW g p1 m1 R1 → pcW g p2 m2 R2 → m1 + m2 ≤ 5 * (jf - j) → x + 1 ≤ K → GW z w 7 (gQ z w (5 * K) (61 * K) (fun r' h'' => rsC U T h tx n c j r r' h'' ∧ frS h r r')) (5 * x) (61 * x) 138 [(0, .ref U), (1, .int (nI o)), (2, .int v2), (3, .ref p1), (4, .ref p2), (5, .int v5), (6, .ref p6)] [] g := by
    intro g x k jf p1 m1 R1 p2 m2 R2 p6 v2 v5 b lf er w1 w2 hm hx
    have hq := s.1.q b.1
    refine g_iinc (lv' := [(0, _), (1, _), (2, _), (3, _), (4, _), (5, _), (6, _)]) C (gd DX3_readSum_1 6 rfl) 5 [1, 2, 3, 4, 5, 0, 6] rfl rfl (by decide) rfl ?_
    refine g_goto (tgt := 32) C (gd DX3_readSum_1 7 rfl) (by decide) ?_
    refine GW.sub [0, 1, 2, 3, 4, 5] rfl (Nat.le_refl _) (Nat.le_refl _) (lv' := [(0, _), (1, _), (2, _), (3, _), (4, _), (5, _)]) ?_
    refine g_iload C (gd DX3_readSum_0 18 rfl) 5 rfl ?_
    refine g_aload_n C (gd DX3_readSum_0 19 rfl) 0 rfl rfl ?_
    refine g_getr (ci := 3) (k := 3) C rfl (by decide) rfl lf_TestJudge_Reader_33 hq.1.1 hq.1.2.2.1 (gd DX3_readSum_0 20 rfl) ?_
    refine g_geti (ci := 7) (k := 0) C rfl (by decide) rfl lf_TestJudge_Reader_37 hq.2.2.1.1 (gd DX3_readSum_0 21 rfl) ?_
    refine g_icmp_gt C 144 (gd DX3_readSum_0 22 rfl) (by decide) (fun c41 => ?_) (fun c41 => ?_)
    · exact bad144 g x k jf p1 m1 R1 p2 m2 R2 _ _ b lf er w1 w2 hm hx
    · refine g_aload_n C (gd DX3_readSum_0 23 rfl) 0 rfl rfl ?_
      refine g_geti (ci := 3) (k := 1) C rfl (by decide) rfl lf_TestJudge_Reader_18 hq.1.1 (gd DX3_readSum_0 24 rfl) ?_
      refine g_if_ne C 144 (gd DX3_readSum_0 25 rfl) (by decide) (fun c48 => ?_) (fun c48 => ?_)
      · exact bad144 g x k jf p1 m1 R1 p2 m2 R2 _ _ b lf er w1 w2 hm hx
      · exact absurd (by first | exact c48 | exact Decidable.of_not_not c48) b.2.2.2.2
  have loop : ∀ y i j1 g Tn TR (fT : pR → pR) Xn XR (fX : pR → pR) F2 F3 F5 x p1 p2 acc', c - j1 ≤ y → cSt U W T N g tx n c j1 nt na np Wd PR → qF U T h g → j1 < c → i + j ≤ j1 → pcW g p1 Tn TR → pcW g p2 Xn XR → Tn + Xn ≤ 5 * (j1 - j) → (∀ a, okT (allF (nI nt)) a → rQ (Xn + a.1) (rJoin XR a.2 Xn a.1) (fX a).2 ∧ (fX a).1 = Xn + a.1 ∧ okT (allF (nI nt)) (fX a)) → (∀ a, okT (allF (nI nt)) a → rQ (Tn + a.1) (rSum TR a.2 Tn a.1) (fT a).2 ∧ (fT a).1 = Tn + a.1 ∧ okT (allF (nI nt)) (fT a)) → pThen (pz (envT tx n nt na np Wd PR) F2 2 o j1 acc') (fun j2 a => pThen (pz (envT tx n nt na np Wd PR) F3 3 o j2 (fX a)) (fun j3 x => pz (envT tx n nt na np Wd PR) F5 5 o j3 (fT x))) = some r → 8 * (c - j1) + 1 < F2 → F2 ≤ F → 8 * (c - j1) < F3 + 6 → F3 ≤ F → 8 * (c - j1) < F5 + 5 → F5 ≤ F → x ≤ 2 + 4 * (j1 - j) → GW z w 7 (gQ z w (5 * K) (61 * K) (fun r' h'' => rsC U T h tx n c j r r' h'' ∧ frS h r r')) (5 * x) (61 * x) 32 [(0, .ref U), (1, .int (nI o)), (2, .int (allF (nI nt))), (3, .ref p1), (4, .ref p2), (5, .int (nI i))] [] g := by
    intro y
    induction y with
    | zero => intro i j1 g _ _ _ _ _ _ _ _ _ _ _ _ _ hy _ _ hj1; omega
    | succ y ih =>
      intro i j1 g Tn TR fT Xn XR fX F2 F3 F5 x p1 p2 acc' hy sg qg hj1 hi w1 w2 hw hX hT hz f2 f2F f3 f3F f5 f5F hx
      have hqg := sg.1
      obtain ⟨f, rfl⟩ : ∃ f, F2 = f + 1 := ⟨F2 - 1, by omega⟩
      rw [pz_2, pThen_as] at hz
      obtain ⟨r0, hr0, ok0⟩ := pz_tot (E := envT tx n nt na np Wd PR) hc hnm f 0 o j1 acc' (by omega) hj1 (show 8 * (c - j1) + 0 < f by omega) (fun q => by omega)
      rw [hr0] at hz
      have start : GW z w 7 (gQ z w (5 * K) (61 * K) (fun r' h'' => rsC U T h tx n c j r r' h'' ∧ frS h r r')) (5 * x) (61 * x) 51 [(0, .ref U), (1, .int (nI o)), (2, .int (allF (nI nt))), (3, .ref p1), (4, .ref p2), (5, .int (nI i))] [] g → GW z w 7 (gQ z w (5 * K) (61 * K) (fun r' h'' => rsC U T h tx n c j r r' h'' ∧ frS h r r')) (5 * x) (61 * x) 32 [(0, .ref U), (1, .int (nI o)), (2, .int (allF (nI nt))), (3, .ref p1), (4, .ref p2), (5, .int (nI i))] [] g := by
        intro k
        refine g_iload C (gd DX3_readSum_0 18 rfl) 5 rfl ?_
        refine g_aload_n C (gd DX3_readSum_0 19 rfl) 0 rfl rfl ?_
        refine g_getr (ci := 3) (k := 3) C rfl (by decide) rfl lf_TestJudge_Reader_33 hqg.1.1 hqg.1.2.2.1 (gd DX3_readSum_0 20 rfl) ?_
        refine g_geti (ci := 7) (k := 0) C rfl (by decide) rfl lf_TestJudge_Reader_37 hqg.2.2.1.1 (gd DX3_readSum_0 21 rfl) ?_
        rw [sg.2.1.1.1]
        refine g_icmp_gt C 144 (gd DX3_readSum_0 22 rfl) (by decide) (fun c41 => ?_) (fun c41 => ?_)
        · exact absurd (by first | exact c41 | exact Int32.not_le.mp c41) (fun q => absurd q (Int32.not_lt.mpr ((nI_leI (a := i) (b := c) (by omega) (by omega)).mpr (by omega))))
        · refine g_aload_n C (gd DX3_readSum_0 23 rfl) 0 rfl rfl ?_
          refine g_geti (ci := 3) (k := 1) C rfl (by decide) rfl lf_TestJudge_Reader_18 hqg.1.1 (gd DX3_readSum_0 24 rfl) ?_
          rw [sg.2.2.1]
          refine g_if_ne C 144 (gd DX3_readSum_0 25 rfl) (by decide) (fun c48 => ?_) (fun c48 => ?_)
          · exact absurd rfl c48
          · exact k
      refine start ?_
      rcases r0 with x0 | ⟨j2, a⟩
      · have er : r = .inl x0 := (Option.some.inj (show some (Sum.inl x0) = some r from hz)).symm
        have h1 : 4 * (x0.2 - j) + 7 + 12 * (4 - o) ≤ K := by rw [er] at hK; exact hK
        have lo := ok0.1
        have lf := ok0.2.1
        refine g_aload_n C (gd DX3_readSum_0 26 rfl) 0 rfl rfl ?_
        refine g_iload_n C (gd DX3_readSum_0 27 rfl) 1 rfl rfl ?_
        refine g_callV (ci := 3) C [_] mX3_readBase lm_TestJudge_Reader_118 (by exact hqg.1.1) rfl rfl (hB f (by omega) g o j1 acc' (.inl x0) (4 * (x0.2 - j1) + 1 + 12 * (4 - o)) sg ho hj1 (by omega) hr0 (Nat.le_refl _)) hfl (by first | decide | omega) (by decide) (by omega) (by omega) rfl rfl (Nat.le_of_ble_eq_true rfl) (gd DX3_readSum_0 28 rfl) (fun r g2 hp => ?_)
        obtain ⟨b, p, m, R, rfl, pw, pm⟩ := hp
        have hq := sg.1.q b.1
        have bh := bdF.pre qg b
        have w12 := w1.q hqg.1.1 hqg.2.2.1.1 b.1
        have w22 := w2.q hqg.1.1 hqg.2.2.1.1 b.1
        show GW z w 7 _ _ _ _ _ [.ref p] _
        refine g_astore (lv' := [(0, _), (1, _), (2, _), (3, _), (4, _), (5, _), (6, _)]) C (gd DX3_readSum_0 29 rfl) [1, 2, 3, 4, 5, 6, 0] (by decide) rfl ?_
        refine g_aload C (gd DX3_readSum_0 30 rfl) 4 rfl ?_
        refine g_aload_n C (gd DX3_readSum_0 31 rfl) 0 rfl rfl ?_
        refine g_cV1 (ci := 3) C [] mX3_skipStars lm_TestJudge_Reader_121 (by exact hq.1.1) rfl rfl (e_r_skipStars1 hq b.2.2.2.2) hfl (by first | decide | omega) (by decide) (by omega) (by omega) rfl rfl (Nat.le_of_ble_eq_true rfl) (gd DX3_readSum_0 32 rfl) ?_
        refine g_if_eq C 76 (gd DX3_readSum_0 33 rfl) (by decide) (fun c64 => ?_) (fun c64 => ?_)
        rotate_left
        · exact absurd rfl c64
        refine g_aload C (gd DX3_readSum_0 38 rfl) 6 rfl ?_
        refine g_callS C [_, _] mX2_row lm_TestJudge_Reader_129 (e_pc_row w22 pw (by omega)) hfl (by first | decide | omega) (by decide) (by omega) (by omega) rfl rfl (Nat.le_of_ble_eq_true rfl) (gd DX3_readSum_0 39 rfl) (fun r g3 hp => ?_)
        obtain ⟨p4, rfl, -, x4, -, w4⟩ := hp
        show GW z w 7 _ _ _ _ _ [.ref p4] _
        have b3 := bh.ext s.1 x4
        have hq3 := s.1.q b3.1
        have w13 := w12.ext x4
        have lt := cd_lt (tx := tx) (n := n) x0.2
        refine g_astore (lv' := [(0, _), (1, _), (2, _), (3, _), (4, _), (5, _), (6, _)]) C (gd DX3_readSum_0 40 rfl) [1, 2, 3, 4, 0, 5, 6] (by decide) rfl ?_
        refine g_aload_n C (gd DX3_readSum_0 41 rfl) 0 rfl rfl ?_
        refine g_getr (ci := 3) (k := 3) C rfl (by decide) rfl lf_TestJudge_Reader_33 hq3.1.1 hq3.1.2.2.1 (gd DX3_readSum_0 42 rfl) ?_
        refine g_geti (ci := 7) (k := 1) C rfl (by decide) rfl lf_TestJudge_Reader_42 hq3.2.2.1.1 (gd DX3_readSum_0 43 rfl) ?_
        rw [b3.2.1.2.2.1]
        refine g_bipush (v := 43) C (gd DX3_readSum_0 44 rfl) (by decide) ?_
        refine g_icmp_ne C 122 (gd DX3_readSum_0 45 rfl) (by decide) (fun c92 => ?_) (fun c92 => ?_)
        · refine g_aload_n C (gd DX3_readSum_1 0 rfl) 0 rfl rfl ?_
          refine g_getr (ci := 3) (k := 3) C rfl (by decide) rfl lf_TestJudge_Reader_33 hq3.1.1 hq3.1.2.2.1 (gd DX3_readSum_1 1 rfl) ?_
          refine g_geti (ci := 7) (k := 1) C rfl (by decide) rfl lf_TestJudge_Reader_42 hq3.2.2.1.1 (gd DX3_readSum_1 2 rfl) ?_
          rw [b3.2.1.2.2.1]
          refine g_cS1 C [_] mX3_beginsBase lm_TestJudge_Reader_136 (e_r_beginsBase lt) hfl (by first | decide | omega) (by decide) (by omega) (by omega) rfl rfl (Nat.le_of_ble_eq_true rfl) (gd DX3_readSum_1 3 rfl) ?_
          refine g_if_ne C 138 (gd DX3_readSum_1 4 rfl) (by decide) (fun c132 => ?_) (fun c132 => ?_)
          · exact GW.up (by omega) (by omega) (bad138 _ (x + (4 * (x0.2 - j1) + 1 + 12 * (4 - o)) + 1) x0.1 x0.2 p1 _ _ p4 _ _ p _ _ b3 ok0.2.1 er w13 w4 (by omega) (by omega))
          · refine g_goto (tgt := 144) C (gd DX3_readSum_1 5 rfl) (by decide) ?_
            refine GW.sub [0, 1, 2, 3, 4, 5] rfl (Nat.le_refl _) (Nat.le_refl _) (lv' := [(0, _), (1, _), (2, _), (3, _), (4, _), (5, _)]) ?_
            exact GW.up (by omega) (by omega) (bad144 _ (x + (4 * (x0.2 - j1) + 1 + 12 * (4 - o)) + 1) x0.1 x0.2 p1 _ _ p4 _ _ _ _ b3 ok0.2.1 er w13 w4 (by omega) (by omega))
        · refine g_aload_n C (gd DX3_readSum_0 46 rfl) 3 rfl rfl ?_
          refine g_aload C (gd DX3_readSum_0 47 rfl) 4 rfl ?_
          refine g_callS C [_, _] mX2_sum lm_TestJudge_Reader_133 (e_pc_sum w13 w4 (by omega)) hfl (by first | decide | omega) (by decide) (by omega) (by omega) rfl rfl (Nat.le_of_ble_eq_true rfl) (gd DX3_readSum_0 48 rfl) (fun r g4 hp => ?_)
          obtain ⟨p5, rfl, -, x5, -, w5⟩ := hp
          show GW z w 7 _ _ _ _ _ [.ref p5] _
          have b4 := b3.ext s.1 x5
          refine g_astore_n (lv' := [(0, _), (1, _), (2, _), (3, _), (4, _), (5, _), (6, _)]) C (gd DX3_readSum_0 49 rfl) [1, 2, 3, 0, 4, 5, 6] rfl (by decide) rfl ?_
          refine g_new (ci := 2) C rfl lc_TestJudge_Reader_94 lI_TestJudge_Piece li_TestJudge_Piece (by omega) (by omega) (gd DX3_readSum_0 50 rfl) (gdv2) ?_
          refine g_dup C (gd DX3_readSum_0 51 rfl) rfl ?_
          refine g_iconst (v := 0) C (gd DX3_readSum_0 52 rfl) (by decide) ?_
          refine g_iload_n C (gd DX3_readSum_0 53 rfl) 2 rfl rfl ?_
          refine g_cI C [_, _] mX2_init lm_TestJudge_Reader_116 (e_pc_init 0 (by omega) _) hfl (by first | decide | omega) (by decide) (by omega) (by omega) rfl rfl (Nat.le_of_ble_eq_true rfl) (gd DX3_readSum_0 54 rfl) ?_
          obtain ⟨p6, e6, -, x6, -, w6⟩ := pcF_mk (np := w.2.2.2) (h := g4) (allF (nI nt))
          cases Option.some.inj e6
          generalize pcF w.2.2.2 g4 0 (allF (nI nt)) = g5 at x6 w6 ⊢
          have b5 := b4.ext s.1 x6
          have hq5 := s.1.q b5.1
          refine g_astore (lv' := [(0, _), (1, _), (2, _), (3, _), (4, _), (5, _), (6, _)]) C (gd DX3_readSum_0 55 rfl) [1, 2, 3, 4, 0, 5, 6] (by decide) rfl ?_
          refine g_aload_n C (gd DX3_readSum_0 56 rfl) 0 rfl rfl ?_
          refine g_bipush (v := 43) C (gd DX3_readSum_0 57 rfl) (by decide) ?_
          refine g_cV0 (v := .null) (ci := 3) C [_] mX3_expect lm_TestJudge_Reader_86 (by exact hq5.1.1) rfl rfl (e_r_expect1 hq5 b5.2.2.2.2 _) hfl (by first | decide | omega) (by decide) (by omega) (by omega) rfl rfl (Nat.le_of_ble_eq_true rfl) (gd DX3_readSum_0 58 rfl) ?_
          refine g_goto (tgt := 138) C (gd DX3_readSum_0 59 rfl) (by decide) ?_
          exact GW.up (by omega) (by omega) (bad138 _ (x + (4 * (x0.2 - j1) + 1 + 12 * (4 - o)) + 3) x0.1 x0.2 p5 _ _ _ _ _ p _ _ b5 ok0.2.1 er (w5.ext x6) w6 (by omega) (by omega))
      obtain ⟨k1, k2, k3, k4, k5⟩ := ok0
      rw [if_neg (by omega)] at k5
      have k3' := k3 (by omega)
      dsimp only at k1 k2 k3' k4 k5
      change pThen (pz (envT tx n nt na np Wd PR) f 1 o j2 a) _ = some r at hz
      obtain ⟨rs, hrs, oks⟩ := pz_tot (E := envT tx n nt na np Wd PR) hc hnm f 1 o j2 a (by omega) k2 (show 8 * (c - j2) + 1 < f by omega) (fun _ => k4)
      obtain ⟨j3, a2, rfl, l1, l2, l3, l4, l5⟩ := pz_stars _ _ _ _ _ hrs
      rw [hrs] at hz
      obtain ⟨-, l6, -, l7, -⟩ := oks
      dsimp only at l6 l7
      change pThen (pz (envT tx n nt na np Wd PR) F3 3 o j3 (fX a2)) _ = some r at hz
      obtain ⟨hx1, hx2, hx3⟩ := hX a2 l7
      obtain ⟨ht1, ht2, ht3⟩ := hT (fX a2) hx3
      have en5 : ∀ G5 j4 T4, j4 < c → 8 * (c - j4) + 3 < G5 → okT (allF (nI nt)) T4 → pz (envT tx n nt na np Wd PR) G5 5 o j4 T4 = some r → j4 ≤ pEn r := by
        intro G5 j4 T4 q1 q2 q3 q4
        obtain ⟨r5, h5, ok5⟩ := pz_tot (E := envT tx n nt na np Wd PR) hc hnm G5 5 o j4 T4 (by omega) q1 q2 (fun _ => q3)
        cases Option.some.inj (h5.symm.trans q4)
        exact pOk_en ok5
      have en : j3 ≤ pEn r := by
        refine en_then2 (pz_tot (E := envT tx n nt na np Wd PR) hc hnm F3 3 o j3 (fX a2) (by omega) l6 (show 8 * (c - j3) + 2 < F3 by omega) (fun _ => hx3)) hz (fun j4 x4 m hz4 => ?_)
        have m1 : j3 ≤ j4 := m.1
        have m2 : j4 < c := m.2.1
        exact en5 F5 j4 (fT x4) m2 (by omega) (hT x4 m.2.2.2.1).2.2 hz4
      have lt := cd_lt (tx := tx) (n := n) j3
      have row78 : ∀ g4 q4 xx, cSt U W T N g4 tx n c j3 nt na np Wd PR → qF U T h g4 → pcW g4 p1 Tn TR → pcW g4 p2 Xn XR → pcW g4 q4 a2.1 a2.2 → xx + 1 ≤ 2 + 4 * (j3 - j) → ∀ p6, GW z w 7 (gQ z w (5 * K) (61 * K) (fun r' h'' => rsC U T h tx n c j r r' h'' ∧ frS h r r')) (5 * xx) (61 * xx) 78 [(0, .ref U), (1, .int (nI o)), (2, .int (allF (nI nt))), (3, .ref p1), (4, .ref p2), (5, .int (nI i)), (6, .ref p6)] [.ref q4, .ref p2] g4 := by
        intro g4 q4 xx s4 q04 v1 v2 v4 hxx p6
        refine g_callS C [_, _] mX2_row lm_TestJudge_Reader_129 (e_pc_row v2 v4 (by omega)) hfl (by first | decide | omega) (by decide) (by omega) (by omega) rfl rfl (Nat.le_of_ble_eq_true rfl) (gd DX3_readSum_0 39 rfl) (fun r g5 hp => ?_)
        obtain ⟨p4, rfl, -, x4, -, w4⟩ := hp
        show GW z w 7 _ _ _ _ _ [.ref p4] _
        have w4' := w4.cg hx1
        rw [← hx2] at w4'
        have s5 := s4.e x4
        have q05 := q04.tr (x4.q (U := U))
        have v15 := v1.ext x4
        refine g_astore (lv' := [(0, _), (1, _), (2, _), (3, _), (4, _), (5, _), (6, _)]) C (gd DX3_readSum_0 40 rfl) [1, 2, 3, 4, 0, 5, 6] (by decide) rfl ?_
        refine g_aload_n C (gd DX3_readSum_0 41 rfl) 0 rfl rfl ?_
        refine g_getr (ci := 3) (k := 3) C rfl (by decide) rfl lf_TestJudge_Reader_33 s5.1.1.1 s5.1.1.2.2.1 (gd DX3_readSum_0 42 rfl) ?_
        refine g_geti (ci := 7) (k := 1) C rfl (by decide) rfl lf_TestJudge_Reader_42 s5.1.2.2.1.1 (gd DX3_readSum_0 43 rfl) ?_
        rw [s5.2.1.2.2.1]
        refine g_bipush (v := 43) C (gd DX3_readSum_0 44 rfl) (by decide) ?_
        refine g_icmp_ne C 122 (gd DX3_readSum_0 45 rfl) (by decide) (fun c92 => ?_) (fun c92 => ?_)
        · have e43 : ¬ cdT tx n j3 = 43 := fun q => c92 (by rw [q]; rfl)
          refine g_aload_n C (gd DX3_readSum_1 0 rfl) 0 rfl rfl ?_
          refine g_getr (ci := 3) (k := 3) C rfl (by decide) rfl lf_TestJudge_Reader_33 s5.1.1.1 s5.1.1.2.2.1 (gd DX3_readSum_1 1 rfl) ?_
          refine g_geti (ci := 7) (k := 1) C rfl (by decide) rfl lf_TestJudge_Reader_42 s5.1.2.2.1.1 (gd DX3_readSum_1 2 rfl) ?_
          rw [s5.2.1.2.2.1]
          refine g_cS1 C [_] mX3_beginsBase lm_TestJudge_Reader_136 (e_r_beginsBase lt) hfl (by first | decide | omega) (by decide) (by omega) (by omega) rfl rfl (Nat.le_of_ble_eq_true rfl) (gd DX3_readSum_1 3 rfl) ?_
          by_cases hb : pBeg (cdT tx n j3)
          · rw [b1_t hb]
            obtain ⟨f3', rfl⟩ : ∃ f, F3 = f + 1 := ⟨F3 - 1, by omega⟩
            rw [pz_3b (E := envT tx n nt na np Wd PR) hb, pThen_as] at hz
            refine g_if_ne C 138 (gd DX3_readSum_1 4 rfl) (by decide) (fun c132 => ?_) (fun c132 => ?_)
            · refine g_iinc (lv' := [(0, _), (1, _), (2, _), (3, _), (4, _), (5, _), (6, _)]) C (gd DX3_readSum_1 6 rfl) 5 [1, 2, 3, 4, 5, 0, 6] rfl rfl (by decide) rfl ?_
              refine g_goto (tgt := 32) C (gd DX3_readSum_1 7 rfl) (by decide) ?_
              refine GW.sub [0, 1, 2, 3, 4, 5] rfl (Nat.le_refl _) (Nat.le_refl _) (lv' := [(0, _), (1, _), (2, _), (3, _), (4, _), (5, _)]) ?_
              refine GW.cast (by rw [inc1]) rfl rfl (GW.up (by omega) (by omega) (ih (i + 1) j3 _ Tn TR fT (fX a2).1 (fX a2).2 (fun a => ((fX a2).1 + a.1, rJoin (fX a2).2 a.2 (fX a2).1 a.1)) f3' f3' F5 (xx + 1) p1 p4 _ (by omega) s5 q05 l6 (by omega) v15 w4' (by omega) (fun a q => ⟨rQ.rf _ _, rfl, hx3.join q⟩) hT hz (by omega) (by omega) (by omega) (by omega) (by omega) (by omega) (by omega)))
            · exact absurd (by first | exact c132 | exact Decidable.of_not_not c132) (by decide)
          · rw [b1_f hb]
            obtain ⟨f3', rfl⟩ : ∃ f, F3 = f + 1 := ⟨F3 - 1, by omega⟩
            obtain ⟨f5', rfl⟩ : ∃ f, F5 = f + 1 := ⟨F5 - 1, by omega⟩
            rw [pz_3n (E := envT tx n nt na np Wd PR) hb] at hz
            change pz (envT tx n nt na np Wd PR) (f5' + 1) 5 o j3 (fT (fX a2)) = some r at hz
            rw [pz_5n (E := envT tx n nt na np Wd PR) e43] at hz
            have er := (Option.some.inj hz).symm
            refine g_if_ne C 138 (gd DX3_readSum_1 4 rfl) (by decide) (fun c132 => ?_) (fun c132 => ?_)
            · exact absurd rfl c132
            · refine g_goto (tgt := 144) C (gd DX3_readSum_1 5 rfl) (by decide) ?_
              refine GW.sub [0, 1, 2, 3, 4, 5] rfl (Nat.le_refl _) (Nat.le_refl _) (lv' := [(0, _), (1, _), (2, _), (3, _), (4, _), (5, _)]) ?_
              refine g_aload_n C (gd DX3_readSum_1 8 rfl) 3 rfl rfl ?_
              refine g_aload C (gd DX3_readSum_1 9 rfl) 4 rfl ?_
              refine g_callS C [_, _] mX2_sum lm_TestJudge_Reader_133 (e_pc_sum v15 w4' (by omega)) hfl (by first | decide | omega) (by decide) (by omega) (by omega) rfl rfl (Nat.le_of_ble_eq_true rfl) (gd DX3_readSum_1 10 rfl) (fun r g6 hp => ?_)
              obtain ⟨p5, rfl, lp5, x5, -, w5⟩ := hp
              show GW z w 7 _ _ _ _ _ [.ref p5] _
              have w5' := w5.cg ht1
              rw [← ht2] at w5'
              have s6 := s5.e x5
              have q051 := q05.1
              rw [er]
              exact g_aret C (by omega) (by omega) ⟨⟨q05.tr x5.q, s6.2.1, s6.2.2.1, p5, rfl, w5'⟩, fun _ _ => ⟨p5, rfl, Nat.le_trans q051 lp5⟩⟩ (gd DX3_readSum_1 11 rfl)
        · have e43 : cdT tx n j3 = 43 := (nI_eq (b := 43) (by omega) (by omega)).mp (by first | exact c92 | exact Decidable.of_not_not c92)
          have hj3 := hc j3 l6 (by omega)
          obtain ⟨f3', rfl⟩ : ∃ f, F3 = f + 1 := ⟨F3 - 1, by omega⟩
          obtain ⟨f5', rfl⟩ : ∃ f, F5 = f + 1 + 1 := ⟨F5 - 2, by omega⟩
          rw [pz_3n (E := envT tx n nt na np Wd PR) (fun q => by have : cdT tx n j3 = 43 := e43; rcases q with q | q | q | q | q | q | q <;> (change cdT tx n j3 = _ at q; omega))] at hz
          change pz (envT tx n nt na np Wd PR) (f5' + 1 + 1) 5 o j3 (fT (fX a2)) = some r at hz
          rw [pz_5p (E := envT tx n nt na np Wd PR) e43, pz_6, pThen_as] at hz
          have en2 : j3 + 1 ≤ pEn r := by
            refine en_then2 (pz_tot (E := envT tx n nt na np Wd PR) hc hnm f5' 2 o (j3 + 1) (fT (fX a2)) (by omega) hj3 (show 8 * (c - (j3 + 1)) + 1 < f5' by omega) (fun q => by omega)) hz (fun j4 x4 m hz4 => ?_)
            have m1 : j3 + 1 ≤ j4 := m.1
            have m2 : j4 < c := m.2.1
            refine en_then2 (pz_tot (E := envT tx n nt na np Wd PR) hc hnm f5' 3 o j4 x4 (by omega) m2 (show 8 * (c - j4) + 2 < f5' by omega) (fun _ => m.2.2.2.1)) hz4 (fun j5 x5 m' hz5 => ?_)
            have m3 : j4 ≤ j5 := m'.1
            have m4 : j5 < c := m'.2.1
            exact en5 (f5' + 1) j5 _ m4 (by omega) (ht3.sum m'.2.2.2.1) hz5
          refine g_aload_n C (gd DX3_readSum_0 46 rfl) 3 rfl rfl ?_
          refine g_aload C (gd DX3_readSum_0 47 rfl) 4 rfl ?_
          refine g_callS C [_, _] mX2_sum lm_TestJudge_Reader_133 (e_pc_sum v15 w4' (by omega)) hfl (by first | decide | omega) (by decide) (by omega) (by omega) rfl rfl (Nat.le_of_ble_eq_true rfl) (gd DX3_readSum_0 48 rfl) (fun r g6 hp => ?_)
          obtain ⟨p5, rfl, -, x5, -, w5⟩ := hp
          show GW z w 7 _ _ _ _ _ [.ref p5] _
          have w5' := w5.cg ht1
          rw [← ht2] at w5'
          have s6 := s5.e x5
          refine g_astore_n (lv' := [(0, _), (1, _), (2, _), (3, _), (4, _), (5, _), (6, _)]) C (gd DX3_readSum_0 49 rfl) [1, 2, 3, 0, 4, 5, 6] rfl (by decide) rfl ?_
          refine g_new (ci := 2) C rfl lc_TestJudge_Reader_94 lI_TestJudge_Piece li_TestJudge_Piece (by omega) (by omega) (gd DX3_readSum_0 50 rfl) (gdv2) ?_
          refine g_dup C (gd DX3_readSum_0 51 rfl) rfl ?_
          refine g_iconst (v := 0) C (gd DX3_readSum_0 52 rfl) (by decide) ?_
          refine g_iload_n C (gd DX3_readSum_0 53 rfl) 2 rfl rfl ?_
          refine g_cI C [_, _] mX2_init lm_TestJudge_Reader_116 (e_pc_init 0 (by omega) _) hfl (by first | decide | omega) (by decide) (by omega) (by omega) rfl rfl (Nat.le_of_ble_eq_true rfl) (gd DX3_readSum_0 54 rfl) ?_
          obtain ⟨p7, e7, -, x7, -, w7⟩ := pcF_mk (np := w.2.2.2) (h := g6) (allF (nI nt))
          cases Option.some.inj e7
          generalize pcF w.2.2.2 g6 0 (allF (nI nt)) = g7 at x7 w7 ⊢
          have s7 := s6.e x7
          refine g_astore (lv' := [(0, _), (1, _), (2, _), (3, _), (4, _), (5, _), (6, _)]) C (gd DX3_readSum_0 55 rfl) [1, 2, 3, 4, 0, 5, 6] (by decide) rfl ?_
          refine g_aload_n C (gd DX3_readSum_0 56 rfl) 0 rfl rfl ?_
          refine g_bipush (v := 43) C (gd DX3_readSum_0 57 rfl) (by decide) ?_
          refine g_callV (ci := 3) C [_] mX3_expect lm_TestJudge_Reader_86 (by exact s7.1.1.1) rfl rfl (e_r_expect s7.1 s7.2.1 s7.2.2.1 (hc j3 l6) (k := 43) (by decide) (by decide)) hfl (by first | decide | omega) (by decide) (by omega) (by omega) rfl rfl (Nat.le_of_ble_eq_true rfl) (gd DX3_readSum_0 58 rfl) (fun r g8 hp => ?_)
          obtain ⟨rfl, hp⟩ := hp
          show GW z w 7 _ _ _ _ _ [] _
          rcases hp with ⟨-, a8, ct8⟩ | ⟨e8, -⟩
          rotate_left
          · exact absurd e43 e8
          have s8 := s7.t a8 ct8
          refine g_goto (tgt := 138) C (gd DX3_readSum_0 59 rfl) (by decide) ?_
          refine g_iinc (lv' := [(0, _), (1, _), (2, _), (3, _), (4, _), (5, _), (6, _)]) C (gd DX3_readSum_1 6 rfl) 5 [1, 2, 3, 4, 5, 0, 6] rfl rfl (by decide) rfl ?_
          refine g_goto (tgt := 32) C (gd DX3_readSum_1 7 rfl) (by decide) ?_
          refine GW.sub [0, 1, 2, 3, 4, 5] rfl (Nat.le_refl _) (Nat.le_refl _) (lv' := [(0, _), (1, _), (2, _), (3, _), (4, _), (5, _)]) ?_
          refine GW.cast (by rw [inc1]) rfl rfl (GW.up (by omega) (by omega) (ih (i + 1) (j3 + 1) _ (fT (fX a2)).1 (fT (fX a2)).2 (fun a => ((fT (fX a2)).1 + a.1, rSum (fT (fX a2)).2 a.2 (fT (fX a2)).1 a.1)) 0 (rPlain (allF (nI nt))) (fun a => a) f5' f5' (f5' + 1) (xx + 3) p5 _ _ (by omega) s8 (((q05.tr x5.q).tr x7.q).tr a8.q) hj3 (by omega) ((w5'.ext x7).q s7.1.1.1 s7.1.2.2.1.1 (a8.q (U := U))) (w7.q s7.1.1.1 s7.1.2.2.1.1 (a8.q (U := U))) (by omega) (fun a q => ⟨rq_row q, (Nat.zero_add _).symm, q⟩) (fun a q => ⟨rQ.rf _ _, rfl, ht3.sum q⟩) hz (by omega) (by omega) (by omega) (by omega) (by omega) (by omega) (by omega)))
      refine g_aload_n C (gd DX3_readSum_0 26 rfl) 0 rfl rfl ?_
      refine g_iload_n C (gd DX3_readSum_0 27 rfl) 1 rfl rfl ?_
      refine g_callV (ci := 3) C [_] mX3_readBase lm_TestJudge_Reader_118 (by exact hqg.1.1) rfl rfl (hB f (by omega) g o j1 acc' (.inr (j2, a)) (4 * (j2 - j1) - 1) sg ho hj1 (by omega) hr0 (Nat.le_refl _)) hfl (by first | decide | omega) (by decide) (by omega) (by omega) rfl rfl (Nat.le_of_ble_eq_true rfl) (gd DX3_readSum_0 28 rfl) (fun r g2 hp => ?_)
      obtain ⟨b, ct2, fl2, p, rfl, pw⟩ := hp
      dsimp only at ct2 pw
      have s2 := sg.q b ct2 fl2
      have q02 := qg.tr b
      have w12 := w1.q hqg.1.1 hqg.2.2.1.1 b
      have w22 := w2.q hqg.1.1 hqg.2.2.1.1 b
      show GW z w 7 _ _ _ _ _ [.ref p] _
      refine g_astore (lv' := [(0, _), (1, _), (2, _), (3, _), (4, _), (5, _), (6, _)]) C (gd DX3_readSum_0 29 rfl) [1, 2, 3, 4, 5, 6, 0] (by decide) rfl ?_
      refine g_aload C (gd DX3_readSum_0 30 rfl) 4 rfl ?_
      refine g_aload_n C (gd DX3_readSum_0 31 rfl) 0 rfl rfl ?_
      refine g_callV (ci := 3) C [] mX3_skipStars lm_TestJudge_Reader_121 (by exact s2.1.1.1) rfl rfl (e_r_skipStars s2.1 ct2 fl2 hc k2) hfl (by first | decide | omega) (by decide) (by omega) (by omega) rfl rfl (Nat.le_of_ble_eq_true rfl) (gd DX3_readSum_0 32 rfl) (fun r g3 hp => ?_)
      obtain ⟨j3', m1, m2, m3, m4, rfl, a3, ct3⟩ := hp
      have e3 : j3' = j3 := by
        apply Classical.byContradiction
        intro q
        by_cases q2 : j3' < j3
        · exact m4 (l4 j3' m1 q2)
        · exact l3 (m3 j3 l1 (by omega))
      subst e3
      have s3 := s2.t a3 ct3
      have q03 := q02.tr (a3.q (U := U))
      have w13 := w12.q s2.1.1.1 s2.1.2.2.1.1 (a3.q (U := U))
      have w23 := w22.q s2.1.1.1 s2.1.2.2.1.1 (a3.q (U := U))
      have pw3 := pw.q s2.1.1.1 s2.1.2.2.1.1 (a3.q (U := U))
      show GW z w 7 _ _ _ _ _ [.int (b1 (¬ j3' = j2)), .ref p2] _
      by_cases e : j3' = j2
      · rw [b1_f (fun q => q e)]
        rw [if_pos e] at l5
        refine g_if_eq C 76 (gd DX3_readSum_0 33 rfl) (by decide) (fun c64 => ?_) (fun c64 => ?_)
        · refine g_aload C (gd DX3_readSum_0 38 rfl) 6 rfl ?_
          exact GW.up (by omega) (by omega) (row78 g3 p (x + (4 * (j2 - j1) - 1)) s3 q03 w13 w23 (by rw [l2, l5]; exact pw3) (by omega) p)
        · exact absurd rfl c64
      · rw [b1_t e]
        rw [if_neg e] at l5
        refine g_if_eq C 76 (gd DX3_readSum_0 33 rfl) (by decide) (fun c64 => ?_) (fun c64 => ?_)
        · exact absurd (by first | exact c64 | exact Decidable.of_not_not c64) (by decide)
        · refine g_aload C (gd DX3_readSum_0 34 rfl) 6 rfl ?_
          refine g_iload_n C (gd DX3_readSum_0 35 rfl) 2 rfl rfl ?_
          refine g_callS C [_, _] mX2_star lm_TestJudge_Reader_125 (e_pc_star pw3 (allF (nI nt)) (by omega)) hfl (by first | decide | omega) (by decide) (by omega) (by omega) rfl rfl (Nat.le_of_ble_eq_true rfl) (gd DX3_readSum_0 36 rfl) (fun r g4 hp => ?_)
          obtain ⟨p4, rfl, -, x4, -, w4⟩ := hp
          show GW z w 7 _ _ _ _ _ [.ref p4, .ref p2] _
          refine g_goto (tgt := 78) C (gd DX3_readSum_0 37 rfl) (by decide) ?_
          exact GW.up (by omega) (by omega) (row78 g4 p4 (x + (4 * (j2 - j1) - 1) + 1) (s3.e x4) (q03.tr x4.q) (w13.ext x4) (w23.ext x4) (by rw [l2, l5]; exact w4) (by omega) p)
  obtain ⟨f, rfl⟩ : ∃ f, F = f + 1 + 1 := ⟨F - 2, by omega⟩
  rw [pz_4, pz_6, pThen_as] at hz
  refine g_aload_n C (gd DX3_readSum_0 0 rfl) 0 rfl rfl ?_
  refine g_getr (ci := 3) (k := 0) C rfl (by decide) rfl lf_TestJudge_Reader_12 s.1.1.1 s.1.1.2.1 (gd DX3_readSum_0 1 rfl) ?_
  refine g_cV1 (ci := 8) C [] mX8_allAtoms lm_TestJudge_Reader_113 (by exact s.1.2.2.2.1.1) rfl rfl (e_w_allAtoms s.1.2.2.2.1) hfl (by first | decide | omega) (by decide) (by omega) (by omega) rfl rfl (Nat.le_of_ble_eq_true rfl) (gd DX3_readSum_0 2 rfl) ?_
  rw [s.2.2.2.2.1.1]
  refine g_istore_n (lv' := [(0, _), (1, _), (2, _)]) C (gd DX3_readSum_0 3 rfl) [1, 2, 0] rfl (by decide) rfl ?_
  refine g_new (ci := 2) C rfl lc_TestJudge_Reader_94 lI_TestJudge_Piece li_TestJudge_Piece (by omega) (by omega) (gd DX3_readSum_0 4 rfl) (gdv2) ?_
  refine g_dup C (gd DX3_readSum_0 5 rfl) rfl ?_
  refine g_iconst (v := 0) C (gd DX3_readSum_0 6 rfl) (by decide) ?_
  refine g_iconst (v := 0) C (gd DX3_readSum_0 7 rfl) (by decide) ?_
  refine g_cI C [_, _] mX2_init lm_TestJudge_Reader_116 (e_pc_init 0 (by omega) _) hfl (by first | decide | omega) (by decide) (by omega) (by omega) rfl rfl (Nat.le_of_ble_eq_true rfl) (gd DX3_readSum_0 8 rfl) ?_
  obtain ⟨p1, e1, -, x1, -, w1⟩ := pcF_mk (np := w.2.2.2) (h := h) 0
  cases Option.some.inj e1
  generalize pcF w.2.2.2 h 0 0 = g1 at x1 w1 ⊢
  refine g_astore_n (lv' := [(0, _), (1, _), (2, _), (3, _)]) C (gd DX3_readSum_0 9 rfl) [1, 2, 3, 0] rfl (by decide) rfl ?_
  refine g_new (ci := 2) C rfl lc_TestJudge_Reader_94 lI_TestJudge_Piece li_TestJudge_Piece (by omega) (by omega) (gd DX3_readSum_0 10 rfl) (gdv2) ?_
  refine g_dup C (gd DX3_readSum_0 11 rfl) rfl ?_
  refine g_iconst (v := 0) C (gd DX3_readSum_0 12 rfl) (by decide) ?_
  refine g_iload_n C (gd DX3_readSum_0 13 rfl) 2 rfl rfl ?_
  refine g_cI C [_, _] mX2_init lm_TestJudge_Reader_116 (e_pc_init 0 (by omega) _) hfl (by first | decide | omega) (by decide) (by omega) (by omega) rfl rfl (Nat.le_of_ble_eq_true rfl) (gd DX3_readSum_0 14 rfl) ?_
  obtain ⟨p2, e2, -, x2, -, w2⟩ := pcF_mk (np := w.2.2.2) (h := g1) (allF (nI nt))
  cases Option.some.inj e2
  generalize pcF w.2.2.2 g1 0 (allF (nI nt)) = g2 at x2 w2 ⊢
  have s2 := (s.e x1).e x2
  refine g_astore (lv' := [(0, _), (1, _), (2, _), (3, _), (4, _)]) C (gd DX3_readSum_0 15 rfl) [1, 2, 3, 4, 0] (by decide) rfl ?_
  refine g_iconst (v := 0) C (gd DX3_readSum_0 16 rfl) (by decide) ?_
  refine g_istore (lv' := [(0, _), (1, _), (2, _), (3, _), (4, _), (5, _)]) C (gd DX3_readSum_0 17 rfl) [1, 2, 3, 4, 5, 0] (by decide) rfl ?_
  exact GW.up (by omega) (by omega) (loop (c - j) 0 j g2 0 (rPlain 0) (fun a => a) 0 (rPlain (allF (nI nt))) (fun a => a) f f (f + 1) 2 _ _ acc (Nat.le_refl _) s2 ((x1.tr x2).q) hj (by omega) (w1.ext x2) w2 (by omega) (fun a q => ⟨rq_row q, (Nat.zero_add _).symm, q⟩) (fun a q => ⟨by rw [Nat.zero_add]; exact rq_sum0 _ _, (Nat.zero_add _).symm, q⟩) hz (by omega) (by omega) (by omega) (by omega) (by omega) (by omega) (by omega))
theorem rc_all : ∀ F, (∀ F', F' < F → cCB w U W T N tx n c nt na np Wd PR F') ∧ (∀ F', F' ≤ F → cCS w U W T N tx n c nt na np Wd PR F') := by
  intro F
  induction F with
  | zero =>
    refine ⟨fun F' h => absurd h (Nat.not_lt_zero _), fun F' h => ?_⟩
    exact (rc_sum (fun F'' h2 => absurd h2 (by omega))).s
  | succ F ih =>
    obtain ⟨i1, i2⟩ := ih
    have b : ∀ F', F' < F + 1 → cCB w U W T N tx n c nt na np Wd PR F' := by
      intro F' hF'
      by_cases e : F' = F
      · subst e
        cases F' with
        | zero => intro h o j acc r K _ _ _ hh; exact absurd hh (Nat.not_lt_zero _)
        | succ F'' => exact rc_base (i1 F'' (by omega)) (i2 F'' (by omega))
      · exact i1 F' (by omega)
    exact ⟨b, fun F' h => (rc_sum (fun F'' h2 => b F'' (by omega))).s⟩
theorem rc_top (F : Nat) : cCT w U W T N tx n c nt na np Wd PR F := rc_sum (fun F' _ => (rc_all (F' + 1)).1 F' (by omega))
end R9
