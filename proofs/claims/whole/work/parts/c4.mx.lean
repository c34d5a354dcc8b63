/-! The class's actions: make -/
/-- what make makes, in a record -/
def mRec (V : aV) (c r q : Nat) (test D : Int32) : Nat → Int32 := tr (fun k => if k = 306 then D else mkR c (vPR V r) (vPR V q) (wt (vPR V r)) (wt (vPR V q)) (holdF test (2 ^ vNt V)) (allF (nI (vNt V))) k)
def mLay (V : aV) (c r q : Nat) : Int32 := 1 + (if vPR V r 306 < mk2 c 0 (vPR V q 306) then mk2 c 0 (vPR V q 306) else vPR V r 306)
def qMak (V : aV) (M : aM) (kd p o test : Int32) (v : Value) (V' : aV) (M' : aM) : Prop := (¬ (0 ≤ kd ∧ kd ≤ 4) ∧ v = .int (-1) ∧ V' = V ∧ M' = mSt M 1) ∨ ∃ c, c ≤ 4 ∧ kd = nI c ∧ ((¬ ((inP (vNp V) p ∧ inP (vNp V) o) ∧ (c ≤ 2 ∨ inP (vNt V) test)) ∧ v = .int (-1) ∧ V' = V ∧ M' = mSt M 2) ∨ ∃ r q, r < vNp V ∧ q < vNp V ∧ p = nI r ∧ o = nI q ∧ (c ≤ 2 ∨ inP (vNt V) test) ∧ (((vNp V = 8 ∨ 5 < wt (vPR V r) + mk2 c 0 (wt (vPR V q)) ∨ mLay V c r q = 7) ∧ v = .int (-1) ∧ V' = V ∧ M' = mSt M 3) ∨ (¬ (vNp V = 8 ∨ 5 < wt (vPR V r) + mk2 c 0 (wt (vPR V q)) ∨ mLay V c r q = 7) ∧ v = .int (nI (vNp V)) ∧ V' = vAct V (vNp V + 1, vS V, fun k => if k = vNp V then mRec V c r q test (mLay V c r q) else vPR V k) ∧ M' = mAct M)))
theorem rPl_0 (e : Int32) : rPlain e 0 = 0 := rfl
theorem xSum_0 {X Y : Nat → Int32} {a b : Nat} (h : a + b ≤ 16) : rSum X Y a b 0 = nI (a + b) ∧ rSum X Y a b 1 = X 1 ||| Y 1 := by
  unfold rSum rBes
  rw [if_pos h, if_pos h]
  exact ⟨rfl, rfl⟩
theorem xJoin_0 {X Y : Nat → Int32} {a b : Nat} (h : a + b ≤ 16) : rJoin X Y a b 0 = nI (a + b) ∧ rJoin X Y a b 1 = X 1 &&& Y 1 := by
  unfold rJoin rBes
  rw [if_pos h, if_pos h]
  unfold joQ joP
  constructor
  · rw [if_neg (by omega), if_neg (by omega), if_neg (by omega), if_neg (by omega)]
    rfl
  · rw [if_neg (by omega), if_pos rfl]
theorem xStar_0 {X : Nat → Int32} {a : Nat} {al : Int32} (h : a ≤ 16) : rStar X a al 0 = X 0 ∧ rStar X a al 1 = al := by
  unfold rStar
  rw [if_pos h]
  unfold stP
  constructor
  · rw [if_neg (by omega), if_neg (by omega)]
  · rw [if_pos rfl]
theorem xBegins_0 {X : Nat → Int32} {a : Nat} {e : Int32} (h : a ≤ 16) : rBegins X a e 0 = X 0 ∧ rBegins X a e 1 = X 1 &&& e := by
  unfold rBegins
  rw [if_pos h]
  unfold bgP
  constructor
  · rw [if_neg (by omega), if_neg (by omega)]
  · rw [if_pos rfl]
theorem xFinish_0 {X : Nat → Int32} {a : Nat} {e : Int32} (h : a ≤ 16) : rFinish X a e 0 = X 0 ∧ rFinish X a e 1 = X 1 &&& e := by
  unfold rFinish
  rw [if_pos h]
  unfold bgP
  constructor
  · rw [if_neg (by omega), if_neg (by omega)]
  · rw [if_pos rfl]
theorem and_al {x y al : Int32} (h : x &&& al = x) : (x &&& y) &&& al = x &&& y := by
  rw [Int32.and_assoc, Int32.and_comm y, ← Int32.and_assoc, h]
theorem or_al {x y al : Int32} (h : x &&& al = x) (g : y &&& al = y) : (x ||| y) &&& al = x ||| y := by
  refine hasB_ext fun a ha => ?_
  rw [hasB_and ha, hasB_or ha]
  refine ⟨fun q => q.1, fun q => ⟨q, ?_⟩⟩
  rcases q with q | q
  · rw [← h] at q; exact ((hasB_and ha).mp q).2
  · rw [← g] at q; exact ((hasB_and ha).mp q).2
theorem and_self2 (x : Int32) : x &&& x = x := hasB_ext fun a ha => by rw [hasB_and ha]; exact ⟨fun q => q.1, fun q => ⟨q, q⟩⟩
theorem mkR_0 {c a b : Nat} {X Y : Nat → Int32} {its al : Int32} (hc : c ≤ 4) (ha : a ≤ 5) (hb : b ≤ 5) (x0 : X 0 = nI a) (xe : X 1 &&& al = X 1) (ye : Y 1 &&& al = Y 1) : mkR c X Y a b its al 0 = nI (mkW c a b) ∧ mkR c X Y a b its al 1 &&& al = mkR c X Y a b its al 1 := by
  rcases (show c = 0 ∨ c = 1 ∨ c = 2 ∨ c = 3 ∨ c = 4 by omega) with rfl | rfl | rfl | rfl | rfl
  · obtain ⟨s0, s1⟩ := xSum_0 (X := X) (Y := Y) (a := a) (b := b) (by omega)
    exact ⟨s0, by show rSum X Y a b 1 &&& al = rSum X Y a b 1; rw [s1]; exact or_al xe ye⟩
  · obtain ⟨s0, s1⟩ := xJoin_0 (X := X) (Y := Y) (a := a) (b := b) (by omega)
    exact ⟨s0, by show rJoin X Y a b 1 &&& al = rJoin X Y a b 1; rw [s1]; exact and_al xe⟩
  · obtain ⟨s0, s1⟩ := xStar_0 (X := X) (a := a) (al := al) (by omega)
    exact ⟨s0.trans x0, by show rStar X a al 1 &&& al = rStar X a al 1; rw [s1]; exact and_self2 al⟩
  · obtain ⟨s0, s1⟩ := xSum_0 (X := rBegins X a its) (Y := rBegins Y b (al &&& (its ^^^ -1))) (a := a) (b := b) (by omega)
    refine ⟨s0, ?_⟩
    show rSum (rBegins X a its) (rBegins Y b (al &&& (its ^^^ -1))) a b 1 &&& al = rSum (rBegins X a its) (rBegins Y b (al &&& (its ^^^ -1))) a b 1
    rw [s1, (xBegins_0 (by omega)).2, (xBegins_0 (by omega)).2]
    exact or_al (and_al xe) (and_al ye)
  · obtain ⟨s0, s1⟩ := xFinish_0 (X := rStar (rBegins X a its) a al) (a := a) (e := al &&& (its ^^^ -1)) (by omega)
    obtain ⟨t0, t1⟩ := xStar_0 (X := rBegins X a its) (a := a) (al := al) (by omega)
    refine ⟨s0.trans (t0.trans ((xBegins_0 (by omega)).1.trans x0)), ?_⟩
    show rFinish (rStar (rBegins X a its) a al) a (al &&& (its ^^^ -1)) 1 &&& al = rFinish (rStar (rBegins X a its) a al) a (al &&& (its ^^^ -1)) 1
    rw [s1, t1]
    exact and_al (and_self2 al)
theorem mkR_its {c a b : Nat} {X Y : Nat → Int32} {its its' al : Int32} (h : 3 ≤ c → its = its') : mkR c X Y a b its al = mkR c X Y a b its' al := by
  by_cases e : 3 ≤ c
  · rw [h e]
  · unfold mkR
    by_cases e0 : c = 0
    · rw [if_pos e0, if_pos e0]
    · rw [if_neg e0, if_neg e0]
      by_cases e1 : c = 1
      · rw [if_pos e1, if_pos e1]
      · rw [if_neg e1, if_neg e1, if_pos (by omega), if_pos (by omega)]
theorem mRec_k {V : aV} {c r q : Nat} {test D : Int32} {k : Nat} (hk : k < 306) : mRec V c r q test D k = mkR c (vPR V r) (vPR V q) (wt (vPR V r)) (wt (vPR V q)) (holdF test (2 ^ vNt V)) (allF (nI (vNt V))) k := by
  unfold mRec tr
  rw [if_pos (by omega)]
  exact if_neg (by omega)
theorem mLay_n {V : aV} {c r q d1 d2 : Nat} (e1 : vPR V r 306 = nI d1) (e2 : vPR V q 306 = nI d2) (h1 : d1 ≤ 6) (h2 : d2 ≤ 6) : mLay V c r q = nI (1 + (if c = 2 ∨ c = 4 then d1 else if d1 < d2 then d2 else d1)) := by
  unfold mLay mk2
  rw [e1, e2]
  by_cases e : c = 2 ∨ c = 4
  · rw [if_pos e, if_pos e, if_neg (c := nI d1 < 0) (fun z => nI_nn (by omega) z)]
    exact nx_add (a := 1) rfl rfl
  · rw [if_neg e, if_neg e]
    by_cases l : d1 < d2
    · rw [if_pos (nI_lt l (by omega)), if_pos l]
      exact nx_add (a := 1) rfl rfl
    · rw [if_neg (fun z => l ((nI_ltI (by omega) (by omega)).mp z)), if_neg l]
      exact nx_add (a := 1) rfl rfl
theorem mRec_ok {V : aV} (hV : vOK V) {c r q d : Nat} {test D : Int32} (hc : c ≤ 4) (hr : r < vNp V) (hq : q < vNp V) (hw : mkW c (wt (vPR V r)) (wt (vPR V q)) ≤ 5) (hD : D = nI d) (hd : d ≤ 6) : pOK (vNt V) (mRec V c r q test D) ∧ wt (mRec V c r q test D) = mkW c (wt (vPR V r)) (wt (vPR V q)) ∧ mRec V c r q test D 306 = D := by
  obtain ⟨a1, a2, a3, -⟩ := (hV.2.1 (vA V) (Nat.le_refl _)).2.2 r hr
  obtain ⟨b1, b2, b3, -⟩ := (hV.2.1 (vA V) (Nat.le_refl _)).2.2 q hq
  obtain ⟨m0, m1⟩ := mkR_0 (its := holdF test (2 ^ vNt V)) hc a1 b1 a2 a3 b3
  have e0 := mRec_k (V := V) (c := c) (r := r) (q := q) (test := test) (D := D) (k := 0) (by omega)
  have e1 := mRec_k (V := V) (c := c) (r := r) (q := q) (test := test) (D := D) (k := 1) (by omega)
  have ew : wt (mRec V c r q test D) = mkW c (wt (vPR V r)) (wt (vPR V q)) := wt_of (e0.trans m0) (by omega)
  have e6 : mRec V c r q test D 306 = D := by
    unfold mRec tr
    rw [if_pos (by omega)]
    exact if_pos rfl
  exact ⟨⟨by omega, by rw [ew]; exact e0.trans m0, by rw [e1]; exact m1, d, hd, e6.trans hD⟩, ew, e6⟩
section MX
variable {w : gD} {x W : Nat} {h : HS} {V : aV} {RC : Nat → Nat → Int32} {M : aM}
theorem okP.pw {a : Nat} {R : Nat → Int32} (p : okP x W h a R) (hw : wt R ≤ 6) : pcW h a (wt R) R := by
  obtain ⟨-, ⟨l1, l2⟩, p1, p2, p3, p4, p5, p6⟩ := p
  refine ⟨⟨p2, fun _ => p3⟩, l1, ⟨⟨p1, by rw [szP_s hw]; exact p4⟩, fun q => ?_⟩, fun q hq => ?_⟩
  · rw [szP_s hw] at q ⊢
    exact ⟨p5 q, l2 q⟩
  · rw [szP_s hw] at hq ⊢
    exact p6 q hq
theorem e_x_make (K : K0 x W h V RC) (hM : kvM x h M) (kd p o test : Int32) : Ev w 6 25 305 yX9_make cX9_make 11 (some .int) [.ref x, .int kd, .int p, .int o, .int test] h (aQ x (qMak V M kd p o test)) := by
  refine g_start (by decide) (Nat.le_of_ble_eq_true rfl) [(0, _), (1, _), (2, _), (3, _), (4, _)] rfl (fun z hfl C => ?_)
  have hx := K.1
  obtain ⟨w0, w1, w2, w3, w4⟩ := K.2.2.1.1
  have hnp := K.2.1.np
  have hnt := K.2.1.1.1
  have a8 := K.2.1.a8
  have xW := hx.2.2.2.2.2.2.2.2.2.1
  obtain ⟨xa, xb⟩ := hx.2.2.2.2.2.2.2.2.2.2.1
  have k9 : ¬ (0 ≤ kd ∧ kd ≤ 4) → GW z w 11 (gQ z w 25 305 (fun r' h'' => aQ x (qMak V M kd p o test) r' h'')) 0 0 9 [(0, .ref x), (1, .int kd), (2, .int p), (3, .int o), (4, .int test)] [] h := by
    intro q
    refine g_aload_n C (gd DX9_make_0 5 rfl) 0 rfl rfl ?_
    refine g_iconst (v := 1) C (gd DX9_make_0 6 rfl) (by decide) ?_
    refine g_cV1 (ci := 9) C [_] mX9_refuse lm_TestJudge_90 (by exact hx.1) rfl rfl (e_x_refuse hx 1) hfl (by first | decide | omega) (by decide) (by omega) (by omega) rfl rfl (Nat.le_of_ble_eq_true rfl) (gd DX9_make_0 7 rfl) ?_
    exact g_iret C (by omega) (by omega) ⟨_, V, mSt M 1, rfl, K.st K (qKp.rf x h) hM 1, Or.inl ⟨q, rfl, rfl, rfl⟩⟩ (gd DX9_make_0 8 rfl)
  refine g_iload_n C (gd DX9_make_0 0 rfl) 1 rfl rfl ?_
  refine g_if_lt C 9 (gd DX9_make_0 1 rfl) (by decide) (fun c1 => ?_) (fun c1 => ?_)
  · exact k9 (fun q => absurd q.1 (Int32.not_le.mpr c1))
  refine g_iload_n C (gd DX9_make_0 2 rfl) 1 rfl rfl ?_
  refine g_iconst (v := 4) C (gd DX9_make_0 3 rfl) (by decide) ?_
  refine g_icmp_le C 15 (gd DX9_make_0 4 rfl) (by decide) (fun c6 => ?_) (fun c6 => ?_)
  rotate_left
  · exact k9 (fun q => c6 q.2)
  have hk : 0 ≤ kd ∧ kd ≤ 4 := ⟨Int32.not_lt.mp c1, c6⟩
  clear k9
  obtain ⟨c, hc5, rfl⟩ : ∃ c, c < 5 ∧ kd = nI c := below_of (n := 5) (by omega) hk
  have hc : c ≤ 4 := by omega
  have k53 : ¬ ((inP (vNp V) p ∧ inP (vNp V) o) ∧ (c ≤ 2 ∨ inP (vNt V) test)) → GW z w 11 (gQ z w 25 305 (fun r' h'' => aQ x (qMak V M (nI c) p o test) r' h'')) 0 0 53 [(0, .ref x), (1, .int (nI c)), (2, .int p), (3, .int o), (4, .int test)] [] h := by
    intro q
    refine g_aload_n C (gd DX9_make_0 27 rfl) 0 rfl rfl ?_
    refine g_iconst (v := 2) C (gd DX9_make_0 28 rfl) (by decide) ?_
    refine g_cV1 (ci := 9) C [_] mX9_refuse lm_TestJudge_90 (by exact hx.1) rfl rfl (e_x_refuse hx 2) hfl (by first | decide | omega) (by decide) (by omega) (by omega) rfl rfl (Nat.le_of_ble_eq_true rfl) (gd DX9_make_0 29 rfl) ?_
    exact g_iret C (by omega) (by omega) ⟨_, V, mSt M 2, rfl, K.st K (qKp.rf x h) hM 2, Or.inr ⟨c, hc, rfl, Or.inl ⟨q, rfl, rfl, rfl⟩⟩⟩ (gd DX9_make_0 30 rfl)
  refine g_aload_n C (gd DX9_make_0 9 rfl) 0 rfl rfl ?_
  refine g_iload_n C (gd DX9_make_0 10 rfl) 2 rfl rfl ?_
  refine g_cV1 (ci := 9) C [_] mX9_lacks lm_TestJudge_154 (by exact hx.1) rfl rfl (e_x_lacks hx (by omega) w2 p) hfl (by first | decide | omega) (by decide) (by omega) (by omega) rfl rfl (Nat.le_of_ble_eq_true rfl) (gd DX9_make_0 11 rfl) ?_
  by_cases n1 : 0 ≤ p ∧ p ≤ nI (vNp V) - 1
  rotate_left
  · rw [b1_t (show ¬ (0 ≤ p ∧ p ≤ nI (vNp V) - 1) from n1)]
    refine g_if_ne C 53 (gd DX9_make_0 12 rfl) (by decide) (fun c20 => ?_) (fun c20 => ?_)
    · exact k53 (fun q => n1 q.1.1)
    · exact absurd c20 (by decide)
  rw [b1_f (show ¬ ¬ (0 ≤ p ∧ p ≤ nI (vNp V) - 1) from fun q => q n1)]
  refine g_if_ne C 53 (gd DX9_make_0 12 rfl) (by decide) (fun c20 => ?_) (fun c20 => ?_)
  · exact absurd rfl c20
  refine g_aload_n C (gd DX9_make_0 13 rfl) 0 rfl rfl ?_
  refine g_iload_n C (gd DX9_make_0 14 rfl) 3 rfl rfl ?_
  refine g_cV1 (ci := 9) C [_] mX9_lacks lm_TestJudge_154 (by exact hx.1) rfl rfl (e_x_lacks hx (by omega) w2 o) hfl (by first | decide | omega) (by decide) (by omega) (by omega) rfl rfl (Nat.le_of_ble_eq_true rfl) (gd DX9_make_0 15 rfl) ?_
  by_cases n2 : 0 ≤ o ∧ o ≤ nI (vNp V) - 1
  rotate_left
  · rw [b1_t (show ¬ (0 ≤ o ∧ o ≤ nI (vNp V) - 1) from n2)]
    refine g_if_ne C 53 (gd DX9_make_0 16 rfl) (by decide) (fun c28 => ?_) (fun c28 => ?_)
    · exact k53 (fun q => n2 q.1.2)
    · exact absurd c28 (by decide)
  rw [b1_f (show ¬ ¬ (0 ≤ o ∧ o ≤ nI (vNp V) - 1) from fun q => q n2)]
  refine g_if_ne C 53 (gd DX9_make_0 16 rfl) (by decide) (fun c28 => ?_) (fun c28 => ?_)
  · exact absurd rfl c28
  obtain ⟨r, hr, rfl⟩ := below_of (by omega) n1
  obtain ⟨q, hq, rfl⟩ := below_of (by omega) n2
  obtain ⟨a, a1, a2, a3, a4⟩ := K.2.2.1.2.1 r hr
  obtain ⟨b, b1', b2, b3, b4⟩ := K.2.2.1.2.1 q hq
  have pr := (K.2.1.2.1 (vA V) (Nat.le_refl _)).2.2 r hr
  have pq := (K.2.1.2.1 (vA V) (Nat.le_refl _)).2.2 q hq
  obtain ⟨d1, hd1, ed1'⟩ := pr.2.2.2
  obtain ⟨d2, hd2, ed2'⟩ := pq.2.2.2
  have ed1 : vPR V r 306 = nI d1 := ed1'
  have ed2 : vPR V q 306 = nI d2 := ed2'
  have hw1 : wt (vPR V r) ≤ 5 := pr.1
  have hw2 : wt (vPR V q) ≤ 5 := pq.1
  have eD := mLay_n (c := c) ed1 ed2 hd1 hd2
  generalize hDn : 1 + (if c = 2 ∨ c = 4 then d1 else if d1 < d2 then d2 else d1) = D at eD
  have hD7 : D ≤ 7 := by
    rw [← hDn]
    split
    · omega
    · split <;> omega
  have eW2 : wt (vPR V r) + mk2 c 0 (wt (vPR V q)) = mkW c (wt (vPR V r)) (wt (vPR V q)) := by
    unfold mk2 mkW
    by_cases e : c = 2 ∨ c = 4
    · rw [if_pos e, if_pos e]; rfl
    · rw [if_neg e, if_neg e]
  have hwW : mkW c (wt (vPR V r)) (wt (vPR V q)) ≤ 10 := by
    unfold mkW
    split <;> omega
  have k190 : ∀ v5 v8 v9, (c ≤ 2 ∨ inP (vNt V) test) → ¬ (vNp V = 8 ∨ 5 < wt (vPR V r) + mk2 c 0 (wt (vPR V q)) ∨ mLay V c r q = 7) → GW z w 11 (gQ z w 25 305 (fun r' h'' => aQ x (qMak V M (nI c) (nI r) (nI q) test) r' h'')) 0 0 190 [(0, .ref x), (1, .int (nI c)), (2, .int (nI r)), (3, .int (nI q)), (4, .int test), (5, .int v5), (6, .ref a), (7, .ref b), (8, .int v8), (9, .int v9), (10, .int (nI D))] [] h := by
    intro v5 v8 v9 ht no
    have np8 : vNp V < 8 := by
      have : vNp V ≠ 8 := fun e => no (Or.inl e)
      omega
    have hw5 : mkW c (wt (vPR V r)) (wt (vPR V q)) ≤ 5 := by
      rw [← eW2]
      exact Nat.le_of_not_lt (fun e => no (Or.inr (Or.inl e)))
    have hD6 : D ≤ 6 := by
      have : D ≠ 7 := fun e => no (Or.inr (Or.inr (by rw [eD, e]; rfl)))
      omega
    obtain ⟨ok1, ok2, ok3⟩ := mRec_ok (test := test) K.2.1 hc hr hq hw5 eD hD6
    have ei : 3 ≤ c → holdC test (2 ^ vNt V) = holdF test (2 ^ vNt V) := fun c3 => by
      rcases ht with e | e
      · omega
      · obtain ⟨t, ht, rfl⟩ := below_of (by omega) e
        exact holdC_F t (by omega) (2 ^ vNt V) (by rcases (show vNt V = 0 ∨ vNt V = 1 ∨ vNt V = 2 ∨ vNt V = 3 by omega) with e | e | e | e <;> rw [e] <;> decide)
    refine g_aload_n C (gd DX9_make_1 35 rfl) 0 rfl rfl ?_
    refine g_getr (ci := 9) (k := 6) C rfl (by decide) rfl lf_TestJudge_36 hx.1 hx.2.2.2.1.1 (gd DX9_make_1 36 rfl) ?_
    refine g_aload_n C (gd DX9_make_1 37 rfl) 0 rfl rfl ?_
    refine g_getr (ci := 9) (k := 6) C rfl (by decide) rfl lf_TestJudge_36 hx.1 hx.2.2.2.1.1 (gd DX9_make_1 38 rfl) ?_
    refine g_geti (ci := 8) (k := 2) C rfl (by decide) rfl lf_TestJudge_125 hx.2.2.2.1.2.1 (gd DX9_make_1 39 rfl) ?_
    rw [w2]
    refine g_aload_n C (gd DX9_make_1 40 rfl) 0 rfl rfl ?_
    refine g_iload_n C (gd DX9_make_1 41 rfl) 1 rfl rfl ?_
    refine g_aload C (gd DX9_make_1 42 rfl) 6 rfl ?_
    refine g_aload C (gd DX9_make_1 43 rfl) 7 rfl ?_
    refine g_iload C (gd DX9_make_1 44 rfl) 4 rfl ?_
    refine g_callV (ci := 9) C [_, _, _, _] mX9_made lm_TestJudge_282 (by exact hx.1) rfl rfl (e_x_made hx hnt w0 hc (a3.pw (by omega)) (b3.pw (by omega)) (by omega) test) hfl (by first | decide | omega) (by decide) (by omega) (by omega) rfl rfl (Nat.le_of_ble_eq_true rfl) (gd DX9_make_1 45 rfl) (fun r g hp => ?_)
    obtain ⟨pp, rfl, l1, ex, pw⟩ := hp
    show GW z w 11 _ _ _ _ _ (.ref pp :: _) _
    rw [mkR_its ei] at pw
    generalize hRm : mRec V c r q test (mLay V c r q) = R at ok1 ok2 ok3
    have pw2 : pcW g pp (wt R) R := by
      rw [ok2]
      refine pw.cg (fun _ => ?_)
      have e : ∀ k, k < 306 → mkR c (vPR V r) (vPR V q) (wt (vPR V r)) (wt (vPR V q)) (holdF test (2 ^ vNt V)) (allF (nI (vNt V))) k = R k := fun k hk => by rw [← hRm, mRec_k hk]
      exact ⟨e 1 (by omega), fun i hi => ⟨e _ (by omega), e _ (by omega), e _ (by omega), fun j hj => e _ (by omega)⟩⟩
    have wR : wt R ≤ 5 := ok1.1
    have okg : okP x W g pp R := ⟨by omega, ⟨pw2.2.1, fun e => (pw2.2.2.1.2 (by rw [szP_s (by omega)]; exact e)).2⟩, pw2.s (by omega)⟩
    have fg : aFr x W h g := ex.a
    have hxg := hx.a fg
    have gI : ∀ b, b < hT h → hI g b = hI h b := fun b hb => (ex.2 b hb).1
    have gR : ∀ b, b < hT h → hR g b = hR h b := fun b hb => (ex.2 b hb).2.2.1
    refine g_iload C (gd DX9_make_1 46 rfl) 10 rfl ?_
    refine GW.cast rfl rfl (hV_self (W := W)).symm ?_
    refine g_cV0 (v := .null) (ci := 8) C [_, _, _] mX8_insert lm_TestJudge_286 (by exact hxg.2.2.2.1.2.1) rfl rfl (e_w_insert (h := g) hxg.2.2.2.1.2 (np := vNp V) (p := vNp V) (by rw [gI W (by omega)]; exact w2) np8 (Nat.le_refl _) okg.2.2.1 (fun j hj => by obtain ⟨e, e1, e2, e3, -⟩ := K.2.2.1.2.1 j hj; exact ⟨e, by rw [gR (W + 1) (by omega)]; exact e1, (fg.2 e e3.2.1.1).1.1.trans e3.2.2.1⟩) _) hfl (by first | decide | omega) (by decide) (by omega) (by omega) rfl rfl (Nat.le_of_ble_eq_true rfl) (gd DX9_make_1 47 rfl) ?_
    rw [mvU_n, mvU_n]
    have f2 : aFr x W h (hV W g (upd (hI g W) 2 (nI (vNp V + 1))) (upd (hI g (W + 2)) (vNp V) (nI D)) (updO (hR g (W + 1)) (vNp V) (some pp))) := fg.tr aFr_V
    generalize hg2 : hV W g (upd (hI g W) 2 (nI (vNp V + 1))) (upd (hI g (W + 2)) (vNp V) (nI D)) (updO (hR g (W + 1)) (vNp V) (some pp)) = g2 at f2 ⊢
    have gT2 : aFr x W g g2 := by rw [← hg2]; exact aFr_V
    have e2W : hI g2 W = upd (hI h W) 2 (nI (vNp V + 1)) := by rw [← hg2, hV_0, gI W (by omega)]
    have e2L : hI g2 (W + 2) = upd (hI h (W + 2)) (vNp V) (nI D) := by rw [← hg2, hV_2, gI _ (by omega)]
    have e2P : hR g2 (W + 1) = updO (hR h (W + 1)) (vNp V) (some pp) := by rw [← hg2, hV_1, gR _ (by omega)]
    have e2n : ∀ b, b < hT h → b ≠ W → b ≠ W + 2 → hI g2 b = hI h b := fun b b1 b2 b3 => by rw [← hg2, hV_ne b2 b3, gI b b1]
    have e2R : ∀ b, b < hT h → b ≠ W + 1 → hR g2 b = hR h b := fun b b1 b2 => by rw [← hg2, hV_neR b2, gR b b1]
    have hx2 := hx.a f2
    have d := K.2.2.2.1
    refine g_aload_n C (gd DX9_make_1 48 rfl) 0 rfl rfl ?_
    refine g_getr (ci := 9) (k := 7) C rfl (by decide) rfl lf_TestJudge_43 hx2.1 hx2.2.2.2.2.1.1 (gd DX9_make_1 49 rfl) ?_
    refine g_iconst (v := 0) C (gd DX9_make_1 50 rfl) (by decide) ?_
    refine g_aload_n C (gd DX9_make_1 51 rfl) 0 rfl rfl ?_
    refine g_getr (ci := 9) (k := 6) C rfl (by decide) rfl lf_TestJudge_36 hx2.1 hx2.2.2.2.1.1 (gd DX9_make_1 52 rfl) ?_
    refine g_geti (ci := 8) (k := 2) C rfl (by decide) rfl lf_TestJudge_125 hx2.2.2.2.1.2.1 (gd DX9_make_1 53 rfl) ?_
    rw [e2W, show upd (hI h W) 2 (nI (vNp V + 1)) 2 = nI (vNp V + 1) from rfl]
    refine g_iconst (v := 1) C (gd DX9_make_1 54 rfl) (by decide) ?_
    refine g_isub C (gd DX9_make_1 55 rfl) ?_
    rw [show nI (vNp V + 1) - 1 = nI (vNp V) from nx_sub (a := vNp V + 1) (b := 1) rfl rfl (by omega)]
    refine g_aload_n C (gd DX9_make_1 56 rfl) 0 rfl rfl ?_
    refine g_getr (ci := 9) (k := 11) C rfl (by decide) rfl lf_TestJudge_73 hx2.1 hx2.2.2.2.2.2.2.2.2.1.1 (gd DX9_make_1 57 rfl) ?_
    refine g_iconst (v := 0) C (gd DX9_make_1 58 rfl) (by decide) ?_
    refine g_cV0 (v := .null) (ci := 0) C [_, _, _, _] mX0_keep lm_TestJudge_290 (by exact hx2.2.2.2.2.1.2.1) rfl rfl (e_x_keep hx2.2.2.2.2.1.2 (by rw [e2n _ (by omega) (by omega) (by omega)]; exact d.1) a8 (fun e j hj => by obtain ⟨f, f1, f3⟩ := K.d8 e j hj; obtain ⟨⟨f', f1', -, -, f4⟩, -⟩ := d.2 j (by omega); cases Option.some.inj (f1.symm.trans f1'); exact ⟨f, by rw [e2R _ (by omega) (by omega)]; exact f1, (f2.2 f f4).1.1.trans f3⟩) hx2.2.2.2.2.2.2.2.2.1.2.1 _ _ _) hfl (by first | decide | omega) (by decide) (by omega) (by omega) rfl rfl (Nat.le_of_ble_eq_true rfl) (gd DX9_make_1 59 rfl) ?_
    generalize hg3 : kpD x g2 (vA V) 0 (nI (vNp V)) 0 (x + 49) = g3
    have f23 : aFr x W g2 g3 := by rw [← hg3]; exact kpD_fr
    have gW : ∀ b, ¬ (x + 12 ≤ b ∧ b ≤ x + 16) → hI g3 b = hI g2 b := fun b hb => by rw [← hg3]; exact kpD_ne hb
    have gR3 : ∀ b, b ≠ x + 15 → hR g3 b = hR g2 b := fun b hb => by rw [← hg3]; exact kpD_neR hb
    have gdk : dkR x g2 g3 (vA V) 0 (nI (vNp V)) 0 (x + 49) := by rw [← hg3]; exact kpD_r
    clear hg3
    have f3 := f2.tr f23
    have hx3 := hx.a f3
    refine g_aload_n C (gd DX9_make_2 0 rfl) 0 rfl rfl ?_
    refine g_cV0 (v := .null) (ci := 9) C [] mX9_endWalk lm_TestJudge_122 (by exact hx3.1) rfl rfl (e_x_endWalk hx3) hfl (by first | decide | omega) (by decide) (by omega) (by omega) rfl rfl (Nat.le_of_ble_eq_true rfl) (gd DX9_make_2 1 rfl) ?_
    have f4 := f3.tr (aFr_x (x := x) (W := W) (k := 12) (v := -1))
    have hx4 := hx.a f4
    have e4 : hI (sI g3 x 12 (-1)) W 2 = nI (vNp V + 1) := by rw [hI_sI_ne (show W ≠ x by omega), gW W (by omega), e2W]; rfl
    refine g_aload_n C (gd DX9_make_2 2 rfl) 0 rfl rfl ?_
    refine g_aload_n C (gd DX9_make_2 3 rfl) 0 rfl rfl ?_
    refine g_getr (ci := 9) (k := 6) C rfl (by decide) rfl lf_TestJudge_36 hx4.1 hx4.2.2.2.1.1 (gd DX9_make_2 4 rfl) ?_
    refine g_geti (ci := 8) (k := 2) C rfl (by decide) rfl lf_TestJudge_125 hx4.2.2.2.1.2.1 (gd DX9_make_2 5 rfl) ?_
    rw [e4]
    refine g_iconst (v := 1) C (gd DX9_make_2 6 rfl) (by decide) ?_
    refine g_isub C (gd DX9_make_2 7 rfl) ?_
    rw [show nI (vNp V + 1) - 1 = nI (vNp V) from nx_sub (a := vNp V + 1) (b := 1) rfl rfl (by omega)]
    refine g_cV1 (ci := 9) C [_] mX9_allow lm_TestJudge_128 (by exact hx4.1) rfl rfl (e_x_allow hx4 _) hfl (by first | decide | omega) (by decide) (by omega) (by omega) rfl rfl (Nat.le_of_ble_eq_true rfl) (gd DX9_make_2 8 rfl) ?_
    have f5 := f4.tr (aFr_x (x := x) (W := W) (k := 3) (v := 0))
    have fz : aFr x W g2 (sI (sI g3 x 12 (-1)) x 3 0) := (f23.tr aFr_x).tr aFr_x
    generalize hS : ((vNp V + 1, vS V, fun k => if k = vNp V then R else vPR V k) : aH) = S
    generalize hh : sI (sI g3 x 12 (-1)) x 3 0 = h5 at f5 fz ⊢
    have ne5 : ∀ b, b ≠ x → hI h5 b = hI g3 b := fun b hb => by rw [← hh]; exact (hI_sI_ne hb).trans (hI_sI_ne hb)
    have eW : hI h5 W = upd (hI h W) 2 (nI (vNp V + 1)) := by rw [ne5 W (by omega), gW W (by omega), e2W]
    have eL : hI h5 (W + 2) = upd (hI h (W + 2)) (vNp V) (nI D) := by rw [ne5 _ (by omega), gW _ (by omega), e2L]
    have eP : hR h5 (W + 1) = updO (hR h (W + 1)) (vNp V) (some pp) := by rw [← hh]; exact (gR3 _ (by omega)).trans e2P
    have hr' : ∀ a', a' < hT h → (fun a' => if a' = pp then R else RC a') a' = RC a' := fun a' ha' => (show (if a' = pp then R else RC a') = RC a' from if_neg (by omega))
    have ok : vOK (vAct V S) := by
      have v5 := (K.2.1.2.1 (vA V) (Nat.le_refl _))
      rw [← hS]
      refine vAct_ok K.2.1 (by show vNp V + 1 ≤ 8; omega) v5.2.1 (fun k hk => ?_)
      have hk' : k < vNp V + 1 := hk
      show pOK (vNt V) (if k = vNp V then R else vPR V k)
      by_cases e : k = vNp V
      · rw [if_pos e]; exact ok1
      · rw [if_neg e]; exact v5.2.2 k (show k < vNp V by omega)
    have wp : kvP x W h5 (vHi (vAct V S) (vA (vAct V S))) (fun a' => if a' = pp then R else RC a') := by
      rw [vAct_S, ← hS]
      refine ⟨by rw [eW]; rfl, by rw [eW]; exact w4, fun k hk => ?_⟩
      have hk' : k < vNp V + 1 := hk
      show ∃ b, hR h5 (W + 1) k = some b ∧ (if b = pp then R else RC b) = (if k = vNp V then R else vPR V k) ∧ okP x W h5 b (if k = vNp V then R else vPR V k) ∧ hI h5 (W + 2) k = (if k = vNp V then R else vPR V k) 306
      rw [eP, eL]
      unfold updO upd
      by_cases e : k = vNp V
      · rw [if_pos e, if_pos e, if_pos e]
        exact ⟨pp, rfl, if_pos rfl, okg.af (gT2.tr fz), (ok3.trans eD).symm⟩
      · rw [if_neg e, if_neg e, if_neg e]
        obtain ⟨b, b1, b2, b3, b4⟩ := K.2.2.1.2.1 k (by omega)
        exact ⟨b, b1, (if_neg (by have := b3.2.1.1; omega)).trans b2, b3.af f5, b4⟩
    have d5 : kvD x W h5 (vAct V S) (fun a' => if a' = pp then R else RC a') := by
      refine d.kp K.2.1 f5 hr' ((gdk.o (fun b b1 b2 => (e2n b (by omega) (by omega) (by omega)).symm) (e2R _ (by omega) (by omega)).symm).e (fun b b1 b2 => ne5 b (by omega)) (by rw [← hh]; rfl)) ⟨(f5.2 _ xa).1.1.trans hx.2.2.2.2.2.2.2.2.1.2.1, by omega, Nat.lt_of_lt_of_le xa f5.1⟩ ?_
      rw [← hS]
      exact Or.inl ⟨rfl, rfl, rfl, rfl, fun k hk => if_neg (by have : k < vNp V := hk; omega)⟩
    have K5 : K0 x W h5 (vAct V S) (fun a' => if a' = pp then R else RC a') := K.ac f5 hr' rfl rfl ok ⟨by rw [eW]; rfl, by rw [eW]; rfl, by rw [eW]; rfl⟩ wp d5
    have m5 : kvM x h5 (mAct M) := by
      rw [← hh]
      refine hM.ac (fun b hb => ?_)
      rw [gW b (by omega), e2n b (by omega) (by omega) (by omega)]
    exact g_iret C (by omega) (by omega) ⟨_, _, _, rfl, ⟨W, _, K5, m5⟩, Or.inr ⟨c, hc, rfl, Or.inr ⟨r, q, hr, hq, rfl, rfl, ht, Or.inr ⟨no, rfl, by rw [hRm, hS], rfl⟩⟩⟩⟩ (gd DX9_make_2 9 rfl)
  have k184 : ∀ v5 v8 v9, (c ≤ 2 ∨ inP (vNt V) test) → (vNp V = 8 ∨ 5 < wt (vPR V r) + mk2 c 0 (wt (vPR V q)) ∨ mLay V c r q = 7) → GW z w 11 (gQ z w 25 305 (fun r' h'' => aQ x (qMak V M (nI c) (nI r) (nI q) test) r' h'')) 0 0 184 [(0, .ref x), (1, .int (nI c)), (2, .int (nI r)), (3, .int (nI q)), (4, .int test), (5, .int v5), (6, .ref a), (7, .ref b), (8, .int v8), (9, .int v9), (10, .int (nI D))] [] h := by
    intro v5 v8 v9 ht no
    refine g_aload_n C (gd DX9_make_1 31 rfl) 0 rfl rfl ?_
    refine g_iconst (v := 3) C (gd DX9_make_1 32 rfl) (by decide) ?_
    refine g_cV1 (ci := 9) C [_] mX9_refuse lm_TestJudge_90 (by exact hx.1) rfl rfl (e_x_refuse hx 3) hfl (by first | decide | omega) (by decide) (by omega) (by omega) rfl rfl (Nat.le_of_ble_eq_true rfl) (gd DX9_make_1 33 rfl) ?_
    exact g_iret C (by omega) (by omega) ⟨_, V, mSt M 3, rfl, K.st K (qKp.rf x h) hM 3, Or.inr ⟨c, hc, rfl, Or.inr ⟨r, q, hr, hq, rfl, rfl, ht, Or.inl ⟨no, rfl, rfl, rfl⟩⟩⟩⟩ (gd DX9_make_1 34 rfl)
  have k74 : (c ≤ 2 ∨ inP (vNt V) test) → GW z w 11 (gQ z w 25 305 (fun r' h'' => aQ x (qMak V M (nI c) (nI r) (nI q) test) r' h'')) 0 0 74 [(0, .ref x), (1, .int (nI c)), (2, .int (nI r)), (3, .int (nI q)), (4, .int test)] [.int (b1 (c = 2 ∨ c = 4))] h := by
    intro ht
    refine g_istore (lv' := [(0, _), (1, _), (2, _), (3, _), (4, _), (5, _)]) C (gd DX9_make_0 40 rfl) [1, 2, 3, 4, 5, 0] (by decide) rfl ?_
    refine g_aload_n C (gd DX9_make_0 41 rfl) 0 rfl rfl ?_
    refine g_getr (ci := 9) (k := 6) C rfl (by decide) rfl lf_TestJudge_36 hx.1 hx.2.2.2.1.1 (gd DX9_make_0 42 rfl) ?_
    refine g_iload_n C (gd DX9_make_0 43 rfl) 2 rfl rfl ?_
    refine g_cV1 (ci := 8) C [_] mX8_piece lm_TestJudge_158 (by exact hx.2.2.2.1.2.1) rfl rfl (e_w_piece hx.2.2.2.1.2 hnp w2 hr a1) hfl (by first | decide | omega) (by decide) (by omega) (by omega) rfl rfl (Nat.le_of_ble_eq_true rfl) (gd DX9_make_0 44 rfl) ?_
    refine g_astore (lv' := [(0, _), (1, _), (2, _), (3, _), (4, _), (5, _), (6, _)]) C (gd DX9_make_0 45 rfl) [1, 2, 3, 4, 5, 6, 0] (by decide) rfl ?_
    refine g_aload_n C (gd DX9_make_0 46 rfl) 0 rfl rfl ?_
    refine g_getr (ci := 9) (k := 6) C rfl (by decide) rfl lf_TestJudge_36 hx.1 hx.2.2.2.1.1 (gd DX9_make_0 47 rfl) ?_
    refine g_iload_n C (gd DX9_make_0 48 rfl) 3 rfl rfl ?_
    refine g_cV1 (ci := 8) C [_] mX8_piece lm_TestJudge_158 (by exact hx.2.2.2.1.2.1) rfl rfl (e_w_piece hx.2.2.2.1.2 hnp w2 hq b1') hfl (by first | decide | omega) (by decide) (by omega) (by omega) rfl rfl (Nat.le_of_ble_eq_true rfl) (gd DX9_make_0 49 rfl) ?_
    have k120 : GW z w 11 (gQ z w 25 305 (fun r' h'' => aQ x (qMak V M (nI c) (nI r) (nI q) test) r' h'')) 0 0 120 [(0, .ref x), (1, .int (nI c)), (2, .int (nI r)), (3, .int (nI q)), (4, .int test), (5, .int (b1 (c = 2 ∨ c = 4))), (6, .ref a), (7, .ref b)] [.int (nI (mkW c (wt (vPR V r)) (wt (vPR V q))))] h := by
      refine g_istore (lv' := [(0, _), (1, _), (2, _), (3, _), (4, _), (5, _), (6, _), (7, _), (8, _)]) C (gd DX9_make_1 1 rfl) [1, 2, 3, 4, 5, 6, 7, 8, 0] (by decide) rfl ?_
      refine g_aload_n C (gd DX9_make_1 2 rfl) 0 rfl rfl ?_
      refine g_getr (ci := 9) (k := 6) C rfl (by decide) rfl lf_TestJudge_36 hx.1 hx.2.2.2.1.1 (gd DX9_make_1 3 rfl) ?_
      refine g_iload_n C (gd DX9_make_1 4 rfl) 2 rfl rfl ?_
      refine g_cV1 (ci := 8) C [_] mX8_layer lm_TestJudge_274 (by exact hx.2.2.2.1.2.1) rfl rfl (e_w_layer hx.2.2.2.1.2 hnp w2 hr) hfl (by first | decide | omega) (by decide) (by omega) (by omega) rfl rfl (Nat.le_of_ble_eq_true rfl) (gd DX9_make_1 5 rfl) ?_
      rw [a4, ed1]
      have k156 : GW z w 11 (gQ z w 25 305 (fun r' h'' => aQ x (qMak V M (nI c) (nI r) (nI q) test) r' h'')) 0 0 157 [(0, .ref x), (1, .int (nI c)), (2, .int (nI r)), (3, .int (nI q)), (4, .int test), (5, .int (b1 (c = 2 ∨ c = 4))), (6, .ref a), (7, .ref b), (8, .int (nI (mkW c (wt (vPR V r)) (wt (vPR V q))))), (9, .int (nI d1))] [.int (nI D)] h := by
        refine g_istore (lv' := [(0, _), (1, _), (2, _), (3, _), (4, _), (5, _), (6, _), (7, _), (8, _), (9, _), (10, _)]) C (gd DX9_make_1 19 rfl) [1, 2, 3, 4, 5, 6, 7, 8, 9, 10, 0] (by decide) rfl ?_
        refine g_aload_n C (gd DX9_make_1 20 rfl) 0 rfl rfl ?_
        refine g_getr (ci := 9) (k := 6) C rfl (by decide) rfl lf_TestJudge_36 hx.1 hx.2.2.2.1.1 (gd DX9_make_1 21 rfl) ?_
        refine g_geti (ci := 8) (k := 2) C rfl (by decide) rfl lf_TestJudge_125 hx.2.2.2.1.2.1 (gd DX9_make_1 22 rfl) ?_
        rw [w2]
        refine g_bipush (v := 8) C (gd DX9_make_1 23 rfl) (by decide) ?_
        refine g_icmp_ge C 184 (gd DX9_make_1 24 rfl) (by decide) (fun c168 => ?_) (fun c168 => ?_)
        · have e8 : vNp V = 8 := by
            have := (nI_leI (a := 8) (b := vNp V) (by omega) (by omega)).mp c168
            omega
          exact k184 _ _ _ ht (Or.inl e8)
        · have n8 : vNp V ≠ 8 := fun e => c168 (by rw [e]; decide)
          refine g_iload C (gd DX9_make_1 25 rfl) 8 rfl ?_
          refine g_iconst (v := 5) C (gd DX9_make_1 26 rfl) (by decide) ?_
          refine g_icmp_gt C 184 (gd DX9_make_1 27 rfl) (by decide) (fun c174 => ?_) (fun c174 => ?_)
          · have e5 : 5 < mkW c (wt (vPR V r)) (wt (vPR V q)) := (nI_ltI (a := 5) (by omega) (by omega)).mp c174
            exact k184 _ _ _ ht (Or.inr (Or.inl (by rw [eW2]; exact e5)))
          · have n5 : ¬ 5 < mkW c (wt (vPR V r)) (wt (vPR V q)) := fun e => c174 (nI_lt e (by omega))
            refine g_iload C (gd DX9_make_1 28 rfl) 10 rfl ?_
            refine g_bipush (v := 6) C (gd DX9_make_1 29 rfl) (by decide) ?_
            refine g_icmp_le C 190 (gd DX9_make_1 30 rfl) (by decide) (fun c181 => ?_) (fun c181 => ?_)
            · have l6 : D ≤ 6 := (nI_leI (a := D) (b := 6) (by omega) (by omega)).mp c181
              refine k190 _ _ _ ht (fun e => ?_)
              rcases e with e | e | e
              · exact n8 e
              · exact n5 (by rw [← eW2]; exact e)
              · have := (nI_eq (a := D) (b := 7) (by omega) (by omega)).mp (eD.symm.trans e)
                omega
            · have l7 : D = 7 := by
                have : ¬ D ≤ 6 := fun e => c181 (nI_le (a := D) (b := 6) e (by omega))
                omega
              exact k184 _ _ _ ht (Or.inr (Or.inr (by rw [eD, l7]; rfl)))
      by_cases al : c = 2 ∨ c = 4
      · have e1 : 1 + d1 = D := by rw [← hDn, if_pos al]
        rw [b1_t al] at k156 ⊢
        refine g_istore (lv' := [(0, _), (1, _), (2, _), (3, _), (4, _), (5, _), (6, _), (7, _), (8, _), (9, _)]) C (gd DX9_make_1 6 rfl) [1, 2, 3, 4, 5, 6, 7, 8, 9, 0] (by decide) rfl ?_
        refine g_iconst (v := 1) C (gd DX9_make_1 7 rfl) (by decide) ?_
        refine g_iload C (gd DX9_make_1 8 rfl) 5 rfl ?_
        refine g_if_eq C 143 (gd DX9_make_1 9 rfl) (by decide) (fun c135 => ?_) (fun c135 => ?_)
        · exact absurd c135 (by decide)
        · refine g_iload C (gd DX9_make_1 10 rfl) 9 rfl ?_
          refine g_goto (tgt := 156) C (gd DX9_make_1 11 rfl) (by decide) ?_
          refine g_iadd C (gd DX9_make_1 18 rfl) ?_
          rw [show 1 + nI d1 = nI D from (nx_add (a := 1) rfl rfl).trans (by rw [e1])]
          exact k156
      · have e1 : 1 + (if d1 < d2 then d2 else d1) = D := by rw [← hDn, if_neg al]
        rw [b1_f al] at k156 ⊢
        refine g_istore (lv' := [(0, _), (1, _), (2, _), (3, _), (4, _), (5, _), (6, _), (7, _), (8, _), (9, _)]) C (gd DX9_make_1 6 rfl) [1, 2, 3, 4, 5, 6, 7, 8, 9, 0] (by decide) rfl ?_
        refine g_iconst (v := 1) C (gd DX9_make_1 7 rfl) (by decide) ?_
        refine g_iload C (gd DX9_make_1 8 rfl) 5 rfl ?_
        refine g_if_eq C 143 (gd DX9_make_1 9 rfl) (by decide) (fun c135 => ?_) (fun c135 => ?_)
        · refine g_iload C (gd DX9_make_1 12 rfl) 9 rfl ?_
          refine g_aload_n C (gd DX9_make_1 13 rfl) 0 rfl rfl ?_
          refine g_getr (ci := 9) (k := 6) C rfl (by decide) rfl lf_TestJudge_36 hx.1 hx.2.2.2.1.1 (gd DX9_make_1 14 rfl) ?_
          refine g_iload_n C (gd DX9_make_1 15 rfl) 3 rfl rfl ?_
          refine g_cV1 (ci := 8) C [_] mX8_layer lm_TestJudge_274 (by exact hx.2.2.2.1.2.1) rfl rfl (e_w_layer hx.2.2.2.1.2 hnp w2 hq) hfl (by first | decide | omega) (by decide) (by omega) (by omega) rfl rfl (Nat.le_of_ble_eq_true rfl) (gd DX9_make_1 16 rfl) ?_
          rw [b4, ed2]
          refine g_max C lm_TestJudge_277 (by omega) (by omega) (by omega) (Nat.le_of_ble_eq_true rfl) (gd DX9_make_1 17 rfl) ?_
          rw [show (if nI d1 < nI d2 then nI d2 else nI d1) = nI (if d1 < d2 then d2 else d1) by
            by_cases l : d1 < d2
            · rw [if_pos l, if_pos (nI_lt l (by omega))]
            · rw [if_neg l, if_neg (fun e => l ((nI_ltI (by omega) (by omega)).mp e))]]
          refine g_iadd C (gd DX9_make_1 18 rfl) ?_
          rw [show 1 + nI (if d1 < d2 then d2 else d1) = nI D from (nx_add (a := 1) rfl rfl).trans (by rw [e1])]
          exact k156
        · exact absurd rfl c135
    by_cases al : c = 2 ∨ c = 4
    · have eW : mkW c (wt (vPR V r)) (wt (vPR V q)) = wt (vPR V r) := if_pos al
      rw [b1_t al, eW] at k120
      rw [b1_t al]
      refine g_astore (lv' := [(0, _), (1, _), (2, _), (3, _), (4, _), (5, _), (6, _), (7, _)]) C (gd DX9_make_0 50 rfl) [1, 2, 3, 4, 5, 6, 7, 0] (by decide) rfl ?_
      refine g_iload C (gd DX9_make_0 51 rfl) 5 rfl ?_
      refine g_if_eq C 109 (gd DX9_make_0 52 rfl) (by decide) (fun c98 => ?_) (fun c98 => ?_)
      · exact absurd c98 (by decide)
      · refine g_aload C (gd DX9_make_0 53 rfl) 6 rfl ?_
        refine g_geti (ci := 2) (k := 0) C rfl (by decide) rfl lf_TestJudge_161 a3.2.2.1 (gd DX9_make_0 54 rfl) ?_
        rw [a3.2.2.2.1]
        refine g_goto (tgt := 120) C (gd DX9_make_0 55 rfl) (by decide) ?_
        exact k120
    · have eW : mkW c (wt (vPR V r)) (wt (vPR V q)) = wt (vPR V r) + wt (vPR V q) := if_neg al
      rw [b1_f al, eW] at k120
      rw [b1_f al]
      refine g_astore (lv' := [(0, _), (1, _), (2, _), (3, _), (4, _), (5, _), (6, _), (7, _)]) C (gd DX9_make_0 50 rfl) [1, 2, 3, 4, 5, 6, 7, 0] (by decide) rfl ?_
      refine g_iload C (gd DX9_make_0 51 rfl) 5 rfl ?_
      refine g_if_eq C 109 (gd DX9_make_0 52 rfl) (by decide) (fun c98 => ?_) (fun c98 => ?_)
      · refine g_aload C (gd DX9_make_0 56 rfl) 6 rfl ?_
        refine g_geti (ci := 2) (k := 0) C rfl (by decide) rfl lf_TestJudge_161 a3.2.2.1 (gd DX9_make_0 57 rfl) ?_
        refine g_aload C (gd DX9_make_0 58 rfl) 7 rfl ?_
        refine g_geti (ci := 2) (k := 0) C rfl (by decide) rfl lf_TestJudge_161 b3.2.2.1 (gd DX9_make_0 59 rfl) ?_
        rw [a3.2.2.2.1, b3.2.2.2.1]
        refine g_iadd C (gd DX9_make_1 0 rfl) ?_
        rw [show nI (wt (vPR V r)) + nI (wt (vPR V q)) = nI (wt (vPR V r) + wt (vPR V q)) from nx_add rfl rfl]
        exact k120
      · exact absurd rfl c98
  have k59 : (c ≤ 2 ∨ inP (vNt V) test) → GW z w 11 (gQ z w 25 305 (fun r' h'' => aQ x (qMak V M (nI c) (nI r) (nI q) test) r' h'')) 0 0 59 [(0, .ref x), (1, .int (nI c)), (2, .int (nI r)), (3, .int (nI q)), (4, .int test)] [] h := by
    intro ht
    have k := k74 ht
    refine g_iload_n C (gd DX9_make_0 31 rfl) 1 rfl rfl ?_
    refine g_iconst (v := 2) C (gd DX9_make_0 32 rfl) (by decide) ?_
    refine g_icmp_eq C 69 (gd DX9_make_0 33 rfl) (by decide) (fun c61 => ?_) (fun c61 => ?_)
    · have e2 : c = 2 := (nI_eq (b := 2) (by omega) (by omega)).mp c61
      rw [b1_t (Or.inl e2)] at k
      refine g_iconst (v := 1) C (gd DX9_make_0 37 rfl) (by decide) ?_
      refine g_goto (tgt := 74) C (gd DX9_make_0 38 rfl) (by decide) ?_
      exact k
    · have n2 : c ≠ 2 := fun e => c61 (by rw [e]; rfl)
      refine g_iload_n C (gd DX9_make_0 34 rfl) 1 rfl rfl ?_
      refine g_iconst (v := 4) C (gd DX9_make_0 35 rfl) (by decide) ?_
      refine g_icmp_ne C 73 (gd DX9_make_0 36 rfl) (by decide) (fun c66 => ?_) (fun c66 => ?_)
      · have n4 : c ≠ 4 := fun e => c66 (by rw [e]; rfl)
        rw [b1_f (show ¬ (c = 2 ∨ c = 4) by omega)] at k
        refine g_iconst (v := 0) C (gd DX9_make_0 39 rfl) (by decide) ?_
        exact k
      · have e4 : c = 4 := (nI_eq (b := 4) (by omega) (by omega)).mp (by first | exact c66 | exact Decidable.of_not_not c66)
        rw [b1_t (Or.inr e4)] at k
        refine g_iconst (v := 1) C (gd DX9_make_0 37 rfl) (by decide) ?_
        refine g_goto (tgt := 74) C (gd DX9_make_0 38 rfl) (by decide) ?_
        exact k
  refine g_iload_n C (gd DX9_make_0 17 rfl) 1 rfl rfl ?_
  refine g_iconst (v := 3) C (gd DX9_make_0 18 rfl) (by decide) ?_
  refine g_icmp_lt C 59 (gd DX9_make_0 19 rfl) (by decide) (fun c33 => ?_) (fun c33 => ?_)
  · exact k59 (Or.inl (by have := (nI_ltI (a := c) (b := 3) (by omega) (by omega)).mp c33; omega))
  have c3 : ¬ c ≤ 2 := fun e => c33 (nI_lt (a := c) (b := 3) (by omega) (by omega))
  refine g_iload C (gd DX9_make_0 20 rfl) 4 rfl ?_
  refine g_if_lt C 53 (gd DX9_make_0 21 rfl) (by decide) (fun c38 => ?_) (fun c38 => ?_)
  · exact k53 (fun e => by rcases e.2 with e | e; exact c3 e; exact ((in_np (by omega)).mp e).1 c38)
  refine g_iload C (gd DX9_make_0 22 rfl) 4 rfl ?_
  refine g_aload_n C (gd DX9_make_0 23 rfl) 0 rfl rfl ?_
  refine g_getr (ci := 9) (k := 6) C rfl (by decide) rfl lf_TestJudge_36 hx.1 hx.2.2.2.1.1 (gd DX9_make_0 24 rfl) ?_
  refine g_geti (ci := 8) (k := 0) C rfl (by decide) rfl lf_TestJudge_131 hx.2.2.2.1.2.1 (gd DX9_make_0 25 rfl) ?_
  rw [w0]
  refine g_icmp_lt C 59 (gd DX9_make_0 26 rfl) (by decide) (fun c50 => ?_) (fun c50 => ?_)
  · exact k59 (Or.inr ((in_np (by omega)).mpr ⟨c38, c50⟩))
  · exact k53 (fun e => by rcases e.2 with e | e; exact c3 e; exact c50 ((in_np (by omega)).mp e).2)
end MX
