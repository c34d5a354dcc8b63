/-! the class's Reader: readLet, readZero -/
/-- pieces that a line makes at most -/
def jL (j : Nat) : pLz → Nat
  | .inl x => 4 * (x.2 - j) + 55
  | .inr x => 4 * (x.1 - j)
def pLet (tx : Nat → Nat) (n j : Nat) (S : pS) : Option pLz :=
  if S.1.2.2.1 = 8 then some (pBl (cdT tx n) 4 j)
  else if cdT tx n (j + 1) ≠ 2 then some (pBl (cdT tx n) 2 (j + 1))
  else if pTk S.1.1 S.1.2.1 S.1.2.2.1 S.2.1 (wdT tx n (j + 1)) then some (pBl (cdT tx n) 3 (j + 1))
  else if cdT tx n (j + 2) ≠ 61 then some (pBl (cdT tx n) 2 (j + 2))
  else pAs (pz (envT tx n S.1.1 S.1.2.1 S.1.2.2.1 S.2.1 S.2.2.1) 5000 4 0 (j + 3) (0, rPlain 0)) (fun j1 a => if cdT tx n j1 ≠ 59 then some (pBl (cdT tx n) 2 j1) else if 5 < a.1 then some (.inl (5, j1)) else some (.inr (j1 + 1, ((S.1.1, S.1.2.1, S.1.2.2.1 + 1, S.1.2.2.2), updA S.2.1 (6 + S.1.2.2.1) (wdT tx n (j + 1)), updA S.2.2.1 S.1.2.2.1 a, S.2.2.2))))
def pZer (tx : Nat → Nat) (n j : Nat) (S : pS) : Option pLz :=
  if S.1.2.2.2 = 2 then some (pBl (cdT tx n) 4 j)
  else pAs (pz (envT tx n S.1.1 S.1.2.1 S.1.2.2.1 S.2.1 S.2.2.1) 5000 4 0 (j + 1) (0, rPlain 0)) (fun j1 a => if cdT tx n j1 ≠ 59 then some (pBl (cdT tx n) 2 j1) else if 2 < fsP S.2.2.2 S.1.2.2.2 + a.1 then some (.inl (5, j1)) else some (.inr (j1 + 1, ((S.1.1, S.1.2.1, S.1.2.2.1, S.1.2.2.2 + 1), S.2.1, S.2.2.1, updA S.2.2.2 S.1.2.2.2 a))))
theorem lsC.bd {U W T N : Nat} {h : HS} {tx : Nat → Nat} {n c j k : Nat} (hq : cQ U W T N h) (ct : cT T h tx n c j) (hk : k ≠ 0 ∧ k < 10) : lsC U W T N h tx n c (.inl (k, j)) (sI (sI h U 1 (nI k)) U 2 (nI (plT tx n j))) := (bdF.mk hq ct (k := k) hk).l
theorem lsC.ne {U W T N : Nat} {h h1 : HS} {tx : Nat → Nat} {n c k j : Nat} (a : lsC U W T N h tx n c (pBl (cdT tx n) k j) h1) : hI h1 U 1 ≠ 0 := a.2.2.2.2
section L6
variable {w : gD} {U W T N : Nat} {h : HS} {tx : Nat → Nat} {n c j : Nat} {S : pS}
theorem e_r_let (L : cLn U W T N h tx n c j S) (hj : j < c) (ed : cdT tx n j = 12468) {r : pLz} (hz : pLet tx n j S = some r) {K : Nat} (hKb : jL j r ≤ K) : Ev w 18 (5 * K) (61 * K) yX3_readLet cX3_readLet 3 none [.ref U] h (fun r' h' => r' = none ∧ lsC U W T N h tx n c r h') := by
  refine g_start (by decide) (Nat.le_of_ble_eq_true rfl) [(0, _)] rfl (fun z hfl C => ?_)
  have hq := L.1.1
  have ct := L.1.2.1
  have h0 := L.1.2.2.1
  have c5 : c ≤ 501 := ct.1.2.1.2
  have hj1 : j + 1 < c := ct.hc j hj (by omega)
  obtain ⟨⟨n1, n2, n3⟩, ⟨n4, n5, n6⟩, n7, n8, n9⟩ := id L.1.2.2.2
  have lt1 := cd_lt (tx := tx) (n := n) (j + 1)
  unfold pLet at hz
  have k89 : ∀ g wv p, lsC U W T N h tx n c r g → hI g U 1 ≠ 0 → hK g p = 3 → GW z w 3 (gQ z w (5 * K) (61 * K) (fun r' h'' => r' = none ∧ lsC U W T N h tx n c r h'')) (5 * K) (61 * K) 89 [(0, .ref U), (1, .int wv), (2, .ref p)] [] g := by
    intro g wv p ls g1 kp
    rcases r with x | x
    rotate_left
    · exact absurd ls.2.1.2.2.1 g1
    have hqg : cQ U W T N g := hq.l ls.1
    refine g_aload_n C (gd DX3_readLet_0 47 rfl) 0 rfl rfl ?_
    refine g_aload_n C (gd DX3_readLet_0 48 rfl) 2 rfl rfl ?_
    refine g_geti (ci := 2) (k := 0) C rfl (by decide) rfl lf_TestJudge_Reader_93 kp (gd DX3_readLet_0 49 rfl) ?_
    refine g_iconst (v := 5) C (gd DX3_readLet_0 50 rfl) (by decide) ?_
    refine g_cV0 (v := .null) (ci := 3) C [_, _] mX3_endLine lm_TestJudge_Reader_66 (by exact hqg.1.1) rfl rfl (e_r_endLine1 hqg g1 _ _) hfl (by first | decide | omega) (by decide) (by omega) (by omega) rfl rfl (Nat.le_of_ble_eq_true rfl) (gd DX3_readLet_0 51 rfl) ?_
    refine g_aload_n C (gd DX3_readLet_0 52 rfl) 0 rfl rfl ?_
    refine g_geti (ci := 3) (k := 1) C rfl (by decide) rfl lf_TestJudge_Reader_18 hqg.1.1 (gd DX3_readLet_0 53 rfl) ?_
    refine g_if_ne C 137 (gd DX3_readLet_0 54 rfl) (by decide) (fun c102 => ?_) (fun c102 => ?_)
    · exact g_vret C (by omega) (by omega) ⟨rfl, ls⟩ (gd DX3_readLet_1 12 rfl)
    · exact absurd (by first | exact c102 | exact Decidable.of_not_not c102) g1
  refine g_aload_n C (gd DX3_readLet_0 0 rfl) 0 rfl rfl ?_
  refine g_getr (ci := 3) (k := 0) C rfl (by decide) rfl lf_TestJudge_Reader_12 hq.1.1 hq.1.2.1 (gd DX3_readLet_0 1 rfl) ?_
  refine g_geti (ci := 8) (k := 2) C rfl (by decide) rfl lf_TestJudge_Reader_83 hq.2.2.2.1.1 (gd DX3_readLet_0 2 rfl) ?_
  rw [n6]
  refine g_bipush (v := 8) C (gd DX3_readLet_0 3 rfl) (by decide) ?_
  refine g_icmp_lt C 18 (gd DX3_readLet_0 4 rfl) (by decide) (fun c9 => ?_) (fun c9 => ?_)
  rotate_left
  · have e8 : S.1.2.2.1 = 8 := by
      by_cases q : S.1.2.2.1 = 8
      · exact q
      · exact absurd c9 (fun q2 => q2 (nI_lt (a := S.1.2.2.1) (b := 8) (by omega) (by omega)))
    rw [if_pos e8] at hz
    cases Option.some.inj hz
    refine g_aload_n C (gd DX3_readLet_0 5 rfl) 0 rfl rfl ?_
    refine g_iconst (v := 4) C (gd DX3_readLet_0 6 rfl) (by decide) ?_
    refine g_cV0 (v := .null) (ci := 3) C [_] mX3_fail lm_TestJudge_Reader_55 (by exact hq.1.1) rfl rfl (e_r_fail hq ct h0 (k := 4) (by omega)) hfl (by first | decide | omega) (by decide) (by omega) (by omega) rfl rfl (Nat.le_of_ble_eq_true rfl) (gd DX3_readLet_0 7 rfl) ?_
    exact g_vret C (by omega) (by omega) ⟨rfl, lsC.f2 hq ct ⟨by omega, by omega⟩ (by omega)⟩ (gd DX3_readLet_0 8 rfl)
  have e8 : S.1.2.2.1 ≠ 8 := fun q => by rw [q] at c9; exact absurd c9 (by decide)
  rw [if_neg e8] at hz
  obtain ⟨fr1, L1⟩ := L.close
  have hq1 := L1.1.1
  refine g_aload_n C (gd DX3_readLet_0 9 rfl) 0 rfl rfl ?_
  refine g_iconst (v := 1) C (gd DX3_readLet_0 10 rfl) (by decide) ?_
  refine g_putz (ci := 3) (k := 5) C rfl (by decide) rfl lf_TestJudge_Reader_29 hq1.1.1 (Or.inl rfl) rfl (by decide) (gd DX3_readLet_0 11 rfl) ?_
  refine g_aload_n C (gd DX3_readLet_0 12 rfl) 0 rfl rfl ?_
  refine g_getr (ci := 3) (k := 3) C rfl (by decide) rfl lf_TestJudge_Reader_33 hq1.1.1 hq1.1.2.2.1 (gd DX3_readLet_0 13 rfl) ?_
  refine g_callV (ci := 7) C [] mX7_advance lm_TestJudge_Reader_60 (by exact hq1.2.2.1.1) rfl rfl (e_k_adv hq1.2.2.1 L1.1.2.1 hj1) hfl (by first | decide | omega) (by decide) (by omega) (by omega) rfl rfl (Nat.le_of_ble_eq_true rfl) (gd DX3_readLet_0 14 rfl) (fun r g2 hp => ?_)
  obtain ⟨rfl, a1, a2⟩ := hp
  show GW z w 3 _ _ _ _ _ [] _
  have L2 := L1.t a1 a2
  have fr2 := fr1.tr (a1.l (U := U) (W := W) (N := N))
  have hq2 := L2.1.1
  by_cases e2 : cdT tx n (j + 1) = 2
  rotate_left
  · rw [if_pos e2] at hz
    cases Option.some.inj hz
    refine g_aload_n C (gd DX3_readLet_0 15 rfl) 0 rfl rfl ?_
    refine g_getr (ci := 3) (k := 3) C rfl (by decide) rfl lf_TestJudge_Reader_33 hq2.1.1 hq2.1.2.2.1 (gd DX3_readLet_0 16 rfl) ?_
    refine g_geti (ci := 7) (k := 2) C rfl (by decide) rfl lf_TestJudge_Reader_76 hq2.2.2.1.1 (gd DX3_readLet_0 17 rfl) ?_
    refine g_istore_n (lv' := [(0, _), (1, _)]) C (gd DX3_readLet_0 18 rfl) [1, 0] rfl (by decide) rfl ?_
    refine g_aload_n C (gd DX3_readLet_0 19 rfl) 0 rfl rfl ?_
    refine g_getr (ci := 3) (k := 3) C rfl (by decide) rfl lf_TestJudge_Reader_33 hq2.1.1 hq2.1.2.2.1 (gd DX3_readLet_0 20 rfl) ?_
    refine g_geti (ci := 7) (k := 1) C rfl (by decide) rfl lf_TestJudge_Reader_42 hq2.2.2.1.1 (gd DX3_readLet_0 21 rfl) ?_
    rw [a2.2.2.1]
    refine g_iconst (v := 2) C (gd DX3_readLet_0 22 rfl) (by decide) ?_
    refine g_icmp_eq C 55 (gd DX3_readLet_0 23 rfl) (by decide) (fun c46 => ?_) (fun c46 => ?_)
    · exact absurd ((nI_eq (b := 2) (by omega) (by omega)).mp (by first | exact c46 | exact Decidable.of_not_not c46)) e2
    refine g_aload_n C (gd DX3_readLet_0 24 rfl) 0 rfl rfl ?_
    refine g_iconst (v := 2) C (gd DX3_readLet_0 25 rfl) (by decide) ?_
    refine g_cV0 (v := .null) (ci := 3) C [_] mX3_fail lm_TestJudge_Reader_55 (by exact hq2.1.1) rfl rfl (e_r_fail hq2 a2 L2.1.2.2.1 (k := 2) (by omega)) hfl (by first | decide | omega) (by decide) (by omega) (by omega) rfl rfl (Nat.le_of_ble_eq_true rfl) (gd DX3_readLet_0 26 rfl) ?_
    exact g_vret C (by omega) (by omega) ⟨rfl, lsC.pre fr2 (lsC.f2 hq2 a2 ⟨by omega, by omega⟩ (by omega))⟩ (gd DX3_readLet_0 27 rfl)
  rw [if_neg (fun q => q e2)] at hz
  have hj2 := ct.hc (j + 1) hj1 (by omega)
  refine g_aload_n C (gd DX3_readLet_0 15 rfl) 0 rfl rfl ?_
  refine g_getr (ci := 3) (k := 3) C rfl (by decide) rfl lf_TestJudge_Reader_33 hq2.1.1 hq2.1.2.2.1 (gd DX3_readLet_0 16 rfl) ?_
  refine g_geti (ci := 7) (k := 2) C rfl (by decide) rfl lf_TestJudge_Reader_76 hq2.2.2.1.1 (gd DX3_readLet_0 17 rfl) ?_
  rw [a2.2.2.2.2 e2]
  refine g_istore_n (lv' := [(0, _), (1, _)]) C (gd DX3_readLet_0 18 rfl) [1, 0] rfl (by decide) rfl ?_
  refine g_aload_n C (gd DX3_readLet_0 19 rfl) 0 rfl rfl ?_
  refine g_getr (ci := 3) (k := 3) C rfl (by decide) rfl lf_TestJudge_Reader_33 hq2.1.1 hq2.1.2.2.1 (gd DX3_readLet_0 20 rfl) ?_
  refine g_geti (ci := 7) (k := 1) C rfl (by decide) rfl lf_TestJudge_Reader_42 hq2.2.2.1.1 (gd DX3_readLet_0 21 rfl) ?_
  rw [a2.2.2.1, e2]
  refine g_iconst (v := 2) C (gd DX3_readLet_0 22 rfl) (by decide) ?_
  refine g_icmp_eq C 55 (gd DX3_readLet_0 23 rfl) (by decide) (fun c46 => ?_) (fun c46 => ?_)
  rotate_left
  · exact absurd rfl c46
  refine g_aload_n C (gd DX3_readLet_0 28 rfl) 0 rfl rfl ?_
  refine g_iload_n C (gd DX3_readLet_0 29 rfl) 1 rfl rfl ?_
  refine g_cV1 (ci := 3) C [_] mX3_slotOf lm_TestJudge_Reader_79 (by exact hq2.1.1) rfl rfl (e_r_slotOf hq2 L2.1.2.2.2 (wd_pos _ e2) (wd_lt _ e2)) hfl (by first | decide | omega) (by decide) (by omega) (by omega) rfl rfl (Nat.le_of_ble_eq_true rfl) (gd DX3_readLet_0 30 rfl) ?_
  cases es : slN S.1.1 S.1.2.1 S.1.2.2.1 S.2.1 (wdT tx n (j + 1)) with
  | some s =>
    have tk : pTk S.1.1 S.1.2.1 S.1.2.2.1 S.2.1 (wdT tx n (j + 1)) := fun q => by rw [slN_no.mpr q] at es; cases es
    have u := (slN_some n1 n2 es).1
    rw [if_pos tk] at hz
    cases Option.some.inj hz
    show GW z w 3 _ _ _ 60 _ [.int (nI s)] _
    refine g_iconst (v := -1) C (gd DX3_readLet_0 31 rfl) (by decide) ?_
    refine g_icmp_eq C 70 (gd DX3_readLet_0 32 rfl) (by decide) (fun c61 => ?_) (fun c61 => ?_)
    · exact absurd (by first | exact c61 | exact Decidable.of_not_not c61) (nI_neg1 (by rcases u with u | u | u <;> omega))
    refine g_aload_n C (gd DX3_readLet_0 33 rfl) 0 rfl rfl ?_
    refine g_iconst (v := 3) C (gd DX3_readLet_0 34 rfl) (by decide) ?_
    refine g_cV0 (v := .null) (ci := 3) C [_] mX3_fail lm_TestJudge_Reader_55 (by exact hq2.1.1) rfl rfl (e_r_fail hq2 a2 L2.1.2.2.1 (k := 3) (by omega)) hfl (by first | decide | omega) (by decide) (by omega) (by omega) rfl rfl (Nat.le_of_ble_eq_true rfl) (gd DX3_readLet_0 35 rfl) ?_
    exact g_vret C (by omega) (by omega) ⟨rfl, lsC.pre fr2 (lsC.f2 hq2 a2 ⟨by omega, by omega⟩ (by omega))⟩ (gd DX3_readLet_0 36 rfl)
  | none =>
    have tk : ¬ pTk S.1.1 S.1.2.1 S.1.2.2.1 S.2.1 (wdT tx n (j + 1)) := fun q => q (slN_no.mp es)
    rw [if_neg tk] at hz
    show GW z w 3 _ _ _ 60 _ [.int (-1)] _
    refine g_iconst (v := -1) C (gd DX3_readLet_0 31 rfl) (by decide) ?_
    refine g_icmp_eq C 70 (gd DX3_readLet_0 32 rfl) (by decide) (fun c61 => ?_) (fun c61 => ?_)
    rotate_left
    · exact absurd rfl c61
    refine g_aload_n C (gd DX3_readLet_0 37 rfl) 0 rfl rfl ?_
    refine g_getr (ci := 3) (k := 3) C rfl (by decide) rfl lf_TestJudge_Reader_33 hq2.1.1 hq2.1.2.2.1 (gd DX3_readLet_0 38 rfl) ?_
    refine g_callV (ci := 7) C [] mX7_advance lm_TestJudge_Reader_60 (by exact hq2.2.2.1.1) rfl rfl (e_k_adv hq2.2.2.1 a2 hj2) hfl (by first | decide | omega) (by decide) (by omega) (by omega) rfl rfl (Nat.le_of_ble_eq_true rfl) (gd DX3_readLet_0 39 rfl) (fun r g3 hp => ?_)
    obtain ⟨rfl, b1, b2⟩ := hp
    show GW z w 3 _ _ _ _ _ [] _
    have L3 := L2.t b1 b2
    have fr3 := fr2.tr (b1.l (U := U) (W := W) (N := N))
    have hq3 := L3.1.1
    refine g_aload_n C (gd DX3_readLet_0 40 rfl) 0 rfl rfl ?_
    refine g_bipush (v := 61) C (gd DX3_readLet_0 41 rfl) (by decide) ?_
    refine g_callV (ci := 3) C [_] mX3_expect lm_TestJudge_Reader_86 (by exact hq3.1.1) rfl rfl (e_r_expect hq3 b2 L3.1.2.2.1 (fun q => ct.hc (j + 1 + 1) hj2 q) (k := 61) (by decide) (by decide)) hfl (by first | decide | omega) (by decide) (by omega) (by omega) rfl rfl (Nat.le_of_ble_eq_true rfl) (gd DX3_readLet_0 42 rfl) (fun r g4 hp => ?_)
    obtain ⟨rfl, hp⟩ := hp
    show GW z w 3 _ _ _ _ _ [] _
    rcases hp with ⟨e61, d1, d2⟩ | ⟨e61, rfl⟩
    rotate_left
    · rw [if_pos e61] at hz
      cases Option.some.inj hz
      have ls := lsC.f1 (W := W) (N := N) (k := 2) hq3 b2 ⟨by omega, by omega⟩
      have ne := lsC.ne ls
      have hq4 : cQ U W T N _ := hq3.l ls.1
      have hK' : 55 ≤ K := by have := hKb; unfold jL pBl at this; dsimp only at this; omega
      refine g_aload_n C (gd DX3_readLet_0 43 rfl) 0 rfl rfl ?_
      refine g_iconst (v := 0) C (gd DX3_readLet_0 44 rfl) (by decide) ?_
      refine g_callV (ci := 3) C [_] mX3_readSum lm_TestJudge_Reader_89 (by exact hq4.1.1) rfl rfl (e_r_sum1 hq4 ne _) hfl (by first | decide | omega) (by decide) (by omega) (by omega) rfl rfl (Nat.le_of_ble_eq_true rfl) (gd DX3_readLet_0 45 rfl) (fun r h2 hp => ?_)
      obtain ⟨ex, p, R, rfl, pw⟩ := hp
      show GW z w 3 _ _ _ _ _ [.ref p] _
      refine g_astore_n (lv' := [(0, _), (1, _), (2, _)]) C (gd DX3_readLet_0 46 rfl) [1, 2, 0] rfl (by decide) rfl ?_
      refine GW.up (by omega) (by omega) (k89 _ _ p (lsC.pre fr3 ?_) ?_ pw.2.2.1.1.1)
      · exact ⟨ls.1.tr (ex.q (U := U) (T := T)).l, ls.2.1.ext hq4 ex, by rw [(ex.2 U hq4.2.2.2.2.1).1]; exact ls.2.2.1, by rw [(ex.2 U hq4.2.2.2.2.1).1]; exact ls.2.2.2.1, by rw [(ex.2 U hq4.2.2.2.2.1).1]; exact ne⟩
      · rw [(ex.2 U hq4.2.2.2.2.1).1]; exact ne
    rw [if_neg (fun q => q e61)] at hz
    have hj3 : j + 3 < c := ct.hc (j + 2) hj2 (by rw [e61]; decide)
    have L4 := L3.t d1 d2
    have fr4 := fr3.tr (d1.l (U := U) (W := W) (N := N))
    have hq4 := L4.1.1
    obtain ⟨r0, hr0, okr⟩ := pz_tot (E := envT tx n S.1.1 S.1.2.1 S.1.2.2.1 S.2.1 S.2.2.1) ct.hc L.1.2.2.2.nm 5000 4 0 (j + 3) (0, rPlain 0) (by omega) hj3 (show 8 * (c - (j + 3)) + 3 < 5000 by omega) (fun q => by omega)
    rw [hr0] at hz
    refine g_aload_n C (gd DX3_readLet_0 43 rfl) 0 rfl rfl ?_
    refine g_iconst (v := 0) C (gd DX3_readLet_0 44 rfl) (by decide) ?_
    rcases r0 with x | ⟨j1, a⟩
    · have er : r = .inl x := (Option.some.inj (show some (Sum.inl x) = some r from hz)).symm
      subst er
      have hK' : 4 * (x.2 - j) + 55 ≤ K := hKb
      refine g_callV (ci := 3) C [_] mX3_readSum lm_TestJudge_Reader_89 (by exact hq4.1.1) rfl rfl ((rc_all 5000).2 5000 (Nat.le_refl _) g4 0 (j + 3) (0, rPlain 0) (.inl x) K L4.1 (by omega) hj3 (by omega) hr0 (show 4 * (x.2 - (j + 3)) + 7 + 12 * (4 - 0) ≤ K by omega)) hfl (by first | decide | omega) (by decide) (by omega) (by omega) rfl rfl (Nat.le_of_ble_eq_true rfl) (gd DX3_readLet_0 45 rfl) (fun r h2 hp => ?_)
      obtain ⟨bd, p, m, R, rfl, pw, -⟩ := hp
      show GW z w 3 _ _ _ _ _ [.ref p] _
      refine g_astore_n (lv' := [(0, _), (1, _), (2, _)]) C (gd DX3_readLet_0 46 rfl) [1, 2, 0] rfl (by decide) rfl ?_
      exact GW.up (by omega) (by omega) (k89 _ _ p (lsC.pre fr4 (show lsC U W T N g4 tx n c (.inl x) h2 from bd.l)) bd.2.2.2.2 pw.2.2.1.1.1)
    · obtain ⟨x1, x2, x3, x4, x5⟩ := okr
      dsimp only at x1 x2 x4
      change (if cdT tx n j1 ≠ 59 then some (pBl (cdT tx n) 2 j1) else if 5 < a.1 then some (.inl (5, j1)) else some (.inr (j1 + 1, ((S.1.1, S.1.2.1, S.1.2.2.1 + 1, S.1.2.2.2), updA S.2.1 (6 + S.1.2.2.1) (wdT tx n (j + 1)), updA S.2.2.1 S.1.2.2.1 a, S.2.2.2)))) = some r at hz
      have hK' : 4 * (j1 - (j + 3)) + 3 ≤ K := by
        have hK2 := hKb
        by_cases e59 : cdT tx n j1 = 59
        · rw [if_neg (fun q => q e59)] at hz
          by_cases e5 : 5 < a.1
          · rw [if_pos e5] at hz
            cases Option.some.inj hz
            have : 4 * (j1 - j) + 55 ≤ K := hK2
            omega
          · rw [if_neg e5] at hz
            cases Option.some.inj hz
            have : 4 * (j1 + 1 - j) ≤ K := hK2
            omega
        · rw [if_pos e59] at hz
          cases Option.some.inj hz
          have : 4 * (j1 - j) + 55 ≤ K := hK2
          omega
      refine g_callV (ci := 3) C [_] mX3_readSum lm_TestJudge_Reader_89 (by exact hq4.1.1) rfl rfl (rc_top 5000 g4 0 (j + 3) (0, rPlain 0) (.inr (j1, a)) K L4.1 (by omega) hj3 (by omega) hr0 (show 4 * (j1 - (j + 3)) + 3 ≤ K by omega)) hfl (by first | decide | omega) (by decide) (by omega) (by omega) rfl rfl (Nat.le_of_ble_eq_true rfl) (gd DX3_readLet_0 45 rfl) (fun r g5 hp => ?_)
      obtain ⟨⟨qf, ct5, f05, p, rfl, pw⟩, fs⟩ := hp
      have lp0 : hT g4 ≤ p := by
        obtain ⟨_, e', lp⟩ := fs _ rfl
        cases e'
        exact lp
      have lp : W + 5 < p := by
        have := hq4.2.2.2.2.2.2.1
        omega
      dsimp only at ct5 pw
      show GW z w 3 _ _ _ _ _ [.ref p] _
      have L5 := L4.q qf ct5 f05
      have fr5 := fr4.tr (qf.l (W := W) (N := N))
      have hq5 := L5.1.1
      have lta : a.1 < 2 ^ 31 := by rw [if_neg (by omega)] at x5; dsimp only at x5; omega
      refine g_astore_n (lv' := [(0, _), (1, _), (2, _)]) C (gd DX3_readLet_0 46 rfl) [1, 2, 0] rfl (by decide) rfl ?_
      refine g_aload_n C (gd DX3_readLet_0 47 rfl) 0 rfl rfl ?_
      refine g_aload_n C (gd DX3_readLet_0 48 rfl) 2 rfl rfl ?_
      refine g_geti (ci := 2) (k := 0) C rfl (by decide) rfl lf_TestJudge_Reader_93 pw.2.2.1.1.1 (gd DX3_readLet_0 49 rfl) ?_
      rw [pw.1.1]
      refine g_iconst (v := 5) C (gd DX3_readLet_0 50 rfl) (by decide) ?_
      refine g_callV (ci := 3) C [_, _] mX3_endLine lm_TestJudge_Reader_66 (by exact hq5.1.1) rfl rfl (e_r_endLine hq5 ct5 f05 (fun q => ct.hc j1 x2 q) (nI a.1) 5) hfl (by first | decide | omega) (by decide) (by omega) (by omega) rfl rfl (Nat.le_of_ble_eq_true rfl) (gd DX3_readLet_0 51 rfl) (fun r g6 hp => ?_)
      obtain ⟨rfl, hp⟩ := hp
      show GW z w 3 _ _ _ _ _ [] _
      rcases hp with ⟨e59, e5, rfl⟩ | ⟨e59, e5, s1, s2⟩ | ⟨e59, rfl⟩
      · have e5' : 5 < a.1 := (nI_ltI (a := 5) (by omega) lta).mp e5
        rw [if_neg (fun q => q e59), if_pos e5'] at hz
        cases Option.some.inj hz
        have ls := lsC.bd (W := W) (N := N) hq5 ct5 (k := 5) ⟨by omega, by omega⟩
        have ne : hI (sI (sI g5 U 1 (nI 5)) U 2 (nI (plT tx n j1))) U 1 ≠ 0 := ls.2.2.2.2
        refine g_aload_n C (gd DX3_readLet_0 52 rfl) 0 rfl rfl ?_
        refine g_geti (ci := 3) (k := 1) C rfl (by decide) rfl lf_TestJudge_Reader_18 hq5.1.1 (gd DX3_readLet_0 53 rfl) ?_
        refine g_if_ne C 137 (gd DX3_readLet_0 54 rfl) (by decide) (fun c102 => ?_) (fun c102 => ?_)
        · exact g_vret C (by omega) (by omega) ⟨rfl, lsC.pre fr5 ls⟩ (gd DX3_readLet_1 12 rfl)
        · exact absurd (by first | exact c102 | exact Decidable.of_not_not c102) ne
      · have e5' : ¬ 5 < a.1 := fun q => e5 ((nI_ltI (a := 5) (by omega) lta).mpr q)
        rw [if_neg (fun q => q e59), if_neg e5'] at hz
        cases Option.some.inj hz
        have L6 := L5.t s1 s2
        have fr6 := fr5.tr (s1.l (U := U) (W := W) (N := N))
        have pw6 := pw.q hq5.1.1 hq5.2.2.1.1 (s1.q (U := U))
        have hq6 := L6.1.1
        have f06 := L6.1.2.2.1
        have n66 := L6.1.2.2.2.2.1.2.2
        have NW : W ≠ N := fun x => by have q5 := hq6.2.1.1; rw [← x, hq6.2.2.2.1.1] at q5; exact absurd q5 (by decide)
        refine g_aload_n C (gd DX3_readLet_0 52 rfl) 0 rfl rfl ?_
        refine g_geti (ci := 3) (k := 1) C rfl (by decide) rfl lf_TestJudge_Reader_18 hq6.1.1 (gd DX3_readLet_0 53 rfl) ?_
        rw [f06]
        refine g_if_ne C 137 (gd DX3_readLet_0 54 rfl) (by decide) (fun c102 => ?_) (fun c102 => ?_)
        · exact absurd rfl c102
        refine g_aload_n C (gd DX3_readLet_0 55 rfl) 0 rfl rfl ?_
        refine g_getr (ci := 3) (k := 4) C rfl (by decide) rfl lf_TestJudge_Reader_25 hq6.1.1 hq6.1.2.2.2 (gd DX3_readLet_0 56 rfl) ?_
        refine g_bipush (v := 6) C (gd DX3_readLet_0 57 rfl) (by decide) ?_
        refine g_aload_n C (gd DX3_readLet_0 58 rfl) 0 rfl rfl ?_
        refine g_getr (ci := 3) (k := 0) C rfl (by decide) rfl lf_TestJudge_Reader_12 hq6.1.1 hq6.1.2.1 (gd DX3_readLet_0 59 rfl) ?_
        refine g_geti (ci := 8) (k := 2) C rfl (by decide) rfl lf_TestJudge_Reader_83 hq6.2.2.2.1.1 (gd DX3_readLet_1 0 rfl) ?_
        rw [n66]
        refine g_iadd C (gd DX3_readLet_1 1 rfl) ?_
        rw [show 6 + nI S.1.2.2.1 = nI (6 + S.1.2.2.1) from nx_add (a := 6) rfl rfl]
        refine g_iload_n C (gd DX3_readLet_1 2 rfl) 1 rfl rfl ?_
        refine g_isj (j := (6 + S.1.2.2.1)) C hq6.2.1.1 hq6.2.1.2 (by first | decide | omega) rfl (by omega) (gd DX3_readLet_1 3 rfl) ?_
        refine g_aload_n C (gd DX3_readLet_1 4 rfl) 0 rfl rfl ?_
        refine g_getr (ci := 3) (k := 0) C rfl (by decide) rfl lf_TestJudge_Reader_12 hq6.1.1 hq6.1.2.1 (gd DX3_readLet_1 5 rfl) ?_
        refine g_aload_n C (gd DX3_readLet_1 6 rfl) 0 rfl rfl ?_
        refine g_getr (ci := 3) (k := 0) C rfl (by decide) rfl lf_TestJudge_Reader_12 hq6.1.1 hq6.1.2.1 (gd DX3_readLet_1 7 rfl) ?_
        refine g_geti (ci := 8) (k := 2) C rfl (by decide) rfl lf_TestJudge_Reader_83 hq6.2.2.2.1.1 (gd DX3_readLet_1 8 rfl) ?_
        rw [show hI (sI g6 N (6 + S.1.2.2.1) (nI (wdT tx n (j + 1)))) W 2 = nI S.1.2.2.1 by rw [hI_sI, if_neg (fun x => NW x.1)]; exact n66]
        refine g_aload_n C (gd DX3_readLet_1 9 rfl) 2 rfl rfl ?_
        refine g_iconst (v := 0) C (gd DX3_readLet_1 10 rfl) (by decide) ?_
        refine GW.cast rfl rfl (hV_self (W := W)).symm ?_
        refine g_cV0 (v := .null) (ci := 8) C [_, _, _] mX8_insert lm_TestJudge_Reader_98 (by exact hq6.2.2.2.1.1) rfl rfl (e_w_insert (h := sI g6 N (6 + S.1.2.2.1) (nI (wdT tx n (j + 1)))) hq6.2.2.2.1 (by rw [hI_sI, if_neg (fun x => NW x.1)]; exact n66) (by omega) (Nat.le_refl _) pw6.2.2.1.1.1 (fun i hi => by obtain ⟨⟨b, b1, b2⟩, -⟩ := L6.1.2.2.2.2.2.2.2 i hi; exact ⟨b, b1, b2.2.2.1.1.1⟩) _) hfl (by first | decide | omega) (by decide) (by omega) (by omega) rfl rfl (Nat.le_of_ble_eq_true rfl) (gd DX3_readLet_1 11 rfl) ?_
        rw [mvU_n, mvU_n]
        have lq : ∀ i, i < S.1.2.2.1 → hR g6 (W + 1) i ≠ some p := fun i hi => by
          obtain ⟨⟨b, b1, b2⟩, -⟩ := L4.1.2.2.2.2.2.2.2 i hi
          have e6 : hR g6 = hR g5 := congrArg (fun z => z.2.1) s1.1
          have e5 : hR g5 (W + 1) = hR g4 (W + 1) := (qf.2 (W + 1) (by have := hq4.2.2.2.2.2.2.1; omega)).1.2.1
          rw [e6, e5, b1]
          intro q
          cases q
          have := b2.2.1
          omega
        obtain ⟨v1, v2⟩ := cLm.prg L6 (show S.1.2.2.1 < 8 by omega) (wd_lt _ e2) pw6 lp lq (by omega) x4
        exact g_vret C (by omega) (by omega) ⟨rfl, fr6.tr v1, v2⟩ (gd DX3_readLet_1 12 rfl)
      · rw [if_pos e59] at hz
        cases Option.some.inj hz
        have ls := lsC.f1 (W := W) (N := N) (k := 2) hq5 ct5 ⟨by omega, by omega⟩
        have ne := lsC.ne ls
        refine g_aload_n C (gd DX3_readLet_0 52 rfl) 0 rfl rfl ?_
        refine g_geti (ci := 3) (k := 1) C rfl (by decide) rfl lf_TestJudge_Reader_18 hq5.1.1 (gd DX3_readLet_0 53 rfl) ?_
        refine g_if_ne C 137 (gd DX3_readLet_0 54 rfl) (by decide) (fun c102 => ?_) (fun c102 => ?_)
        · exact g_vret C (by omega) (by omega) ⟨rfl, lsC.pre fr5 ls⟩ (gd DX3_readLet_1 12 rfl)
        · exact absurd (by first | exact c102 | exact Decidable.of_not_not c102) ne
end L6
