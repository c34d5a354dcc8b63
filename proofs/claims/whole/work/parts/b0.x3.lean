/-! The class: tabulate, spell, leastAlike -/
theorem tbO.cg {P : kP} {ρ ρ' : Nat → Nat → Int32} (g : ∀ i, i ≤ 4 → ρ' i = ρ i) (t : tbO P ρ) : tbO P ρ' := by
  obtain ⟨v, N, R, o1, o2, o3, o4, o5, o6, o7, o8⟩ := t
  refine ⟨v, N, R, o1, o2, o3, by rw [g 0 (by omega)]; exact o4, fun i q hq => ?_, ?_, ?_, ?_⟩
  · rw [g 1 (by omega), g 2 (by omega), g 3 (by omega)]; exact o5 i q hq
  · rw [g 1 (by omega), g 3 (by omega), g 4 (by omega)]; exact o6
  · rw [g 1 (by omega)]; exact o7
  · rw [g 4 (by omega)]; exact o8
theorem hI_bld {x : Nat} {g : HS} {v : Option Nat} {ρ : Nat → Nat → Int32} {F BH NU SI CA : Nat → Int32} {i : Nat} (hi : i ≤ 10) : hI (hS (x + 17) (tR (x + 36) (sR g (x + 36) 5 v) ρ) F BH NU SI CA) (x + 36 + i) = ρ i := by
  rw [hS_ne (by omega)]
  funext j
  show (if x + 36 ≤ x + 36 + i ∧ x + 36 + i ≤ x + 36 + 10 then ρ (x + 36 + i - (x + 36)) j else _) = ρ i j
  rw [if_pos (by omega), Nat.add_sub_cancel_left]
theorem qKp_bld {x : Nat} {g : HS} {v : Option Nat} {ρ : Nat → Nat → Int32} {F BH NU SI CA : Nat → Int32} : qKp x g (hS (x + 17) (tR (x + 36) (sR g (x + 36) 5 v) ρ) F BH NU SI CA) := by
  refine ⟨rfl, rfl, rfl, fun b k q => ?_, fun b b1 b2 => ?_, fun k _ => ?_, fun b _ _ => rfl⟩
  · show hR (sR g (x + 36) 5 v) b k = hR g b k
    rw [hR_sR, if_neg q]
  · rw [hS_ne (by omega)]
    funext j
    show (if x + 36 ≤ b ∧ b ≤ x + 36 + 10 then _ else hI g b j) = hI g b j
    rw [if_neg (by omega)]
  · rw [hS_ne (by omega)]
    show (if x + 36 ≤ x ∧ x ≤ x + 36 + 10 then _ else hI g x k) = hI g x k
    rw [if_neg (by omega)]
section X3
variable {w : gD} {x W : Nat} {h : HS} {V : aV} {RC : Nat → Nat → Int32}
theorem e_x_tabulate (K : K0 x W h V RC) {p : Nat} (hp : p < vNp V) : Ev w 6 0 0 yX9_tabulate cX9_tabulate 3 none [.ref x, .int (nI p)] h (fun r' h' => r' = none ∧ K0 x W h' V RC ∧ qKp x h h' ∧ tbO (vP1 V (vS V) (vPR V p)) (fun i => hI h' (x + 36 + i))) := by
  refine g_start (by decide) (Nat.le_of_ble_eq_true rfl) [(0, _), (1, _)] rfl (fun z hfl C => ?_)
  have hx := K.1
  obtain ⟨w0, w1, w2, w3, w4⟩ := K.2.2.1.1
  have hV := K.2.1.2.1 (vA V) (Nat.le_refl _)
  have hnp : vNp V ≤ 8 := hV.1
  have hs4 : vS V < 4 := hV.2.1
  obtain ⟨a, a1, a2, a3, a4, a5, -⟩ := K.pc hp
  refine g_aload_n C (gd DX9_tabulate_0 0 rfl) 0 rfl rfl ?_
  refine g_getr (ci := 9) (k := 6) C rfl (by decide) rfl lf_TestJudge_36 hx.1 hx.2.2.2.1.1 (gd DX9_tabulate_0 1 rfl) ?_
  refine g_iload_n C (gd DX9_tabulate_0 2 rfl) 1 rfl rfl ?_
  refine g_cV1 (ci := 8) C [_] mX8_piece lm_TestJudge_158 (by exact hx.2.2.2.1.2.1) rfl rfl (e_w_piece hx.2.2.2.1.2 hnp w2 hp a1) hfl (by first | decide | omega) (by decide) (by omega) (by omega) rfl rfl (Nat.le_of_ble_eq_true rfl) (gd DX9_tabulate_0 3 rfl) ?_
  refine g_astore_n (lv' := [(0, _), (1, _), (2, _)]) C (gd DX9_tabulate_0 4 rfl) [1, 2, 0] rfl (by decide) rfl ?_
  refine g_aload_n C (gd DX9_tabulate_0 5 rfl) 0 rfl rfl ?_
  refine g_getr (ci := 9) (k := 9) C rfl (by decide) rfl lf_TestJudge_57 hx.1 hx.2.2.2.2.2.2.1.1 (gd DX9_tabulate_0 6 rfl) ?_
  refine g_aload_n C (gd DX9_tabulate_0 7 rfl) 2 rfl rfl ?_
  refine g_aload_n C (gd DX9_tabulate_0 8 rfl) 0 rfl rfl ?_
  refine g_getr (ci := 9) (k := 6) C rfl (by decide) rfl lf_TestJudge_36 hx.1 hx.2.2.2.1.1 (gd DX9_tabulate_0 9 rfl) ?_
  refine g_geti (ci := 8) (k := 4) C rfl (by decide) rfl lf_TestJudge_144 hx.2.2.2.1.2.1 (gd DX9_tabulate_0 10 rfl) ?_
  rw [w4]
  refine GW.cast rfl rfl (tR_self (t := x + 36)).symm ?_
  refine g_cV1 (ci := 6) C [_, _] mX6_isOf lm_TestJudge_322 (by exact hx.2.2.2.2.2.2.1.2.1) rfl rfl (e_t_isOf hx.2.2.2.2.2.2.1.2 a (nI (vS V))) hfl (by first | decide | omega) (by decide) (by omega) (by omega) rfl rfl (Nat.le_of_ble_eq_true rfl) (gd DX9_tabulate_0 11 rfl) ?_
  rw [tR_self]
  by_cases c : hR h (x + 36) 5 = some a ∧ hI h (x + 36) 6 = nI (vS V)
  · rw [b1_t (show hR h (x + 36) 5 = some a ∧ (fun i => hI h (x + 36 + i)) 0 6 = nI (vS V) from c)]
    refine g_if_ne C 69 (gd DX9_tabulate_0 12 rfl) (by decide) (fun c24 => ?_) (fun c24 => ?_)
    rotate_left
    · exact absurd c24 (by decide)
    rcases K.2.2.2.2.1 with t | ⟨a', f, t1, t2, t3, t4, t5⟩
    · rw [t] at c; cases c.1
    · cases Option.some.inj (t1.symm.trans c.1)
      have ef : f = vS V := (nI_eq (by omega) (by omega)).mp (t4.symm.trans c.2)
      rw [ef, a2] at t5
      exact g_vret C (by omega) (by omega) ⟨rfl, K, qKp.rf x h, t5⟩ (gd DX9_tabulate_0 33 rfl)
  · rw [b1_f (show ¬ (hR h (x + 36) 5 = some a ∧ (fun i => hI h (x + 36 + i)) 0 6 = nI (vS V)) from c)]
    refine g_if_ne C 69 (gd DX9_tabulate_0 12 rfl) (by decide) (fun c24 => ?_) (fun c24 => ?_)
    · exact absurd rfl c24
    refine g_aload_n C (gd DX9_tabulate_0 13 rfl) 0 rfl rfl ?_
    refine g_getr (ci := 9) (k := 8) C rfl (by decide) rfl lf_TestJudge_50 hx.1 hx.2.2.2.2.2.1.1 (gd DX9_tabulate_0 14 rfl) ?_
    refine g_aload_n C (gd DX9_tabulate_0 15 rfl) 0 rfl rfl ?_
    refine g_getr (ci := 9) (k := 6) C rfl (by decide) rfl lf_TestJudge_36 hx.1 hx.2.2.2.1.1 (gd DX9_tabulate_0 16 rfl) ?_
    refine g_aload_n C (gd DX9_tabulate_0 17 rfl) 0 rfl rfl ?_
    refine g_getr (ci := 9) (k := 6) C rfl (by decide) rfl lf_TestJudge_36 hx.1 hx.2.2.2.1.1 (gd DX9_tabulate_0 18 rfl) ?_
    refine g_geti (ci := 8) (k := 4) C rfl (by decide) rfl lf_TestJudge_144 hx.2.2.2.1.2.1 (gd DX9_tabulate_0 19 rfl) ?_
    rw [w4]
    refine g_aload_n C (gd DX9_tabulate_0 20 rfl) 2 rfl rfl ?_
    refine g_aload_n C (gd DX9_tabulate_0 21 rfl) 0 rfl rfl ?_
    refine g_getr (ci := 9) (k := 11) C rfl (by decide) rfl lf_TestJudge_73 hx.1 hx.2.2.2.2.2.2.2.2.1.1 (gd DX9_tabulate_0 22 rfl) ?_
    refine g_callV (ci := 5) C [_, _, _, _] mX5_begin lm_TestJudge_197 (by exact hx.2.2.2.2.2.1.2.1) rfl rfl (e_x_begin K hV.2.1 a3 K.nothing) hfl (by first | decide | omega) (by decide) (by omega) (by omega) rfl rfl (Nat.le_of_ble_eq_true rfl) (gd DX9_tabulate_0 23 rfl) (fun r g1 hp => ?_)
    obtain ⟨rfl, bg⟩ := hp
    show GW z w 3 _ _ _ _ _ [] _
    obtain ⟨K1, k1⟩ := K.bg hV.2.1 a3.2.1 K.nothing.2.1 bg
    obtain ⟨g, F, BH, NU, SI, CA, rfl, b1, b2, b3, b4⟩ := bg
    have hx1 := K1.1
    have w41 := K1.2.2.1.1.2.2.2.2
    refine g_aload_n C (gd DX9_tabulate_0 24 rfl) 0 rfl rfl ?_
    refine g_getr (ci := 9) (k := 9) C rfl (by decide) rfl lf_TestJudge_57 hx1.1 hx1.2.2.2.2.2.2.1.1 (gd DX9_tabulate_0 25 rfl) ?_
    refine g_aload_n C (gd DX9_tabulate_0 26 rfl) 0 rfl rfl ?_
    refine g_getr (ci := 9) (k := 8) C rfl (by decide) rfl lf_TestJudge_50 hx1.1 hx1.2.2.2.2.2.1.1 (gd DX9_tabulate_0 27 rfl) ?_
    refine g_aload_n C (gd DX9_tabulate_0 28 rfl) 2 rfl rfl ?_
    refine g_aload_n C (gd DX9_tabulate_0 29 rfl) 0 rfl rfl ?_
    refine g_getr (ci := 9) (k := 6) C rfl (by decide) rfl lf_TestJudge_36 hx1.1 hx1.2.2.2.1.1 (gd DX9_tabulate_0 30 rfl) ?_
    refine g_geti (ci := 8) (k := 4) C rfl (by decide) rfl lf_TestJudge_144 hx1.2.2.2.1.2.1 (gd DX9_tabulate_0 31 rfl) ?_
    rw [w41]
    have ss : sSh (x + 17) g := hx1.2.2.2.2.2.1.2
    have ts : tSh (x + 36) g := hx1.2.2.2.2.2.2.1.2
    refine g_callV (ci := 6) C [_, _, _] mX6_build lm_TestJudge_326 (by exact hx1.2.2.2.2.2.2.1.2.1) rfl rfl (e_t_build ss ts (Or.inr (by omega)) b1 (hV.2.2 p ‹_›).1 wt_pl0 rfl b2 b3 a (nI (vS V))) hfl (by first | decide | omega) (by decide) (by omega) (by omega) rfl rfl (Nat.le_of_ble_eq_true rfl) (gd DX9_tabulate_0 32 rfl) (fun r g2 hp => ?_)
    obtain ⟨rfl, L, F', BH', NU', SI', CA', ρ, rfl, e1, e2, e3, e4⟩ := hp
    show GW z w 3 _ _ _ _ _ [] _
    have k2 : qKp x h _ := (qKp_sfr b4).tr (qKp_bld (x := x) (g := g) (v := some a) (ρ := ρ) (F := F') (BH := BH') (NU := NU') (SI := SI') (CA := CA'))
    have tb : tbO (vP1 V (vS V) (vPR V p)) (fun i => hI (hS (x + 17) (tR (x + 36) (sR g (x + 36) 5 (some a)) ρ) F' BH' NU' SI' CA') (x + 36 + i)) := tbO.cg (fun i hi => hI_bld (by omega)) e3
    have h5 : hR (hS (x + 17) (tR (x + 36) (sR g (x + 36) 5 (some a)) ρ) F' BH' NU' SI' CA') (x + 36) 5 = some a := by
      show hR (sR g (x + 36) 5 (some a)) (x + 36) 5 = some a
      rw [hR_sR, if_pos ⟨rfl, rfl⟩]
    have h6 : hI (hS (x + 17) (tR (x + 36) (sR g (x + 36) 5 (some a)) ρ) F' BH' NU' SI' CA') (x + 36) 6 = nI (vS V) := (congrFun (hI_bld (i := 0) (by omega)) 6).trans e4
    have eT : hT g = hT h := k1.1
    have hl : ∀ j, j < 3845 → hL g (x + 35) j = 0 := K1.2.2.2.2.2.2
    have sd : sId (x + 17) (hS (x + 17) (tR (x + 36) (sR g (x + 36) 5 (some a)) ρ) F' BH' NU' SI' CA') := sQ.id (xP_sm (V := V) hs4 K.2.1 a3.2.1 K.nothing.2.1) e1 e2
    have tb2 := tb
    rw [← a2] at tb2
    exact g_vret C (by omega) (by omega) ⟨rfl, K.q k2 (Or.inr ⟨a, vS V, h5, by show a < hT g; omega, hs4, h6, tb2⟩) ⟨sd, hl⟩, k2, tb⟩ (gd DX9_tabulate_0 33 rfl)
/-- the value and status of spell -/
noncomputable def spV (P : kP) (i n : Nat) (f : Nat → Nat) (key : Int64) (k : Int32) : Int32 × Int32 := if k = -1 then (nI n, 0) else if plA (bfs (kSc P) (24 * i)) n f (ntzF (apF P 0 key)) k.toNatClampNeg = -1 then (-1, 5) else (plA (bfs (kSc P) (24 * i)) n f (ntzF (apF P 0 key)) k.toNatClampNeg, 0)
def spP (P : kP) (k : Int32) (v : Int32 × Int32) : Prop := (noP P 0 ∧ v = (-1, 5)) ∨ ∃ i key n f, fdP P 0 i key ∧ wayL (bfs (kSc P) (24 * i)) i n f ∧ v = spV P i n f key k
theorem kE_n {P : kP} {t : Nat} (ht : t ≤ 3) (hP : P.1 = nI t) (key : Int64) : (∃ k, k < 256 ∧ kE1 P key = nI k) ∧ ∃ k, k < 256 ∧ kE2 P key = nI k := by
  obtain ⟨k, hk, e⟩ := kGd_n ht hP key
  obtain ⟨n, hn, e2⟩ := and_small (a := endF P.2.2.1 (kMi key) (if kbg key = 0 then 0 else P.2.2.1 1) P.2.2.2.2.2.1) e (by omega)
  obtain ⟨n', hn', e2'⟩ := and_small (a := endF P.2.2.2.1 (kIt key) (if kbg key = 0 then 0 else P.2.2.2.1 1) P.2.2.2.2.2.2.1) e (by omega)
  exact ⟨⟨n, by omega, e2⟩, n', by omega, e2'⟩
theorem apF_n {P : kP} {t : Nat} (ht : t ≤ 3) (hP : P.1 = nI t) (key : Int64) : ∃ k, k < 256 ∧ apF P 0 key = nI k := by
  obtain ⟨⟨a, ha, ea⟩, b, hb, eb⟩ := kE_n ht hP key
  unfold apF
  rw [if_pos rfl, Int32.and_comm, Int32.and_comm (kE2 P key)]
  obtain ⟨c, hc, ec⟩ := and_small (a := kE2 P key ^^^ -1) ea (by omega)
  obtain ⟨d, hd, ed⟩ := and_small (a := kE1 P key ^^^ -1) eb (by omega)
  rw [ec, ed, fa_or]
  exact ⟨c ||| d, Nat.or_lt_two_pow (n := 8) (by omega) (by omega), rfl⟩
theorem plA_cases {L : List (Int64 × Nat)} {n j : Nat} {f : Nat → Nat} {a : Nat} (ha : a < 32) : plA L n f (nI a) j = -1 ∨ ∃ v, v < 32 ∧ plA L n f (nI a) j = nI v := by
  unfold plA
  by_cases e1 : 2 * n < j
  · rw [if_pos e1]; exact Or.inl rfl
  · rw [if_neg e1]
    right
    by_cases e2 : j = 2 * n
    · rw [if_pos e2]; exact ⟨a, ha, rfl⟩
    · rw [if_neg e2]
      by_cases e3 : j % 2 = 0
      · rw [if_pos e3]; exact ⟨_, by omega, rfl⟩
      · rw [if_neg e3]; exact ⟨_, by omega, rfl⟩
theorem e_x_spell (K : K0 x W h V RC) {s : Nat} (hs : s < 4) {R1 R2 : Nat → Int32} (h1 : wt R1 ≤ 6) (h2 : wt R2 ≤ 6) {h' : HS} (bg : xBg x V h (xP V s R1 R2) h') {k : Int32} (hk : -1 ≤ k) : Ev w 5 0 0 yX9_spell cX9_spell 3 (some .int) [.ref x, .int k] h' (fun r' g => ∃ g1 v, K0 x W g1 V RC ∧ qKp x h g1 ∧ g = sI g1 x 3 v.2 ∧ r' = some (.int v.1) ∧ spP (xP V s R1 R2) k v) := by
  have ef := e_x_find (w := w) K hs h1 h2 bg (b := 0) (Or.inl rfl)
  obtain ⟨K1, k1⟩ := K.bg hs h1 h2 bg
  clear bg
  refine g_start (by decide) (Nat.le_of_ble_eq_true rfl) [(0, _), (1, _)] rfl (fun z hfl C => ?_)
  have hx := K1.1
  refine g_aload_n C (gd DX9_spell_0 0 rfl) 0 rfl rfl ?_
  refine g_getr (ci := 9) (k := 8) C rfl (by decide) rfl lf_TestJudge_50 hx.1 hx.2.2.2.2.2.1.1 (gd DX9_spell_0 1 rfl) ?_
  refine g_iconst (v := 0) C (gd DX9_spell_0 2 rfl) (by decide) ?_
  refine g_callV (ci := 5) C [_] mX5_findApart lm_TestJudge_204 (by exact hx.2.2.2.2.2.1.2.1) rfl rfl ef hfl (by first | decide | omega) (by decide) (by omega) (by omega) rfl rfl (Nat.le_of_ble_eq_true rfl) (gd DX9_spell_0 3 rfl) (fun r g hp => ?_)
  obtain ⟨K2, k2, hp⟩ := hp
  have hx := K2.1
  rcases hp with ⟨rfl, i, key, g1, F, BH, NU, SI, CA, rfl, ss, sq, fd, f13, f14, -⟩ | ⟨rfl, no⟩
  rotate_left
  · show GW z w 3 _ _ _ _ _ [.int 0] _
    refine g_if_ne C 17 (gd DX9_spell_0 4 rfl) (by decide) (fun c8 => ?_) (fun c8 => ?_)
    · exact absurd rfl c8
    refine g_aload_n C (gd DX9_spell_0 5 rfl) 0 rfl rfl ?_
    refine g_iconst (v := 5) C (gd DX9_spell_0 6 rfl) (by decide) ?_
    refine g_cV1 (ci := 9) C [_] mX9_refuse lm_TestJudge_90 (by exact hx.1) rfl rfl (e_x_refuse hx 5) hfl (by first | decide | omega) (by decide) (by omega) (by omega) rfl rfl (Nat.le_of_ble_eq_true rfl) (gd DX9_spell_0 7 rfl) ?_
    exact g_iret C (by omega) (by omega) ⟨g, (-1, 5), K2, k2, rfl, rfl, Or.inl ⟨no, rfl⟩⟩ (gd DX9_spell_0 8 rfl)
  · show GW z w 3 _ _ _ _ _ [.int 1] _
    refine g_if_ne C 17 (gd DX9_spell_0 4 rfl) (by decide) (fun c8 => ?_) (fun c8 => ?_)
    rotate_left
    · exact absurd c8 (by decide)
    have sm := xP_sm (V := V) hs K.2.1 h1 h2
    have hL : ∀ (j : Nat) (p : Int64 × Nat), (bfs (kSc (xP V s R1 R2)) (24 * i))[j]? = some p → p.2 < 1000000 := fun j p hp => by
      have hlen := kOk.len sm (bfs_ok sm (24 * i))
      have hjl := (List.getElem?_eq_some_iff.mp hp).1
      by_cases e : j = 0
      · subst e
        have st := bfs_stay (sc := kSc (xP V s R1 R2)) (e := 0) (j := 0) (q := (BEG, 0)) rfl (24 * i)
        rw [Nat.zero_add, hp] at st
        cases Option.some.inj st
        decide
      · have := bfs_back _ _ j p hp (by omega)
        omega
    have hil : i < (bfs (kSc (xP V s R1 R2)) (24 * i)).length := by
      obtain ⟨⟨v, f1⟩, -⟩ := fd
      exact (List.getElem?_eq_some_iff.mp f1).1
    have hlen := kOk.len sm (bfs_ok sm (24 * i))
    obtain ⟨n, f, wy⟩ := wayL_ex (bfs_back (kSc (xP V s R1 R2)) (24 * i)) (i + 1) i (by omega) hil
    obtain ⟨ka, hka, eka⟩ := apF_n (P := xP V s R1 R2) K.2.1.1.1 rfl key
    have ka0 : ka ≠ 0 := fun q => fd.2.1 (by rw [eka, q]; rfl)
    obtain ⟨at0, hat, eat, -⟩ := ntzF_n hka ka0
    have eat2 : ntzF (apF (xP V s R1 R2) 0 key) = nI at0 := by rw [eka]; exact eat
    refine g_iload_n C (gd DX9_spell_0 9 rfl) 1 rfl rfl ?_
    refine g_iconst (v := -1) C (gd DX9_spell_0 10 rfl) (by decide) ?_
    refine g_icmp_ne C 34 (gd DX9_spell_0 11 rfl) (by decide) (fun c19 => ?_) (fun c19 => ?_)
    rotate_left
    · have e1 : k = -1 := by first | exact c19 | exact Decidable.of_not_not c19
      subst e1
      refine g_aload_n C (gd DX9_spell_0 12 rfl) 0 rfl rfl ?_
      refine g_aload_n C (gd DX9_spell_0 13 rfl) 0 rfl rfl ?_
      refine g_getr (ci := 9) (k := 8) C rfl (by decide) rfl lf_TestJudge_50 hx.1 hx.2.2.2.2.2.1.1 (gd DX9_spell_0 14 rfl) ?_
      refine g_cV1 (ci := 5) C [] mX5_foundLength lm_TestJudge_208 (by exact hx.2.2.2.2.2.1.2.1) rfl rfl (e_s_foundLength ss sq hlen hL f13 wy) hfl (by first | decide | omega) (by decide) (by omega) (by omega) rfl rfl (Nat.le_of_ble_eq_true rfl) (gd DX9_spell_0 15 rfl) ?_
      refine g_cV1 (ci := 9) C [_] mX9_allow lm_TestJudge_128 (by exact hx.1) rfl rfl (e_x_allow hx _) hfl (by first | decide | omega) (by decide) (by omega) (by omega) rfl rfl (Nat.le_of_ble_eq_true rfl) (gd DX9_spell_0 16 rfl) ?_
      exact g_iret C (by omega) (by omega) ⟨_, (nI n, 0), K2, k2, rfl, rfl, Or.inr ⟨i, key, n, f, fd, wy, (if_pos rfl).symm⟩⟩ (gd DX9_spell_0 17 rfl)
    · rcases k_cases hk with e | ⟨j, hj, rfl⟩
      · exact absurd e c19
      refine g_aload_n C (gd DX9_spell_0 18 rfl) 0 rfl rfl ?_
      refine g_getr (ci := 9) (k := 8) C rfl (by decide) rfl lf_TestJudge_50 hx.1 hx.2.2.2.2.2.1.1 (gd DX9_spell_0 19 rfl) ?_
      refine g_iload_n C (gd DX9_spell_0 20 rfl) 1 rfl rfl ?_
      refine g_cV1 (ci := 5) C [_] mX5_foundPlace lm_TestJudge_211 (by exact hx.2.2.2.2.2.1.2.1) rfl rfl (e_s_foundPlace ss sq hlen hL f13 wy hj) hfl (by first | decide | omega) (by decide) (by omega) (by omega) rfl rfl (Nat.le_of_ble_eq_true rfl) (gd DX9_spell_0 21 rfl) ?_
      rw [f14, eat2]
      have esp : spV (xP V s R1 R2) i n f key (nI j) = if plA (bfs (kSc (xP V s R1 R2)) (24 * i)) n f (nI at0) j = -1 then (-1, 5) else (plA (bfs (kSc (xP V s R1 R2)) (24 * i)) n f (nI at0) j, 0) := by
        unfold spV
        rw [if_neg c19, nI_clamp hj, eat2]
      rcases plA_cases (L := bfs (kSc (xP V s R1 R2)) (24 * i)) (n := n) (j := j) (f := f) (a := at0) (by omega) with e | ⟨v, hv, e⟩
      · rw [e] at esp ⊢
        refine g_istore_n (lv' := [(0, _), (1, _), (2, _)]) C (gd DX9_spell_0 22 rfl) [1, 2, 0] rfl (by decide) rfl ?_
        refine g_iload_n C (gd DX9_spell_0 23 rfl) 2 rfl rfl ?_
        refine g_if_ge C 55 (gd DX9_spell_0 24 rfl) (by decide) (fun c44 => ?_) (fun c44 => ?_)
        · exact absurd c44 (by decide)
        refine g_aload_n C (gd DX9_spell_0 25 rfl) 0 rfl rfl ?_
        refine g_iconst (v := 5) C (gd DX9_spell_0 26 rfl) (by decide) ?_
        refine g_cV1 (ci := 9) C [_] mX9_refuse lm_TestJudge_90 (by exact hx.1) rfl rfl (e_x_refuse hx 5) hfl (by first | decide | omega) (by decide) (by omega) (by omega) rfl rfl (Nat.le_of_ble_eq_true rfl) (gd DX9_spell_0 27 rfl) ?_
        refine g_goto (tgt := 60) C (gd DX9_spell_0 28 rfl) (by decide) ?_
        exact g_iret C (by omega) (by omega) ⟨_, (-1, 5), K2, k2, rfl, rfl, Or.inr ⟨i, key, n, f, fd, wy, esp.symm ▸ (if_pos rfl).symm⟩⟩ (gd DX9_spell_0 32 rfl)
      · rw [e] at esp ⊢
        refine g_istore_n (lv' := [(0, _), (1, _), (2, _)]) C (gd DX9_spell_0 22 rfl) [1, 2, 0] rfl (by decide) rfl ?_
        refine g_iload_n C (gd DX9_spell_0 23 rfl) 2 rfl rfl ?_
        refine g_if_ge C 55 (gd DX9_spell_0 24 rfl) (by decide) (fun c44 => ?_) (fun c44 => ?_)
        · refine g_aload_n C (gd DX9_spell_0 29 rfl) 0 rfl rfl ?_
          refine g_iload_n C (gd DX9_spell_0 30 rfl) 2 rfl rfl ?_
          refine g_cV1 (ci := 9) C [_] mX9_allow lm_TestJudge_128 (by exact hx.1) rfl rfl (e_x_allow hx _) hfl (by first | decide | omega) (by decide) (by omega) (by omega) rfl rfl (Nat.le_of_ble_eq_true rfl) (gd DX9_spell_0 31 rfl) ?_
          exact g_iret C (by omega) (by omega) ⟨_, (nI v, 0), K2, k2, rfl, rfl, Or.inr ⟨i, key, n, f, fd, wy, esp.symm ▸ (if_neg (nI_neg1 (by omega))).symm⟩⟩ (gd DX9_spell_0 32 rfl)
        · exact absurd (nI_nn (a := v) (by omega)) (fun q => q (by first | exact c44 | exact Int32.not_le.mp c44))
theorem e_x_leastAlike (K : K0 x W h V RC) {r : Nat} (hr : r < vNp V) : Ev w 6 0 0 yX9_leastAlike cX9_leastAlike 3 (some .int) [.ref x, .int (nI r)] h (fun r' h' => K0 x W h' V RC ∧ qKp x h h' ∧ ∃ o, o ≤ r ∧ (o = r ∨ kEq (vP2 V (vS V) o r)) ∧ (∀ t, t < o → ¬ kEq (vP2 V (vS V) t r)) ∧ r' = some (.int (nI o))) := by
  refine g_start (by decide) (Nat.le_of_ble_eq_true rfl) [(0, _), (1, _)] rfl (fun z hfl C => ?_)
  have hV := K.2.1.2.1 (vA V) (Nat.le_refl _)
  have hnp : vNp V ≤ 8 := hV.1
  have hs4 : vS V < 4 := hV.2.1
  have loop : ∀ y i g, i + y = r → K0 x W g V RC → qKp x h g → (∀ t, t < i → ¬ kEq (vP2 V (vS V) t r)) → GW z w 3 (gQ z w 0 0 (fun r' h'' => K0 x W h'' V RC ∧ qKp x h h'' ∧ ∃ o, o ≤ r ∧ (o = r ∨ kEq (vP2 V (vS V) o r)) ∧ (∀ t, t < o → ¬ kEq (vP2 V (vS V) t r)) ∧ r' = some (.int (nI o)))) 0 0 2 [(0, .ref x), (1, .int (nI r)), (2, .int (nI i))] [] g := by
    intro y
    induction y with
    | zero =>
      intro i g hi K1 k1 no
      have ei : i = r := by omega
      subst ei
      refine g_iload_n C (gd DX9_leastAlike_0 2 rfl) 2 rfl rfl ?_
      refine g_iload_n C (gd DX9_leastAlike_0 3 rfl) 1 rfl rfl ?_
      refine g_icmp_ge C 31 (gd DX9_leastAlike_0 4 rfl) (by decide) (fun c4 => ?_) (fun c4 => ?_)
      · refine g_iload_n C (gd DX9_leastAlike_0 17 rfl) 1 rfl rfl ?_
        exact g_iret C (by omega) (by omega) ⟨K1, k1, i, Nat.le_refl _, Or.inl rfl, no, rfl⟩ (gd DX9_leastAlike_0 18 rfl)
      · exact absurd (nI_le (Nat.le_refl i) (by omega)) c4
    | succ y ih =>
      intro i g hi K1 k1 no
      have hx := K1.1
      have w4 := K1.2.2.1.1.2.2.2.2
      refine g_iload_n C (gd DX9_leastAlike_0 2 rfl) 2 rfl rfl ?_
      refine g_iload_n C (gd DX9_leastAlike_0 3 rfl) 1 rfl rfl ?_
      refine g_icmp_ge C 31 (gd DX9_leastAlike_0 4 rfl) (by decide) (fun c4 => ?_) (fun c4 => ?_)
      · exact absurd c4 (nI_ge (a := i) (b := r) (by omega) (by omega))
      · refine g_aload_n C (gd DX9_leastAlike_0 5 rfl) 0 rfl rfl ?_
        refine g_aload_n C (gd DX9_leastAlike_0 6 rfl) 0 rfl rfl ?_
        refine g_getr (ci := 9) (k := 6) C rfl (by decide) rfl lf_TestJudge_36 hx.1 hx.2.2.2.1.1 (gd DX9_leastAlike_0 7 rfl) ?_
        refine g_geti (ci := 8) (k := 4) C rfl (by decide) rfl lf_TestJudge_144 hx.2.2.2.1.2.1 (gd DX9_leastAlike_0 8 rfl) ?_
        rw [w4]
        refine g_iload_n C (gd DX9_leastAlike_0 9 rfl) 2 rfl rfl ?_
        refine g_iload_n C (gd DX9_leastAlike_0 10 rfl) 1 rfl rfl ?_
        refine g_callV (ci := 9) C [_, _, _] mX9_alike lm_TestJudge_214 (by exact hx.1) rfl rfl (e_x_alike K1 hs4 (show i < vNp V by omega) hr) hfl (by first | decide | omega) (by decide) (by omega) (by omega) rfl rfl (Nat.le_of_ble_eq_true rfl) (gd DX9_leastAlike_0 11 rfl) (fun r g2 hp => ?_)
        obtain ⟨K2, k2, hp⟩ := hp
        rcases hp with ⟨rfl, eq⟩ | ⟨rfl, ne, -⟩
        · show GW z w 3 _ _ _ _ _ [.int 1] _
          refine g_if_eq C 25 (gd DX9_leastAlike_0 12 rfl) (by decide) (fun c20 => ?_) (fun c20 => ?_)
          · exact absurd c20 (by decide)
          · refine g_iload_n C (gd DX9_leastAlike_0 13 rfl) 2 rfl rfl ?_
            exact g_iret C (by omega) (by omega) ⟨K2, k1.tr k2, i, by omega, Or.inr eq, no, rfl⟩ (gd DX9_leastAlike_0 14 rfl)
        · show GW z w 3 _ _ _ _ _ [.int 0] _
          refine g_if_eq C 25 (gd DX9_leastAlike_0 12 rfl) (by decide) (fun c20 => ?_) (fun c20 => ?_)
          · refine g_iinc (lv' := [(0, _), (1, _), (2, _)]) C (gd DX9_leastAlike_0 15 rfl) 2 [1, 2, 0] rfl rfl (by decide) rfl ?_
            refine g_goto (tgt := 2) C (gd DX9_leastAlike_0 16 rfl) (by decide) ?_
            refine GW.cast (by rw [inc1]) rfl rfl (ih (i + 1) g2 (by omega) K2 (k1.tr k2) (fun t ht => ?_))
            by_cases e : t = i
            · rw [e]; exact ne
            · exact no t (by omega)
          · exact absurd rfl c20
  refine g_iconst (v := 0) C (gd DX9_leastAlike_0 0 rfl) (by decide) ?_
  refine g_istore_n (lv' := [(0, _), (1, _), (2, _)]) C (gd DX9_leastAlike_0 1 rfl) [1, 2, 0] rfl (by decide) rfl ?_
  exact loop r 0 h (by omega) K (qKp.rf x h) (fun t ht => absurd ht (Nat.not_lt_zero _))
end X3
