/-! The class's greatest, many, program, fact, atoms, status, fault -/
theorem rbfs_par {go : Nat → Nat → Option Nat} {B : Nat → Nat → Prop} : ∀ e (i : Nat) (q : Nat × Nat), (rbfs go B e)[i]? = some q → (i = 0 ∧ q.2 = 0) ∨ ∃ (j l : Nat) (p : Nat × Nat), j < i ∧ l < 24 ∧ (rbfs go B e)[j]? = some p ∧ go p.1 l = some q.1 ∧ q.2 = p.2 + 1 := by
  intro e
  induction e with
  | zero =>
    intro i q hq
    cases i with
    | zero => cases Option.some.inj hq; exact Or.inl ⟨rfl, rfl⟩
    | succ i => exact absurd hq (by show ([] : List (Nat × Nat))[i]? ≠ some q; rw [List.getElem?_nil]; exact fun x => by cases x)
  | succ e ih =>
    intro i q hq
    have hq' : (rstep go B (rbfs go B e) e)[i]? = some q := hq
    show _ ∨ ∃ (j l : Nat) (p : Nat × Nat), j < i ∧ l < 24 ∧ (rstep go B (rbfs go B e) e)[j]? = some p ∧ go p.1 l = some q.1 ∧ q.2 = p.2 + 1
    rcases h1 : (rbfs go B e)[e / 24]? with _ | p
    · have er : rstep go B (rbfs go B e) e = rbfs go B e := by simp only [rstep, h1]
      rw [er] at hq' ⊢
      exact ih i q hq'
    · rcases h2 : go p.1 (e % 24) with _ | t
      · rw [rstep_none h1 h2] at hq' ⊢
        exact ih i q hq'
      · rcases Classical.em (∃ p, p ∈ rbfs go B e ∧ B p.1 t) with h3 | h3
        · rw [rstep_old h1 h2 h3] at hq' ⊢
          exact ih i q hq'
        · rw [rstep_new h1 h2 h3] at hq' ⊢
          have hl := (List.getElem?_eq_some_iff.mp h1).1
          by_cases hi : i < (rbfs go B e).length
          · rw [List.getElem?_append_left hi] at hq'
            rcases ih i q hq' with x | ⟨j, l, p', x1, x2, x3, x4⟩
            · exact Or.inl x
            · exact Or.inr ⟨j, l, p', x1, x2, by rw [List.getElem?_append_left (by omega)]; exact x3, x4⟩
          · rw [List.getElem?_append_right (by omega)] at hq'
            rcases hk : i - (rbfs go B e).length with _ | k
            · rw [hk] at hq'
              cases Option.some.inj hq'
              exact Or.inr ⟨e / 24, e % 24, p, by omega, Nat.mod_lt _ (by omega), by rw [List.getElem?_append_left hl]; exact h1, h2, rfl⟩
            · rw [hk] at hq'
              exact absurd hq' (by show ([] : List (Nat × Nat))[k]? ≠ some q; rw [List.getElem?_nil]; exact fun x => by cases x)
theorem rbfs_dis {go : Nat → Nat → Option Nat} {B : Nat → Nat → Prop} : ∀ e (i j : Nat) (p q : Nat × Nat), i < j → (rbfs go B e)[i]? = some p → (rbfs go B e)[j]? = some q → ¬ B p.1 q.1 := by
  intro e
  induction e with
  | zero =>
    intro i j p q hij _ hq
    have := (List.getElem?_eq_some_iff.mp hq).1
    have e1 : (rbfs go B 0).length = 1 := rfl
    omega
  | succ e ih =>
    intro i j p q hij hp hq
    have hp' : (rstep go B (rbfs go B e) e)[i]? = some p := hp
    have hq' : (rstep go B (rbfs go B e) e)[j]? = some q := hq
    rcases h1 : (rbfs go B e)[e / 24]? with _ | p1
    · have er : rstep go B (rbfs go B e) e = rbfs go B e := by simp only [rstep, h1]
      rw [er] at hp' hq'
      exact ih i j p q hij hp' hq'
    · rcases h2 : go p1.1 (e % 24) with _ | t
      · rw [rstep_none h1 h2] at hp' hq'
        exact ih i j p q hij hp' hq'
      · rcases Classical.em (∃ p, p ∈ rbfs go B e ∧ B p.1 t) with h3 | h3
        · rw [rstep_old h1 h2 h3] at hp' hq'
          exact ih i j p q hij hp' hq'
        · rw [rstep_new h1 h2 h3] at hp' hq'
          by_cases hj : j < (rbfs go B e).length
          · rw [List.getElem?_append_left hj] at hq'
            rw [List.getElem?_append_left (by omega)] at hp'
            exact ih i j p q hij hp' hq'
          · have hlj := (List.getElem?_eq_some_iff.mp hq').1
            rw [List.length_append] at hlj
            have hlj : j < (rbfs go B e).length + 1 := hlj
            rw [List.getElem?_append_left (by omega)] at hp'
            rw [List.getElem?_append_right (by omega), show j - (rbfs go B e).length = 0 by omega] at hq'
            cases Option.some.inj hq'
            exact fun x => h3 ⟨p, List.mem_of_getElem? hp', x⟩
/-- a rest's depth is that of a walk to it -/
theorem tbO.dep {P : kP} {ρ : Nat → Nat → Int32} (o : tbO P ρ) {n : Nat} (t : tbN n ρ) : ∀ k, k < n → ∃ d, ρ 2 k = nI d ∧ d < n ∧ wkT (ρ 3) d k := by
  obtain ⟨v, N, R, o1, o2, o3, o4, o5, -⟩ := o
  have en : n = R.length := (nI_eq (by have := t.1; omega) (by omega)).mp (t.2.1.symm.trans o4)
  subst en
  have key : ∀ k, ∀ q : Nat × Nat, R[k]? = some q → q.2 ≤ k ∧ wkT (ρ 3) q.2 k := by
    intro k
    induction k using Nat.strongRecOn with
    | ind k ih =>
      intro q hq
      have hk := (List.getElem?_eq_some_iff.mp hq).1
      have eR : R = rbfs (rgo 0 v) (Bis 0 v) (24 * R.length) := by
        refine o2.2 (fun z => ?_)
        rw [o2.1 z] at hk
        exact absurd hk (by simp)
      have hq' := hq
      rw [eR] at hq'
      rcases rbfs_par _ k q hq' with ⟨k0, q0⟩ | ⟨j, l, p, j1, l1, p1, g1, d1⟩
      · exact ⟨by omega, by rw [q0]; exact k0⟩
      · rw [← eR] at p1
        obtain ⟨i1, i2⟩ := ih j j1 p p1
        refine ⟨by omega, ?_⟩
        rw [d1]
        refine ⟨by omega, j, l, l1, i2, ?_⟩
        obtain ⟨-, -, -, tc⟩ := o5 j p p1
        rcases tc l l1 with ⟨z, -⟩ | ⟨a, j', p', a1, a2, a3, a4⟩
        · rw [g1] at z; cases z
        · rw [g1] at a1
          cases Option.some.inj a1
          have : j' = k := by
            rcases Nat.lt_trichotomy j' k with c | c | c
            · have a2' := a2
              rw [eR] at a2'
              exact absurd a3 (rbfs_dis _ j' k p' q c a2' hq')
            · exact c
            · have a2' := a2
              rw [eR] at a2'
              exact absurd (fun d => eqv.sy d _ _ (a3 d)) (rbfs_dis _ k j' q p' c hq' a2')
          rw [a4, this]
  intro k hk
  have hq := List.getElem?_eq_getElem hk
  obtain ⟨-, -, e2, -⟩ := o5 k _ hq
  obtain ⟨k1, k2⟩ := key k _ hq
  exact ⟨_, e2, by omega, k2⟩
def qMny (V : aV) (k : Int32) : Int32 → Int32 → Prop := gat (0 ≤ k ∧ k ≤ 7) 1 (fun v st => v = (if k = 0 then nI (vNt V) else if k = 1 then nI (vNa V) else if k = 2 then nI (vNp V) else if k = 3 then nI (vNf V) else if k = 4 then atF (nI (vNt V)) else if k = 5 then nI (vS V) else if k = 6 then nI (vA V) else fbA (nI (vS V)) (vFR V) (vNf V) 1) ∧ st = 0)
def qPrg (V : aV) (k p : Int32) : Int32 → Int32 → Prop := gat (0 ≤ k ∧ k ≤ 1) 1 (one (vNp V) p (fun r v st => v = (if k = 0 then nI (wt (vPR V r)) else b1 (nI (wt (vPR V r)) = 0)) ∧ st = 0))
def qFct (V : aV) (k p : Int32) : Int32 → Int32 → Prop := gat (0 ≤ k ∧ k ≤ 1) 1 (one (vNf V) p (fun r v st => v = (if k = 0 then nI (wt (vFR V r)) else nI (vS V) >>> (nI r &&& 31) &&& 1) ∧ st = 0))
def qAto (V : aV) (r : Nat) (v st : Int32) : Prop := v = vPR V r 1 &&& (fbA (nI (vS V)) (vFR V) (vNf V) 1 ^^^ -1) ∧ st = 0
def qSay (V : aV) (M : aM) (i : Int32) (v : Value) (V' : aV) (M' : aM) : Prop := v = .int i ∧ V' = V ∧ M' = M
theorem k01 {k : Int32} : 0 ≤ k ∧ k ≤ 1 ↔ k = 0 ∨ k = 1 := by
  constructor
  · intro hk
    obtain ⟨j, hj, rfl⟩ : ∃ j, j < 2 ∧ k = nI j := below_of (n := 2) (by omega) hk
    rcases (show j = 0 ∨ j = 1 by omega) with rfl | rfl
    · exact Or.inl rfl
    · exact Or.inr rfl
  · rintro (rfl | rfl) <;> decide
section SMX
variable {w : gD} {x W : Nat} {h : HS} {V : aV} {RC : Nat → Nat → Int32} {M : aM}
theorem K0.bar (K : K0 x W h V RC) : ∃ b, (hR h (W + 4) (vS V) = some b ∨ hR h (W + 4) (vS V) = none ∧ b = W + 5) ∧ hK h b = 3 ∧ hI h b 1 = fbA (nI (vS V)) (vFR V) (vNf V) 1 := by
  obtain ⟨b, b1, -, -, b4⟩ := K.2.2.1.2.2.2 (vS V) K.2.1.s4
  exact ⟨b, b1, b4.1, b4.2.2.1⟩
theorem e_x_greatest (K : K0 x W h V RC) (hM : kvM x h M) (p : Int32) : Ev w 7 0 0 yX9_greatest cX9_greatest 3 (some .int) [.ref x, .int p] h (aQ x (qQ V M (one (vNp V) p (tbQ V fGre)))) := by
  refine g_start (by decide) (Nat.le_of_ble_eq_true rfl) [(0, _), (1, _)] rfl (fun z hfl C => ?_)
  have hx := K.1
  obtain ⟨w0, w1, w2, w3, w4⟩ := K.2.2.1.1
  have hnp := K.2.1.np
  refine g_aload_n C (gd DX9_greatest_0 0 rfl) 0 rfl rfl ?_
  refine g_iload_n C (gd DX9_greatest_0 1 rfl) 1 rfl rfl ?_
  refine g_cV1 (ci := 9) C [_] mX9_lacks lm_TestJudge_154 (by exact hx.1) rfl rfl (e_x_lacks hx (by omega) w2 p) hfl (by first | decide | omega) (by decide) (by omega) (by omega) rfl rfl (Nat.le_of_ble_eq_true rfl) (gd DX9_greatest_0 2 rfl) ?_
  by_cases n1 : 0 ≤ p ∧ p ≤ nI (vNp V) - 1
  rotate_left
  · rw [b1_t (show ¬ (0 ≤ p ∧ p ≤ nI (vNp V) - 1) from n1)]
    refine g_if_eq C 14 (gd DX9_greatest_0 3 rfl) (by decide) (fun c5 => ?_) (fun c5 => ?_)
    · exact absurd c5 (by decide)
    · refine g_aload_n C (gd DX9_greatest_0 4 rfl) 0 rfl rfl ?_
      refine g_iconst (v := 2) C (gd DX9_greatest_0 5 rfl) (by decide) ?_
      refine g_cV1 (ci := 9) C [_] mX9_refuse lm_TestJudge_90 (by exact hx.1) rfl rfl (e_x_refuse hx 2) hfl (by first | decide | omega) (by decide) (by omega) (by omega) rfl rfl (Nat.le_of_ble_eq_true rfl) (gd DX9_greatest_0 6 rfl) ?_
      exact g_iret C (by omega) (by omega) (aQ.r K hM rfl (Or.inl ⟨n1, rfl, rfl⟩)) (gd DX9_greatest_0 7 rfl)
  rw [b1_f (show ¬ ¬ (0 ≤ p ∧ p ≤ nI (vNp V) - 1) from fun q => q n1)]
  refine g_if_eq C 14 (gd DX9_greatest_0 3 rfl) (by decide) (fun c5 => ?_) (fun c5 => ?_)
  rotate_left
  · exact absurd rfl c5
  obtain ⟨r, hr, rfl⟩ := below_of (by omega) n1
  refine g_aload_n C (gd DX9_greatest_0 8 rfl) 0 rfl rfl ?_
  refine g_iload_n C (gd DX9_greatest_0 9 rfl) 1 rfl rfl ?_
  refine g_callV (ci := 9) C [_] mX9_tabulate lm_TestJudge_174 (by exact hx.1) rfl rfl (e_x_tabulate K hr) hfl (by first | decide | omega) (by decide) (by omega) (by omega) rfl rfl (Nat.le_of_ble_eq_true rfl) (gd DX9_greatest_0 10 rfl) (fun r g hp => ?_)
  obtain ⟨rfl, K1, k1, tb⟩ := hp
  show GW z w 3 _ _ _ _ _ [] _
  have hx1 := K1.1
  obtain ⟨n, o⟩ := tb.n
  refine g_aload_n C (gd DX9_greatest_0 11 rfl) 0 rfl rfl ?_
  refine g_getr (ci := 9) (k := 9) C rfl (by decide) rfl lf_TestJudge_57 hx1.1 hx1.2.2.2.2.2.2.1.1 (gd DX9_greatest_0 12 rfl) ?_
  refine GW.cast rfl rfl (tR_self (t := x + 36)).symm ?_
  refine g_callV (ci := 6) C [] mX6_longest lm_TestJudge_194 (by exact hx1.2.2.2.2.2.2.1.2.1) rfl rfl (e_t_longest hx1.2.2.2.2.2.2.1.2 o (tb.dep o)) hfl (by first | decide | omega) (by decide) (by omega) (by omega) rfl rfl (Nat.le_of_ble_eq_true rfl) (gd DX9_greatest_0 13 rfl) (fun r g2 hp => ?_)
  obtain ⟨⟨FN, rfl⟩, hp⟩ := hp
  generalize hg2 : tR (x + 36) g (rset (fun i => hI g (x + 36 + i)) 8 FN) = g2
  have K2k : K0 x W g2 V RC ∧ qKp x g g2 := by
    have fr : ∀ b, b ≠ x + 44 → hI g2 b = hI g b := fun b hb => by
      rw [← hg2]
      funext j
      show (if x + 36 ≤ b ∧ b ≤ x + 36 + 10 then rset (fun i => hI g (x + 36 + i)) 8 FN (b - (x + 36)) j else hI g b j) = hI g b j
      by_cases c : x + 36 ≤ b ∧ b ≤ x + 36 + 10
      · rw [if_pos c]
        unfold rset
        rw [if_neg (by omega)]
        show hI g (x + 36 + (b - (x + 36))) j = hI g b j
        rw [show x + 36 + (b - (x + 36)) = b by omega]
      · rw [if_neg c]
    have e2 : g2.2 = g.2 := by rw [← hg2]; rfl
    have k2 : qKp x g g2 := ⟨by show g2.2.2.2.2.2 = g.2.2.2.2.2; rw [e2], by show g2.2.2.2.1 = g.2.2.2.1; rw [e2], by show g2.2.2.2.2.1 = g.2.2.2.2.1; rw [e2], fun b k _ => by show g2.2.2.1 b k = g.2.2.1 b k; rw [e2], fun b _ hb => fr b (by omega), fun k _ => by rw [fr x (by omega)], fun b _ _ => by show g2.2.1 b = g.2.1 b; rw [e2]⟩
    obtain ⟨-, -, -, -, t, s1, s2⟩ := id K1
    refine ⟨K1.q k2 ?_ ⟨?_, fun j hj => by show g2.2.1 (x + 35) j = 0; rw [e2]; exact s2 j hj⟩, k2⟩
    · rcases t with t | ⟨a, f, t1, t2, t3, t4, t5⟩
      · exact Or.inl (by show g2.2.2.1 (x + 36) 5 = none; rw [e2]; exact t)
      · refine Or.inr ⟨a, f, by show g2.2.2.1 (x + 36) 5 = some a; rw [e2]; exact t1, by rw [k2.1]; exact t2, t3, by rw [fr _ (by omega)]; exact t4, tbO.cg (fun i hi => fr _ (by omega)) t5⟩
    · unfold sId
      rw [fr _ (by omega), fr _ (by omega), fr _ (by omega)]
      exact s1
  obtain ⟨K2, k2⟩ := K2k
  have hx2 := K2.1
  have lL0 : ∀ L, (∃ k, wkT (hI g (x + 36 + 3)) L k) → (∀ d k, wkT (hI g (x + 36 + 3)) d k → d ≤ L) → L < n ∨ n = 0 := by
    intro L l1 l2
    apply Classical.byContradiction
    intro nn
    obtain ⟨k, hk⟩ := l1
    obtain ⟨k', hk'⟩ := wkT.round o.2.2 (by omega) hk (by omega) (L + 1)
    have := l2 _ _ hk'
    omega
  rcases hp with ⟨rfl, ub⟩ | ⟨n0, L, rfl, l1, l2⟩
  · show GW z w 3 _ _ _ _ _ [.int (-1)] _
    refine g_istore_n (lv' := [(0, _), (1, _), (2, _)]) C (gd DX9_greatest_0 14 rfl) [1, 2, 0] rfl (by decide) rfl ?_
    refine g_iload_n C (gd DX9_greatest_0 15 rfl) 2 rfl rfl ?_
    refine g_if_ge C 39 (gd DX9_greatest_0 16 rfl) (by decide) (fun c28 => ?_) (fun c28 => ?_)
    · exact absurd c28 (by decide)
    · refine g_aload_n C (gd DX9_greatest_0 17 rfl) 0 rfl rfl ?_
      refine g_iconst (v := 5) C (gd DX9_greatest_0 18 rfl) (by decide) ?_
      refine g_cV1 (ci := 9) C [_] mX9_refuse lm_TestJudge_90 (by exact hx2.1) rfl rfl (e_x_refuse hx2 5) hfl (by first | decide | omega) (by decide) (by omega) (by omega) rfl rfl (Nat.le_of_ble_eq_true rfl) (gd DX9_greatest_0 19 rfl) ?_
      refine g_goto (tgt := 44) C (gd DX9_greatest_0 20 rfl) (by decide) ?_
      exact g_iret C (by omega) (by omega) (aQ.q K hM rfl K2 (k1.tr k2) (Or.inr ⟨r, hr, rfl, _, tb, n, o, Or.inl ⟨ub, rfl, rfl⟩⟩)) (gd DX9_greatest_0 24 rfl)
  · have lL : L < 2147483648 := by have := lL0 L l1 l2; have := o.1; omega
    show GW z w 3 _ _ _ _ _ [.int (nI L)] _
    refine g_istore_n (lv' := [(0, _), (1, _), (2, _)]) C (gd DX9_greatest_0 14 rfl) [1, 2, 0] rfl (by decide) rfl ?_
    refine g_iload_n C (gd DX9_greatest_0 15 rfl) 2 rfl rfl ?_
    refine g_if_ge C 39 (gd DX9_greatest_0 16 rfl) (by decide) (fun c28 => ?_) (fun c28 => ?_)
    · refine g_aload_n C (gd DX9_greatest_0 21 rfl) 0 rfl rfl ?_
      refine g_iload_n C (gd DX9_greatest_0 22 rfl) 2 rfl rfl ?_
      refine g_cV1 (ci := 9) C [_] mX9_allow lm_TestJudge_128 (by exact hx2.1) rfl rfl (e_x_allow hx2 _) hfl (by first | decide | omega) (by decide) (by omega) (by omega) rfl rfl (Nat.le_of_ble_eq_true rfl) (gd DX9_greatest_0 23 rfl) ?_
      exact g_iret C (by omega) (by omega) (aQ.q K hM rfl K2 (k1.tr k2) (Or.inr ⟨r, hr, rfl, _, tb, n, o, Or.inr ⟨n0, L, rfl, l1, l2, rfl⟩⟩)) (gd DX9_greatest_0 24 rfl)
    · exact absurd (Int32.not_lt.mp (nI_nn lL)) c28
theorem e_x_many (K : K0 x W h V RC) (hM : kvM x h M) (k : Int32) : Ev w 2 0 0 yX9_many cX9_many 2 (some .int) [.ref x, .int k] h (aQ x (qQ V M (qMny V k))) := by
  refine g_start (by decide) (Nat.le_of_ble_eq_true rfl) [(0, _), (1, _)] rfl (fun z hfl C => ?_)
  have hx := K.1
  obtain ⟨w0, w1, w2, w3, w4⟩ := K.2.2.1.1
  have d0 := K.2.2.2.1.1
  refine g_iload_n C (gd DX9_many_0 0 rfl) 1 rfl rfl ?_
  by_cases hk : 0 ≤ k ∧ k ≤ 7
  · have hk0 := hk
    obtain ⟨j, hj, rfl⟩ : ∃ j, j < 8 ∧ k = nI j := below_of (n := 8) (by omega) hk
    rcases (show j = 0 ∨ j = 1 ∨ j = 2 ∨ j = 3 ∨ j = 4 ∨ j = 5 ∨ j = 6 ∨ j = 7 by omega) with rfl | rfl | rfl | rfl | rfl | rfl | rfl | rfl
    · refine g_tableIn C 48 (gd DX9_many_0 1 rfl) (by decide) (by decide) rfl (by decide) ?_
      refine g_aload_n C (gd DX9_many_0 2 rfl) 0 rfl rfl ?_
      refine g_aload_n C (gd DX9_many_0 3 rfl) 0 rfl rfl ?_
      refine g_getr (ci := 9) (k := 6) C rfl (by decide) rfl lf_TestJudge_36 hx.1 hx.2.2.2.1.1 (gd DX9_many_0 4 rfl) ?_
      refine g_geti (ci := 8) (k := 0) C rfl (by decide) rfl lf_TestJudge_131 hx.2.2.2.1.2.1 (gd DX9_many_0 5 rfl) ?_
      refine g_cV1 (ci := 9) C [_] mX9_allow lm_TestJudge_128 (by exact hx.1) rfl rfl (e_x_allow hx _) hfl (by first | decide | omega) (by decide) (by omega) (by omega) rfl rfl (Nat.le_of_ble_eq_true rfl) (gd DX9_many_0 6 rfl) ?_
      exact g_iret C (by omega) (by omega) (aQ.r K hM rfl (Or.inr ⟨hk0, w0, rfl⟩)) (gd DX9_many_0 7 rfl)
    · refine g_tableIn C 60 (gd DX9_many_0 1 rfl) (by decide) (by decide) rfl (by decide) ?_
      refine g_aload_n C (gd DX9_many_0 8 rfl) 0 rfl rfl ?_
      refine g_aload_n C (gd DX9_many_0 9 rfl) 0 rfl rfl ?_
      refine g_getr (ci := 9) (k := 6) C rfl (by decide) rfl lf_TestJudge_36 hx.1 hx.2.2.2.1.1 (gd DX9_many_0 10 rfl) ?_
      refine g_geti (ci := 8) (k := 1) C rfl (by decide) rfl lf_TestJudge_134 hx.2.2.2.1.2.1 (gd DX9_many_0 11 rfl) ?_
      refine g_cV1 (ci := 9) C [_] mX9_allow lm_TestJudge_128 (by exact hx.1) rfl rfl (e_x_allow hx _) hfl (by first | decide | omega) (by decide) (by omega) (by omega) rfl rfl (Nat.le_of_ble_eq_true rfl) (gd DX9_many_0 12 rfl) ?_
      exact g_iret C (by omega) (by omega) (aQ.r K hM rfl (Or.inr ⟨hk0, w1, rfl⟩)) (gd DX9_many_0 13 rfl)
    · refine g_tableIn C 72 (gd DX9_many_0 1 rfl) (by decide) (by decide) rfl (by decide) ?_
      refine g_aload_n C (gd DX9_many_0 14 rfl) 0 rfl rfl ?_
      refine g_aload_n C (gd DX9_many_0 15 rfl) 0 rfl rfl ?_
      refine g_getr (ci := 9) (k := 6) C rfl (by decide) rfl lf_TestJudge_36 hx.1 hx.2.2.2.1.1 (gd DX9_many_0 16 rfl) ?_
      refine g_geti (ci := 8) (k := 2) C rfl (by decide) rfl lf_TestJudge_125 hx.2.2.2.1.2.1 (gd DX9_many_0 17 rfl) ?_
      refine g_cV1 (ci := 9) C [_] mX9_allow lm_TestJudge_128 (by exact hx.1) rfl rfl (e_x_allow hx _) hfl (by first | decide | omega) (by decide) (by omega) (by omega) rfl rfl (Nat.le_of_ble_eq_true rfl) (gd DX9_many_0 18 rfl) ?_
      exact g_iret C (by omega) (by omega) (aQ.r K hM rfl (Or.inr ⟨hk0, w2, rfl⟩)) (gd DX9_many_0 19 rfl)
    · refine g_tableIn C 84 (gd DX9_many_0 1 rfl) (by decide) (by decide) rfl (by decide) ?_
      refine g_aload_n C (gd DX9_many_0 20 rfl) 0 rfl rfl ?_
      refine g_aload_n C (gd DX9_many_0 21 rfl) 0 rfl rfl ?_
      refine g_getr (ci := 9) (k := 6) C rfl (by decide) rfl lf_TestJudge_36 hx.1 hx.2.2.2.1.1 (gd DX9_many_0 22 rfl) ?_
      refine g_geti (ci := 8) (k := 3) C rfl (by decide) rfl lf_TestJudge_137 hx.2.2.2.1.2.1 (gd DX9_many_0 23 rfl) ?_
      refine g_cV1 (ci := 9) C [_] mX9_allow lm_TestJudge_128 (by exact hx.1) rfl rfl (e_x_allow hx _) hfl (by first | decide | omega) (by decide) (by omega) (by omega) rfl rfl (Nat.le_of_ble_eq_true rfl) (gd DX9_many_0 24 rfl) ?_
      exact g_iret C (by omega) (by omega) (aQ.r K hM rfl (Or.inr ⟨hk0, w3, rfl⟩)) (gd DX9_many_0 25 rfl)
    · refine g_tableIn C 96 (gd DX9_many_0 1 rfl) (by decide) (by decide) rfl (by decide) ?_
      refine g_aload_n C (gd DX9_many_0 26 rfl) 0 rfl rfl ?_
      refine g_aload_n C (gd DX9_many_0 27 rfl) 0 rfl rfl ?_
      refine g_getr (ci := 9) (k := 6) C rfl (by decide) rfl lf_TestJudge_36 hx.1 hx.2.2.2.1.1 (gd DX9_many_0 28 rfl) ?_
      refine g_cV1 (ci := 8) C [] mX8_atomCount lm_TestJudge_140 (by exact hx.2.2.2.1.2.1) rfl rfl (e_w_atomCount hx.2.2.2.1.2) hfl (by first | decide | omega) (by decide) (by omega) (by omega) rfl rfl (Nat.le_of_ble_eq_true rfl) (gd DX9_many_0 29 rfl) ?_
      refine g_cV1 (ci := 9) C [_] mX9_allow lm_TestJudge_128 (by exact hx.1) rfl rfl (e_x_allow hx _) hfl (by first | decide | omega) (by decide) (by omega) (by omega) rfl rfl (Nat.le_of_ble_eq_true rfl) (gd DX9_many_0 30 rfl) ?_
      exact g_iret C (by omega) (by omega) (aQ.r K hM rfl (Or.inr ⟨hk0, by rw [w0]; rfl, rfl⟩)) (gd DX9_many_0 31 rfl)
    · refine g_tableIn C 108 (gd DX9_many_0 1 rfl) (by decide) (by decide) rfl (by decide) ?_
      refine g_aload_n C (gd DX9_many_0 32 rfl) 0 rfl rfl ?_
      refine g_aload_n C (gd DX9_many_0 33 rfl) 0 rfl rfl ?_
      refine g_getr (ci := 9) (k := 6) C rfl (by decide) rfl lf_TestJudge_36 hx.1 hx.2.2.2.1.1 (gd DX9_many_0 34 rfl) ?_
      refine g_geti (ci := 8) (k := 4) C rfl (by decide) rfl lf_TestJudge_144 hx.2.2.2.1.2.1 (gd DX9_many_0 35 rfl) ?_
      refine g_cV1 (ci := 9) C [_] mX9_allow lm_TestJudge_128 (by exact hx.1) rfl rfl (e_x_allow hx _) hfl (by first | decide | omega) (by decide) (by omega) (by omega) rfl rfl (Nat.le_of_ble_eq_true rfl) (gd DX9_many_0 36 rfl) ?_
      exact g_iret C (by omega) (by omega) (aQ.r K hM rfl (Or.inr ⟨hk0, w4, rfl⟩)) (gd DX9_many_0 37 rfl)
    · refine g_tableIn C 120 (gd DX9_many_0 1 rfl) (by decide) (by decide) rfl (by decide) ?_
      refine g_aload_n C (gd DX9_many_0 38 rfl) 0 rfl rfl ?_
      refine g_aload_n C (gd DX9_many_0 39 rfl) 0 rfl rfl ?_
      refine g_getr (ci := 9) (k := 7) C rfl (by decide) rfl lf_TestJudge_43 hx.1 hx.2.2.2.2.1.1 (gd DX9_many_0 40 rfl) ?_
      refine g_geti (ci := 0) (k := 0) C rfl (by decide) rfl lf_TestJudge_119 hx.2.2.2.2.1.2.1 (gd DX9_many_0 41 rfl) ?_
      refine g_cV1 (ci := 9) C [_] mX9_allow lm_TestJudge_128 (by exact hx.1) rfl rfl (e_x_allow hx _) hfl (by first | decide | omega) (by decide) (by omega) (by omega) rfl rfl (Nat.le_of_ble_eq_true rfl) (gd DX9_many_0 42 rfl) ?_
      exact g_iret C (by omega) (by omega) (aQ.r K hM rfl (Or.inr ⟨hk0, d0, rfl⟩)) (gd DX9_many_0 43 rfl)
    · refine g_tableIn C 132 (gd DX9_many_0 1 rfl) (by decide) (by decide) rfl (by decide) ?_
      obtain ⟨b, b1, b2, b3⟩ := K.bar
      refine g_aload_n C (gd DX9_many_0 44 rfl) 0 rfl rfl ?_
      refine g_aload_n C (gd DX9_many_0 45 rfl) 0 rfl rfl ?_
      refine g_getr (ci := 9) (k := 6) C rfl (by decide) rfl lf_TestJudge_36 hx.1 hx.2.2.2.1.1 (gd DX9_many_0 46 rfl) ?_
      refine g_aload_n C (gd DX9_many_0 47 rfl) 0 rfl rfl ?_
      refine g_getr (ci := 9) (k := 6) C rfl (by decide) rfl lf_TestJudge_36 hx.1 hx.2.2.2.1.1 (gd DX9_many_0 48 rfl) ?_
      refine g_geti (ci := 8) (k := 4) C rfl (by decide) rfl lf_TestJudge_144 hx.2.2.2.1.2.1 (gd DX9_many_0 49 rfl) ?_
      rw [w4]
      refine g_cV1 (ci := 8) C [_] mX8_bar lm_TestJudge_147 (by exact hx.2.2.2.1.2.1) rfl rfl (e_w_barZ hx.2.2.2.1.2 K.2.1.s4 b1) hfl (by first | decide | omega) (by decide) (by omega) (by omega) rfl rfl (Nat.le_of_ble_eq_true rfl) (gd DX9_many_0 50 rfl) ?_
      refine g_geti (ci := 2) (k := 1) C rfl (by decide) rfl lf_TestJudge_151 b2 (gd DX9_many_0 51 rfl) ?_
      refine g_cV1 (ci := 9) C [_] mX9_allow lm_TestJudge_128 (by exact hx.1) rfl rfl (e_x_allow hx _) hfl (by first | decide | omega) (by decide) (by omega) (by omega) rfl rfl (Nat.le_of_ble_eq_true rfl) (gd DX9_many_0 52 rfl) ?_
      exact g_iret C (by omega) (by omega) (aQ.r K hM rfl (Or.inr ⟨hk0, b3, rfl⟩)) (gd DX9_many_0 53 rfl)
  · have ho : k.toInt < 0 ∨ 7 < k.toInt := by
      by_cases e : k.toInt < 0
      · exact Or.inl e
      · refine Or.inr (Classical.byContradiction (fun q => hk ⟨?_, ?_⟩))
        · exact Int32.le_iff_toInt_le.mpr (by rw [show (0 : Int32).toInt = 0 from by decide]; omega)
        · exact Int32.le_iff_toInt_le.mpr (by rw [show (7 : Int32).toInt = 7 from by decide]; omega)
    refine g_tableOut C 154 (gd DX9_many_0 1 rfl) ho (by decide) ?_
    refine g_aload_n C (gd DX9_many_0 54 rfl) 0 rfl rfl ?_
    refine g_iconst (v := 1) C (gd DX9_many_0 55 rfl) (by decide) ?_
    refine g_cV1 (ci := 9) C [_] mX9_refuse lm_TestJudge_90 (by exact hx.1) rfl rfl (e_x_refuse hx 1) hfl (by first | decide | omega) (by decide) (by omega) (by omega) rfl rfl (Nat.le_of_ble_eq_true rfl) (gd DX9_many_0 56 rfl) ?_
    exact g_iret C (by omega) (by omega) (aQ.r K hM rfl (Or.inl ⟨hk, rfl, rfl⟩)) (gd DX9_many_0 57 rfl)
theorem e_x_program (K : K0 x W h V RC) (hM : kvM x h M) (p k : Int32) : Ev w 2 0 0 yX9_program cX9_program 4 (some .int) [.ref x, .int p, .int k] h (aQ x (qQ V M (qPrg V k p))) := by
  refine g_start (by decide) (Nat.le_of_ble_eq_true rfl) [(0, _), (1, _), (2, _)] rfl (fun z hfl C => ?_)
  have hx := K.1
  obtain ⟨w0, w1, w2, w3, w4⟩ := K.2.2.1.1
  have hnp := K.2.1.np
  have k9 : (¬ (0 ≤ k ∧ k ≤ 1)) → GW z w 4 (gQ z w 0 0 (fun r' h'' => aQ x (qQ V M (qPrg V k p)) r' h'')) 0 0 9 [(0, .ref x), (1, .int p), (2, .int k)] [] h := by
    intro q
    refine g_aload_n C (gd DX9_program_0 5 rfl) 0 rfl rfl ?_
    refine g_iconst (v := 1) C (gd DX9_program_0 6 rfl) (by decide) ?_
    refine g_cV1 (ci := 9) C [_] mX9_refuse lm_TestJudge_90 (by exact hx.1) rfl rfl (e_x_refuse hx 1) hfl (by first | decide | omega) (by decide) (by omega) (by omega) rfl rfl (Nat.le_of_ble_eq_true rfl) (gd DX9_program_0 7 rfl) ?_
    exact g_iret C (by omega) (by omega) (aQ.r K hM rfl (Or.inl ⟨q, rfl, rfl⟩)) (gd DX9_program_0 8 rfl)
  have k15 : (0 ≤ k ∧ k ≤ 1) → GW z w 4 (gQ z w 0 0 (fun r' h'' => aQ x (qQ V M (qPrg V k p)) r' h'')) 0 0 15 [(0, .ref x), (1, .int p), (2, .int k)] [] h := by
    intro q
    refine g_aload_n C (gd DX9_program_0 9 rfl) 0 rfl rfl ?_
    refine g_iload_n C (gd DX9_program_0 10 rfl) 1 rfl rfl ?_
    refine g_cV1 (ci := 9) C [_] mX9_lacks lm_TestJudge_154 (by exact hx.1) rfl rfl (e_x_lacks hx (by omega) w2 p) hfl (by first | decide | omega) (by decide) (by omega) (by omega) rfl rfl (Nat.le_of_ble_eq_true rfl) (gd DX9_program_0 11 rfl) ?_
    by_cases n1 : 0 ≤ p ∧ p ≤ nI (vNp V) - 1
    rotate_left
    · rw [b1_t (show ¬ (0 ≤ p ∧ p ≤ nI (vNp V) - 1) from n1)]
      refine g_if_eq C 29 (gd DX9_program_0 12 rfl) (by decide) (fun c20 => ?_) (fun c20 => ?_)
      · exact absurd c20 (by decide)
      · refine g_aload_n C (gd DX9_program_0 13 rfl) 0 rfl rfl ?_
        refine g_iconst (v := 2) C (gd DX9_program_0 14 rfl) (by decide) ?_
        refine g_cV1 (ci := 9) C [_] mX9_refuse lm_TestJudge_90 (by exact hx.1) rfl rfl (e_x_refuse hx 2) hfl (by first | decide | omega) (by decide) (by omega) (by omega) rfl rfl (Nat.le_of_ble_eq_true rfl) (gd DX9_program_0 15 rfl) ?_
        exact g_iret C (by omega) (by omega) (aQ.r K hM rfl (Or.inr ⟨q, Or.inl ⟨n1, rfl, rfl⟩⟩)) (gd DX9_program_0 16 rfl)
    rw [b1_f (show ¬ ¬ (0 ≤ p ∧ p ≤ nI (vNp V) - 1) from fun q => q n1)]
    refine g_if_eq C 29 (gd DX9_program_0 12 rfl) (by decide) (fun c20 => ?_) (fun c20 => ?_)
    rotate_left
    · exact absurd rfl c20
    obtain ⟨r, hr, rfl⟩ := below_of (by omega) n1
    obtain ⟨a, a1, a2, a3, a4⟩ := K.2.2.1.2.1 r hr
    refine g_aload_n C (gd DX9_program_0 17 rfl) 0 rfl rfl ?_
    refine g_getr (ci := 9) (k := 6) C rfl (by decide) rfl lf_TestJudge_36 hx.1 hx.2.2.2.1.1 (gd DX9_program_0 18 rfl) ?_
    refine g_iload_n C (gd DX9_program_0 19 rfl) 1 rfl rfl ?_
    refine g_cV1 (ci := 8) C [_] mX8_piece lm_TestJudge_158 (by exact hx.2.2.2.1.2.1) rfl rfl (e_w_piece hx.2.2.2.1.2 hnp w2 hr a1) hfl (by first | decide | omega) (by decide) (by omega) (by omega) rfl rfl (Nat.le_of_ble_eq_true rfl) (gd DX9_program_0 20 rfl) ?_
    refine g_geti (ci := 2) (k := 0) C rfl (by decide) rfl lf_TestJudge_161 a3.2.2.1 (gd DX9_program_0 21 rfl) ?_
    rw [a3.2.2.2.1]
    refine g_istore_n (lv' := [(0, _), (1, _), (2, _), (3, _)]) C (gd DX9_program_0 22 rfl) [1, 2, 3, 0] rfl (by decide) rfl ?_
    refine g_aload_n C (gd DX9_program_0 23 rfl) 0 rfl rfl ?_
    refine g_iload_n C (gd DX9_program_0 24 rfl) 2 rfl rfl ?_
    refine g_if_ne C 50 (gd DX9_program_0 25 rfl) (by decide) (fun c43 => ?_) (fun c43 => ?_)
    · rcases k01.mp q with e | e
      · exact absurd e c43
      subst e
      refine g_iload_n C (gd DX9_program_0 28 rfl) 3 rfl rfl ?_
      refine g_if_ne C 58 (gd DX9_program_0 29 rfl) (by decide) (fun c51 => ?_) (fun c51 => ?_)
      · refine g_iconst (v := 0) C (gd DX9_program_0 32 rfl) (by decide) ?_
        refine g_cS1 C [_] mX9_bit lm_TestJudge_164 (e_x_bit (Or.inl rfl)) hfl (by first | decide | omega) (by decide) (by omega) (by omega) rfl rfl (Nat.le_of_ble_eq_true rfl) (gd DX9_program_0 33 rfl) ?_
        refine g_cV1 (ci := 9) C [_] mX9_allow lm_TestJudge_128 (by exact hx.1) rfl rfl (e_x_allow hx _) hfl (by first | decide | omega) (by decide) (by omega) (by omega) rfl rfl (Nat.le_of_ble_eq_true rfl) (gd DX9_program_0 34 rfl) ?_
        exact g_iret C (by omega) (by omega) (aQ.r K hM rfl (Or.inr ⟨q, Or.inr ⟨r, hr, rfl, (b1_f c51).symm, rfl⟩⟩)) (gd DX9_program_0 35 rfl)
      · refine g_iconst (v := 1) C (gd DX9_program_0 30 rfl) (by decide) ?_
        refine g_goto (tgt := 59) C (gd DX9_program_0 31 rfl) (by decide) ?_
        refine g_cS1 C [_] mX9_bit lm_TestJudge_164 (e_x_bit (Or.inr rfl)) hfl (by first | decide | omega) (by decide) (by omega) (by omega) rfl rfl (Nat.le_of_ble_eq_true rfl) (gd DX9_program_0 33 rfl) ?_
        refine g_cV1 (ci := 9) C [_] mX9_allow lm_TestJudge_128 (by exact hx.1) rfl rfl (e_x_allow hx _) hfl (by first | decide | omega) (by decide) (by omega) (by omega) rfl rfl (Nat.le_of_ble_eq_true rfl) (gd DX9_program_0 34 rfl) ?_
        exact g_iret C (by omega) (by omega) (aQ.r K hM rfl (Or.inr ⟨q, Or.inr ⟨r, hr, rfl, (b1_t c51).symm, rfl⟩⟩)) (gd DX9_program_0 35 rfl)
    · refine g_iload_n C (gd DX9_program_0 26 rfl) 3 rfl rfl ?_
      refine g_goto (tgt := 62) C (gd DX9_program_0 27 rfl) (by decide) ?_
      refine g_cV1 (ci := 9) C [_] mX9_allow lm_TestJudge_128 (by exact hx.1) rfl rfl (e_x_allow hx _) hfl (by first | decide | omega) (by decide) (by omega) (by omega) rfl rfl (Nat.le_of_ble_eq_true rfl) (gd DX9_program_0 34 rfl) ?_
      exact g_iret C (by omega) (by omega) (aQ.r K hM rfl (Or.inr ⟨q, Or.inr ⟨r, hr, rfl, (if_pos c43).symm, rfl⟩⟩)) (gd DX9_program_0 35 rfl)
  refine g_iload_n C (gd DX9_program_0 0 rfl) 2 rfl rfl ?_
  refine g_if_eq C 15 (gd DX9_program_0 1 rfl) (by decide) (fun c1 => ?_) (fun c1 => ?_)
  · exact k15 (k01.mpr (Or.inl c1))
  · refine g_iload_n C (gd DX9_program_0 2 rfl) 2 rfl rfl ?_
    refine g_iconst (v := 1) C (gd DX9_program_0 3 rfl) (by decide) ?_
    refine g_icmp_eq C 15 (gd DX9_program_0 4 rfl) (by decide) (fun c6 => ?_) (fun c6 => ?_)
    · exact k15 (k01.mpr (Or.inr c6))
    · exact k9 (fun q => by rcases k01.mp q with e | e; exact c1 e; exact c6 e)
theorem e_x_fact (K : K0 x W h V RC) (hM : kvM x h M) (p k : Int32) : Ev w 2 0 0 yX9_fact cX9_fact 3 (some .int) [.ref x, .int p, .int k] h (aQ x (qQ V M (qFct V k p))) := by
  refine g_start (by decide) (Nat.le_of_ble_eq_true rfl) [(0, _), (1, _), (2, _)] rfl (fun z hfl C => ?_)
  have hx := K.1
  obtain ⟨w0, w1, w2, w3, w4⟩ := K.2.2.1.1
  have hnf : vNf V ≤ 2 := K.2.1.1.2.2.1
  have k9 : (¬ (0 ≤ k ∧ k ≤ 1)) → GW z w 3 (gQ z w 0 0 (fun r' h'' => aQ x (qQ V M (qFct V k p)) r' h'')) 0 0 9 [(0, .ref x), (1, .int p), (2, .int k)] [] h := by
    intro q
    refine g_aload_n C (gd DX9_fact_0 5 rfl) 0 rfl rfl ?_
    refine g_iconst (v := 1) C (gd DX9_fact_0 6 rfl) (by decide) ?_
    refine g_cV1 (ci := 9) C [_] mX9_refuse lm_TestJudge_90 (by exact hx.1) rfl rfl (e_x_refuse hx 1) hfl (by first | decide | omega) (by decide) (by omega) (by omega) rfl rfl (Nat.le_of_ble_eq_true rfl) (gd DX9_fact_0 7 rfl) ?_
    exact g_iret C (by omega) (by omega) (aQ.r K hM rfl (Or.inl ⟨q, rfl, rfl⟩)) (gd DX9_fact_0 8 rfl)
  have k15 : (0 ≤ k ∧ k ≤ 1) → GW z w 3 (gQ z w 0 0 (fun r' h'' => aQ x (qQ V M (qFct V k p)) r' h'')) 0 0 15 [(0, .ref x), (1, .int p), (2, .int k)] [] h := by
    intro q
    refine g_aload_n C (gd DX9_fact_0 9 rfl) 0 rfl rfl ?_
    refine g_iload_n C (gd DX9_fact_0 10 rfl) 1 rfl rfl ?_
    refine g_cV1 (ci := 9) C [_] mX9_lacksFact lm_TestJudge_168 (by exact hx.1) rfl rfl (e_x_lacksFact hx (by omega) w3 p) hfl (by first | decide | omega) (by decide) (by omega) (by omega) rfl rfl (Nat.le_of_ble_eq_true rfl) (gd DX9_fact_0 11 rfl) ?_
    by_cases n1 : 0 ≤ p ∧ p ≤ nI (vNf V) - 1
    rotate_left
    · rw [b1_t (show ¬ (0 ≤ p ∧ p ≤ nI (vNf V) - 1) from n1)]
      refine g_if_eq C 29 (gd DX9_fact_0 12 rfl) (by decide) (fun c20 => ?_) (fun c20 => ?_)
      · exact absurd c20 (by decide)
      · refine g_aload_n C (gd DX9_fact_0 13 rfl) 0 rfl rfl ?_
        refine g_iconst (v := 2) C (gd DX9_fact_0 14 rfl) (by decide) ?_
        refine g_cV1 (ci := 9) C [_] mX9_refuse lm_TestJudge_90 (by exact hx.1) rfl rfl (e_x_refuse hx 2) hfl (by first | decide | omega) (by decide) (by omega) (by omega) rfl rfl (Nat.le_of_ble_eq_true rfl) (gd DX9_fact_0 15 rfl) ?_
        exact g_iret C (by omega) (by omega) (aQ.r K hM rfl (Or.inr ⟨q, Or.inl ⟨n1, rfl, rfl⟩⟩)) (gd DX9_fact_0 16 rfl)
    rw [b1_f (show ¬ ¬ (0 ≤ p ∧ p ≤ nI (vNf V) - 1) from fun q => q n1)]
    refine g_if_eq C 29 (gd DX9_fact_0 12 rfl) (by decide) (fun c20 => ?_) (fun c20 => ?_)
    rotate_left
    · exact absurd rfl c20
    obtain ⟨r, hr, rfl⟩ := below_of (by omega) n1
    obtain ⟨b, b1', b2, b3, b4, b5, b6⟩ := K.2.2.1.2.2.1 r hr
    refine g_aload_n C (gd DX9_fact_0 17 rfl) 0 rfl rfl ?_
    refine g_iload_n C (gd DX9_fact_0 18 rfl) 2 rfl rfl ?_
    refine g_if_ne C 48 (gd DX9_fact_0 19 rfl) (by decide) (fun c31 => ?_) (fun c31 => ?_)
    · rcases k01.mp q with e | e
      · exact absurd e c31
      subst e
      refine g_aload_n C (gd DX9_fact_0 26 rfl) 0 rfl rfl ?_
      refine g_getr (ci := 9) (k := 6) C rfl (by decide) rfl lf_TestJudge_36 hx.1 hx.2.2.2.1.1 (gd DX9_fact_0 27 rfl) ?_
      refine g_geti (ci := 8) (k := 4) C rfl (by decide) rfl lf_TestJudge_144 hx.2.2.2.1.2.1 (gd DX9_fact_0 28 rfl) ?_
      rw [w4]
      refine g_iload_n C (gd DX9_fact_0 29 rfl) 1 rfl rfl ?_
      refine g_ishr C (gd DX9_fact_0 30 rfl) ?_
      refine g_iconst (v := 1) C (gd DX9_fact_0 31 rfl) (by decide) ?_
      refine g_iand C (gd DX9_fact_0 32 rfl) ?_
      refine g_cV1 (ci := 9) C [_] mX9_allow lm_TestJudge_128 (by exact hx.1) rfl rfl (e_x_allow hx _) hfl (by first | decide | omega) (by decide) (by omega) (by omega) rfl rfl (Nat.le_of_ble_eq_true rfl) (gd DX9_fact_0 33 rfl) ?_
      exact g_iret C (by omega) (by omega) (aQ.r K hM rfl (Or.inr ⟨q, Or.inr ⟨r, hr, rfl, rfl, rfl⟩⟩)) (gd DX9_fact_0 34 rfl)
    · refine g_aload_n C (gd DX9_fact_0 20 rfl) 0 rfl rfl ?_
      refine g_getr (ci := 9) (k := 6) C rfl (by decide) rfl lf_TestJudge_36 hx.1 hx.2.2.2.1.1 (gd DX9_fact_0 21 rfl) ?_
      refine g_iload_n C (gd DX9_fact_0 22 rfl) 1 rfl rfl ?_
      refine g_cV1 (ci := 8) C [_] mX8_factPiece lm_TestJudge_171 (by exact hx.2.2.2.1.2.1) rfl rfl (e_w_factPiece hx.2.2.2.1.2 hnf w3 hr b1') hfl (by first | decide | omega) (by decide) (by omega) (by omega) rfl rfl (Nat.le_of_ble_eq_true rfl) (gd DX9_fact_0 23 rfl) ?_
      refine g_geti (ci := 2) (k := 0) C rfl (by decide) rfl lf_TestJudge_161 b5 (gd DX9_fact_0 24 rfl) ?_
      rw [b6]
      refine g_goto (tgt := 59) C (gd DX9_fact_0 25 rfl) (by decide) ?_
      refine g_cV1 (ci := 9) C [_] mX9_allow lm_TestJudge_128 (by exact hx.1) rfl rfl (e_x_allow hx _) hfl (by first | decide | omega) (by decide) (by omega) (by omega) rfl rfl (Nat.le_of_ble_eq_true rfl) (gd DX9_fact_0 33 rfl) ?_
      exact g_iret C (by omega) (by omega) (aQ.r K hM rfl (Or.inr ⟨q, Or.inr ⟨r, hr, rfl, (if_pos c31).symm, rfl⟩⟩)) (gd DX9_fact_0 34 rfl)
  refine g_iload_n C (gd DX9_fact_0 0 rfl) 2 rfl rfl ?_
  refine g_if_eq C 15 (gd DX9_fact_0 1 rfl) (by decide) (fun c1 => ?_) (fun c1 => ?_)
  · exact k15 (k01.mpr (Or.inl c1))
  · refine g_iload_n C (gd DX9_fact_0 2 rfl) 2 rfl rfl ?_
    refine g_iconst (v := 1) C (gd DX9_fact_0 3 rfl) (by decide) ?_
    refine g_icmp_eq C 15 (gd DX9_fact_0 4 rfl) (by decide) (fun c6 => ?_) (fun c6 => ?_)
    · exact k15 (k01.mpr (Or.inr c6))
    · exact k9 (fun q => by rcases k01.mp q with e | e; exact c1 e; exact c6 e)
theorem e_x_atoms (K : K0 x W h V RC) (hM : kvM x h M) (p : Int32) : Ev w 2 0 0 yX9_atoms cX9_atoms 2 (some .int) [.ref x, .int p] h (aQ x (qQ V M (one (vNp V) p (qAto V)))) := by
  refine g_start (by decide) (Nat.le_of_ble_eq_true rfl) [(0, _), (1, _)] rfl (fun z hfl C => ?_)
  have hx := K.1
  obtain ⟨w0, w1, w2, w3, w4⟩ := K.2.2.1.1
  have hnp := K.2.1.np
  refine g_aload_n C (gd DX9_atoms_0 0 rfl) 0 rfl rfl ?_
  refine g_iload_n C (gd DX9_atoms_0 1 rfl) 1 rfl rfl ?_
  refine g_cV1 (ci := 9) C [_] mX9_lacks lm_TestJudge_154 (by exact hx.1) rfl rfl (e_x_lacks hx (by omega) w2 p) hfl (by first | decide | omega) (by decide) (by omega) (by omega) rfl rfl (Nat.le_of_ble_eq_true rfl) (gd DX9_atoms_0 2 rfl) ?_
  by_cases n1 : 0 ≤ p ∧ p ≤ nI (vNp V) - 1
  rotate_left
  · rw [b1_t (show ¬ (0 ≤ p ∧ p ≤ nI (vNp V) - 1) from n1)]
    refine g_if_eq C 14 (gd DX9_atoms_0 3 rfl) (by decide) (fun c5 => ?_) (fun c5 => ?_)
    · exact absurd c5 (by decide)
    · refine g_aload_n C (gd DX9_atoms_0 4 rfl) 0 rfl rfl ?_
      refine g_iconst (v := 2) C (gd DX9_atoms_0 5 rfl) (by decide) ?_
      refine g_cV1 (ci := 9) C [_] mX9_refuse lm_TestJudge_90 (by exact hx.1) rfl rfl (e_x_refuse hx 2) hfl (by first | decide | omega) (by decide) (by omega) (by omega) rfl rfl (Nat.le_of_ble_eq_true rfl) (gd DX9_atoms_0 6 rfl) ?_
      exact g_iret C (by omega) (by omega) (aQ.r K hM rfl (Or.inl ⟨n1, rfl, rfl⟩)) (gd DX9_atoms_0 7 rfl)
  rw [b1_f (show ¬ ¬ (0 ≤ p ∧ p ≤ nI (vNp V) - 1) from fun q => q n1)]
  refine g_if_eq C 14 (gd DX9_atoms_0 3 rfl) (by decide) (fun c5 => ?_) (fun c5 => ?_)
  rotate_left
  · exact absurd rfl c5
  obtain ⟨r, hr, rfl⟩ := below_of (by omega) n1
  obtain ⟨a, a1, a2, a3, a4⟩ := K.2.2.1.2.1 r hr
  obtain ⟨b, b1', b2, b3⟩ := K.bar
  refine g_aload_n C (gd DX9_atoms_0 8 rfl) 0 rfl rfl ?_
  refine g_aload_n C (gd DX9_atoms_0 9 rfl) 0 rfl rfl ?_
  refine g_getr (ci := 9) (k := 6) C rfl (by decide) rfl lf_TestJudge_36 hx.1 hx.2.2.2.1.1 (gd DX9_atoms_0 10 rfl) ?_
  refine g_iload_n C (gd DX9_atoms_0 11 rfl) 1 rfl rfl ?_
  refine g_cV1 (ci := 8) C [_] mX8_piece lm_TestJudge_158 (by exact hx.2.2.2.1.2.1) rfl rfl (e_w_piece hx.2.2.2.1.2 hnp w2 hr a1) hfl (by first | decide | omega) (by decide) (by omega) (by omega) rfl rfl (Nat.le_of_ble_eq_true rfl) (gd DX9_atoms_0 12 rfl) ?_
  refine g_geti (ci := 2) (k := 1) C rfl (by decide) rfl lf_TestJudge_151 a3.2.2.1 (gd DX9_atoms_0 13 rfl) ?_
  refine g_aload_n C (gd DX9_atoms_0 14 rfl) 0 rfl rfl ?_
  refine g_getr (ci := 9) (k := 6) C rfl (by decide) rfl lf_TestJudge_36 hx.1 hx.2.2.2.1.1 (gd DX9_atoms_0 15 rfl) ?_
  refine g_aload_n C (gd DX9_atoms_0 16 rfl) 0 rfl rfl ?_
  refine g_getr (ci := 9) (k := 6) C rfl (by decide) rfl lf_TestJudge_36 hx.1 hx.2.2.2.1.1 (gd DX9_atoms_0 17 rfl) ?_
  refine g_geti (ci := 8) (k := 4) C rfl (by decide) rfl lf_TestJudge_144 hx.2.2.2.1.2.1 (gd DX9_atoms_0 18 rfl) ?_
  rw [w4, a3.2.2.2.2.1]
  refine g_cV1 (ci := 8) C [_] mX8_bar lm_TestJudge_147 (by exact hx.2.2.2.1.2.1) rfl rfl (e_w_barZ hx.2.2.2.1.2 K.2.1.s4 b1') hfl (by first | decide | omega) (by decide) (by omega) (by omega) rfl rfl (Nat.le_of_ble_eq_true rfl) (gd DX9_atoms_0 19 rfl) ?_
  refine g_geti (ci := 2) (k := 1) C rfl (by decide) rfl lf_TestJudge_151 b2 (gd DX9_atoms_0 20 rfl) ?_
  rw [b3]
  refine g_iconst (v := -1) C (gd DX9_atoms_0 21 rfl) (by decide) ?_
  refine g_ixor C (gd DX9_atoms_0 22 rfl) ?_
  refine g_iand C (gd DX9_atoms_0 23 rfl) ?_
  refine g_cV1 (ci := 9) C [_] mX9_allow lm_TestJudge_128 (by exact hx.1) rfl rfl (e_x_allow hx _) hfl (by first | decide | omega) (by decide) (by omega) (by omega) rfl rfl (Nat.le_of_ble_eq_true rfl) (gd DX9_atoms_0 24 rfl) ?_
  exact g_iret C (by omega) (by omega) (aQ.r K hM rfl (Or.inr ⟨r, hr, rfl, rfl, rfl⟩)) (gd DX9_atoms_0 25 rfl)
theorem e_x_status (K : K0 x W h V RC) (hM : kvM x h M) : Ev w 1 0 0 yX9_status cX9_status 1 (some .int) [.ref x] h (aQ x (qSay V M M.2.1.1)) := by
  refine g_start (by decide) (Nat.le_of_ble_eq_true rfl) [(0, _)] rfl (fun z hfl C => ?_)
  have hx := K.1
  refine g_aload_n C (gd DX9_status_0 0 rfl) 0 rfl rfl ?_
  refine g_geti (ci := 9) (k := 3) C rfl (by decide) rfl lf_TestJudge_24 hx.1 (gd DX9_status_0 1 rfl) ?_
  rw [hM.2.1.1]
  exact g_iret C (by omega) (by omega) ⟨_, V, M, rfl, ⟨W, RC, K, hM⟩, rfl, rfl, rfl⟩ (gd DX9_status_0 2 rfl)
theorem e_x_fault (K : K0 x W h V RC) (hM : kvM x h M) (k : Int32) : Ev w 1 0 0 yX9_fault cX9_fault 2 (some .int) [.ref x, .int k] h (aQ x (qSay V M (if k = 0 then M.2.1.2.1 else if k = 1 then M.2.1.2.2 else -1))) := by
  refine g_start (by decide) (Nat.le_of_ble_eq_true rfl) [(0, _), (1, _)] rfl (fun z hfl C => ?_)
  have hx := K.1
  refine g_iload_n C (gd DX9_fault_0 0 rfl) 1 rfl rfl ?_
  refine g_if_ne C 11 (gd DX9_fault_0 1 rfl) (by decide) (fun c1 => ?_) (fun c1 => ?_)
  · refine g_iload_n C (gd DX9_fault_0 5 rfl) 1 rfl rfl ?_
    refine g_iconst (v := 1) C (gd DX9_fault_0 6 rfl) (by decide) ?_
    refine g_icmp_ne C 23 (gd DX9_fault_0 7 rfl) (by decide) (fun c13 => ?_) (fun c13 => ?_)
    · refine g_iconst (v := -1) C (gd DX9_fault_0 11 rfl) (by decide) ?_
      exact g_iret C (by omega) (by omega) ⟨_, V, M, rfl, ⟨W, RC, K, hM⟩, by rw [if_neg c1, if_neg c13], rfl, rfl⟩ (gd DX9_fault_0 12 rfl)
    · refine g_aload_n C (gd DX9_fault_0 8 rfl) 0 rfl rfl ?_
      refine g_geti (ci := 9) (k := 5) C rfl (by decide) rfl lf_TestJudge_30 hx.1 (gd DX9_fault_0 9 rfl) ?_
      rw [hM.2.1.2.2]
      refine g_goto (tgt := 24) C (gd DX9_fault_0 10 rfl) (by decide) ?_
      exact g_iret C (by omega) (by omega) ⟨_, V, M, rfl, ⟨W, RC, K, hM⟩, by rw [if_neg c1, if_pos c13], rfl, rfl⟩ (gd DX9_fault_0 12 rfl)
  · refine g_aload_n C (gd DX9_fault_0 2 rfl) 0 rfl rfl ?_
    refine g_geti (ci := 9) (k := 4) C rfl (by decide) rfl lf_TestJudge_27 hx.1 (gd DX9_fault_0 3 rfl) ?_
    rw [hM.2.1.2.1]
    refine g_goto (tgt := 24) C (gd DX9_fault_0 4 rfl) (by decide) ?_
    exact g_iret C (by omega) (by omega) ⟨_, V, M, rfl, ⟨W, RC, K, hM⟩, by rw [if_pos c1], rfl, rfl⟩ (gd DX9_fault_0 12 rfl)
end SMX
