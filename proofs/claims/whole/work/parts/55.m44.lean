/-! Math.max; makes: what is made of two records -/
section MX
variable {z : gZ} {w : gD} {d MC MS n : Nat} {y : MethodName} {cc : ByteArray} {ret : Option FieldType} {Q : State → Prop} {cn sn pc : Nat} {lv lv' : List (Nat × Value)} {rest : List Value} {h : HS}
theorem g_max (C : GC z w d MC MS y cc n ret) {index : Nat} (hl : Cond.methodLink y.cls index yJ9_max_7cf53 ∈ gtb) (hdd : 1 ≤ d) (h1 : cn ≤ MC) (h2 : sn ≤ MS) {x x2 : Int32} (hrm : (rest.map fun v => v.category).sum ≤ 8) (hd : decode cc pc = .ok (.invokestatic index, 3)) (kk : GW z w n Q cn sn (pc + 3) lv (.int (if x < x2 then x2 else x) :: rest) h) : GW z w n Q cn sn pc lv (.int x2 :: .int x :: rest) h := by
  intro H locs ls hR0 hL hlv
  have hT := C.2.2.2.2.1
  have hfr := C.2.2.2.2.2.2.2.2.2.1
  have hlo := C.2.2.2.2.2.2.2.2.2.2.1
  have hce := C.2.2.2.2.2.2.2.2.2.2.2.1
  have hsl := C.2.2.2.2.2.2.2.2.2.2.2.2
  exact va_mmax C.1 C.2.1 (by rw [C.2.2.1]; first | exact hlv.1 | exact hlv.1.symm) C.2.2.2.1 (hT _ hl) (hT _ mJ9_max_7cf53.1) (hT _ mJ9_max_7cf53.2.1) (hT _ mJ9_max_7cf53.2.2.1) (by omega) (by omega) (by rw [hce]; exact h1) (by rw [hsl]; exact h2) hd (kk H locs ls hR0 hL hlv)
end MX
theorem bgP_ag {R R' : Nat → Int32} (h : Ag R R') (e : Int32) (o p : Nat) : Ag (bgP R e o p) (bgP R' e o p) := by
  intro k hk
  simp only [bgP]
  rw [h 1 (by omega), h k hk]
theorem rBegins_ag {R R' : Nat → Int32} (h : Ag R R') (a : Nat) (e : Int32) : Ag (rBegins R a e) (rBegins R' a e) := by
  unfold rBegins
  split
  · exact bgP_ag h e 18 a
  · exact h
theorem rFinish_ag {R R' : Nat → Int32} (h : Ag R R') (a : Nat) (e : Int32) : Ag (rFinish R a e) (rFinish R' a e) := by
  unfold rFinish
  split
  · exact bgP_ag h e 34 a
  · exact h
theorem rStar_ag {R R' : Nat → Int32} (h : Ag R R') (a : Nat) (all : Int32) : Ag (rStar R a all) (rStar R' a all) := by
  unfold rStar
  split
  · intro k hk
    simp only [stP]
    by_cases e1 : k = 1
    · rw [if_pos e1, if_pos e1]
    · rw [if_neg e1, if_neg e1]
      split
      · rw [h k hk, h (34 + (k - 50) / 16) (by omega), h (18 + (k - 50) % 16) (by omega)]
      · exact h k hk
  · exact h
/-- what is made: a choice, a sequence, a repetition, an if, a while -/
def mkR (c : Nat) (R R' : Nat → Int32) (a b : Nat) (its all : Int32) : Nat → Int32 := if c = 0 then rSum R R' a b else if c = 1 then rJoin R R' a b else if c = 2 then rStar R a all else if c = 3 then rSum (rBegins R a its) (rBegins R' b (all &&& (its ^^^ -1))) a b else rFinish (rStar (rBegins R a its) a all) a (all &&& (its ^^^ -1))
section M44
variable {w : gD} {m : Nat} {h : HS}
theorem e_m_makes (hm : mSh m h) {c r q a b t : Nat} (hc : c ≤ 4) (hr : r < 90) (hq : q < 90) (ht : t ≤ 3) (hte : hI h m 2 = nI t) (ha : gRec (hI h (m + 1)) r 0 = nI a) (hb : gRec (hI h (m + 1)) q 0 = nI b) (ha2 : a ≤ 100) (hb2 : b ≤ 100) (test : Int32) :
    Ev w 4 0 0 yX10_makes cX10_makes 6 none [.ref m, .int (nI c), .int (nI r), .int (nI q), .int test] h (fun r' h' => r' = none ∧ ∃ ρ, h' = sF h (m + 1) ρ ∧ (∀ x k, x < 90 → k < 307 → gRec ρ x k = gRec (hI h (m + 1)) x k) ∧ Ag (gRec ρ 91) (mkR c (gRec (hI h (m + 1)) r) (gRec (hI h (m + 1)) q) a b (holdF test (2 ^ t)) (allF (nI t)))) := by
  refine g_start (by decide) (Nat.le_of_ble_eq_true rfl) [(0, _), (1, _), (2, _), (3, _), (4, _)] rfl (fun z hfl C => ?_)
  have hp8 : 2 ^ t ≤ 8 := by rcases (show t = 0 ∨ t = 1 ∨ t = 2 ∨ t = 3 by omega) with e | e | e | e <;> rw [e] <;> decide
  generalize hρ : hI h (m + 1) = ρ0 at *
  generalize hits : holdF test (2 ^ t) = its
  generalize hall : allF (nI t) = all
  refine g_iload C (gd DX10_makes_0 0 rfl) 4 rfl ?_
  refine g_aload_n C (gd DX10_makes_0 1 rfl) 0 rfl rfl ?_
  refine g_cV1 (ci := 10) C [] mX10_atoms lm_TestJudgeModel_352 (by exact hm.1) rfl rfl (e_m_atoms hm) hfl (by decide) (by decide) (by omega) (by omega) rfl rfl (Nat.le_of_ble_eq_true rfl) (gd DX10_makes_0 2 rfl) ?_
  rw [hte, atF_n ht]
  refine g_cS1 C [_, _] mX10_holds lm_TestJudgeModel_298 (e_m_holds test hp8) hfl (by decide) (by decide) (by omega) (by omega) rfl rfl (Nat.le_of_ble_eq_true rfl) (gd DX10_makes_0 3 rfl) ?_
  rw [hits]
  refine g_istore (lv' := [(0, _), (1, _), (2, _), (3, _), (4, _), (5, _)]) C (gd DX10_makes_0 4 rfl) [1, 2, 3, 4, 5, 0] (by decide) rfl ?_
  refine g_aload_n C (gd DX10_makes_0 5 rfl) 0 rfl rfl ?_
  refine g_iload_n C (gd DX10_makes_0 6 rfl) 2 rfl rfl ?_
  refine g_bipush (v := 93) C (gd DX10_makes_0 7 rfl) (by decide) ?_
  refine g_cV0 (v := .null) (ci := 10) C [_, _] mX10_copies lm_TestJudgeModel_246 (by exact hm.1) rfl rfl (e_m_copies hm (r := r) (t := 93) (by omega) (by omega) (by omega)) hfl (by decide) (by decide) (by omega) (by omega) rfl rfl (Nat.le_of_ble_eq_true rfl) (gd DX10_makes_0 8 rfl) ?_
  rw [hρ]
  generalize hρ1 : pRec ρ0 93 (gRec ρ0 r) = ρ1
  have g1 : ∀ x, x ≠ 93 → Ag (gRec ρ1 x) (gRec ρ0 x) := fun x hx k hk => by rw [← hρ1, gRec_pRec_ne hk hx]
  have g93 : Ag (gRec ρ1 93) (gRec ρ0 r) := fun k hk => by rw [← hρ1, gRec_pRec hk]
  have w1 : gRec ρ1 r 0 = nI a := by rw [g1 r (by omega) 0 (by omega)]; exact ha
  have w2 : gRec ρ1 q 0 = nI b := by rw [g1 q (by omega) 0 (by omega)]; exact hb
  have w93 : gRec ρ1 93 0 = nI a := by rw [g93 0 (by omega)]; exact ha
  have te : ∀ ρ, allF (hI (sF h (m + 1) ρ) m 2) = all := fun ρ => by rw [hI_sF_ne (by omega), hte, hall]
  rcases (show c = 0 ∨ c = 1 ∨ c = 2 ∨ c = 3 ∨ c = 4 by omega) with rfl | rfl | rfl | rfl | rfl
  · refine g_iload_n C (gd DX10_makes_0 9 rfl) 1 rfl rfl ?_
    refine g_if_ne C 30 (gd DX10_makes_0 10 rfl) (by decide) (fun c19 => ?_) (fun c19 => ?_)
    · exact absurd rfl c19
    refine g_aload_n C (gd DX10_makes_0 11 rfl) 0 rfl rfl ?_
    refine g_iload_n C (gd DX10_makes_0 12 rfl) 2 rfl rfl ?_
    refine g_iload_n C (gd DX10_makes_0 13 rfl) 3 rfl rfl ?_
    refine g_bipush (v := 91) C (gd DX10_makes_0 14 rfl) (by decide) ?_
    refine g_cV0 (v := .null) (ci := 10) C [_, _, _] mX10_sums lm_TestJudgeModel_243 (by exact hm.1) rfl rfl (r_sums hm (x := r) (y := q) (t := 91) (by omega) (by omega) (by omega) (by omega) (by omega) w1 w2 (by omega)) hfl (by decide) (by decide) (by omega) (by omega) rfl rfl (Nat.le_of_ble_eq_true rfl) (gd DX10_makes_0 15 rfl) ?_
    refine g_iload_n C (gd DX10_makes_0 16 rfl) 1 rfl rfl ?_
    refine g_iconst (v := 1) C (gd DX10_makes_0 17 rfl) (by decide) ?_
    refine g_icmp_ne C 43 (gd DX10_makes_0 18 rfl) (by decide) (fun c32 => ?_) (fun c32 => ?_)
    rotate_left
    · exact absurd c32 (by decide)
    refine g_iload_n C (gd DX10_makes_0 24 rfl) 1 rfl rfl ?_
    refine g_iconst (v := 2) C (gd DX10_makes_0 25 rfl) (by decide) ?_
    refine g_icmp_ne C 58 (gd DX10_makes_0 26 rfl) (by decide) (fun c45 => ?_) (fun c45 => ?_)
    rotate_left
    · exact absurd c45 (by decide)
    refine g_iload_n C (gd DX10_makes_0 32 rfl) 1 rfl rfl ?_
    refine g_iconst (v := 4) C (gd DX10_makes_0 33 rfl) (by decide) ?_
    refine g_icmp_ne C 75 (gd DX10_makes_0 34 rfl) (by decide) (fun c60 => ?_) (fun c60 => ?_)
    rotate_left
    · exact absurd c60 (by decide)
    refine g_iload_n C (gd DX10_makes_0 41 rfl) 1 rfl rfl ?_
    refine g_iconst (v := 2) C (gd DX10_makes_0 42 rfl) (by decide) ?_
    refine g_icmp_eq C 85 (gd DX10_makes_0 43 rfl) (by decide) (fun c77 => ?_) (fun c77 => ?_)
    · exact absurd c77 (by decide)
    refine g_iload_n C (gd DX10_makes_0 44 rfl) 1 rfl rfl ?_
    refine g_iconst (v := 4) C (gd DX10_makes_0 45 rfl) (by decide) ?_
    refine g_icmp_ne C 93 (gd DX10_makes_0 46 rfl) (by decide) (fun c82 => ?_) (fun c82 => ?_)
    rotate_left
    · exact absurd c82 (by decide)
    refine g_iload_n C (gd DX10_makes_0 51 rfl) 1 rfl rfl ?_
    refine g_iconst (v := 3) C (gd DX10_makes_0 52 rfl) (by decide) ?_
    refine g_icmp_eq C 99 (gd DX10_makes_0 53 rfl) (by decide) (fun c95 => ?_) (fun c95 => ?_)
    · exact absurd c95 (by decide)
    exact g_vret C (by omega) (by omega) ⟨rfl, _, rfl, fun x k hx hk => by rw [gRec_pRec_ne hk (by omega)]; exact g1 x (by omega) k hk, fun k hk => by rw [gRec_pRec hk, rSum_ag (g1 r (by omega)) (g1 q (by omega))]; rfl⟩ (gd DX10_makes_0 54 rfl)
  · refine g_iload_n C (gd DX10_makes_0 9 rfl) 1 rfl rfl ?_
    refine g_if_ne C 30 (gd DX10_makes_0 10 rfl) (by decide) (fun c19 => ?_) (fun c19 => ?_)
    rotate_left
    · exact absurd c19 (by decide)
    refine g_iload_n C (gd DX10_makes_0 16 rfl) 1 rfl rfl ?_
    refine g_iconst (v := 1) C (gd DX10_makes_0 17 rfl) (by decide) ?_
    refine g_icmp_ne C 43 (gd DX10_makes_0 18 rfl) (by decide) (fun c32 => ?_) (fun c32 => ?_)
    · exact absurd rfl c32
    refine g_aload_n C (gd DX10_makes_0 19 rfl) 0 rfl rfl ?_
    refine g_iload_n C (gd DX10_makes_0 20 rfl) 2 rfl rfl ?_
    refine g_iload_n C (gd DX10_makes_0 21 rfl) 3 rfl rfl ?_
    refine g_bipush (v := 91) C (gd DX10_makes_0 22 rfl) (by decide) ?_
    refine g_cV0 (v := .null) (ci := 10) C [_, _, _] mX10_joins lm_TestJudgeModel_261 (by exact hm.1) rfl rfl (r_joins hm (x := r) (y := q) (t := 91) (by omega) (by omega) (by omega) (by omega) (by omega) w1 w2 (by omega)) hfl (by decide) (by decide) (by omega) (by omega) rfl rfl (Nat.le_of_ble_eq_true rfl) (gd DX10_makes_0 23 rfl) ?_
    refine g_iload_n C (gd DX10_makes_0 24 rfl) 1 rfl rfl ?_
    refine g_iconst (v := 2) C (gd DX10_makes_0 25 rfl) (by decide) ?_
    refine g_icmp_ne C 58 (gd DX10_makes_0 26 rfl) (by decide) (fun c45 => ?_) (fun c45 => ?_)
    rotate_left
    · exact absurd c45 (by decide)
    refine g_iload_n C (gd DX10_makes_0 32 rfl) 1 rfl rfl ?_
    refine g_iconst (v := 4) C (gd DX10_makes_0 33 rfl) (by decide) ?_
    refine g_icmp_ne C 75 (gd DX10_makes_0 34 rfl) (by decide) (fun c60 => ?_) (fun c60 => ?_)
    rotate_left
    · exact absurd c60 (by decide)
    refine g_iload_n C (gd DX10_makes_0 41 rfl) 1 rfl rfl ?_
    refine g_iconst (v := 2) C (gd DX10_makes_0 42 rfl) (by decide) ?_
    refine g_icmp_eq C 85 (gd DX10_makes_0 43 rfl) (by decide) (fun c77 => ?_) (fun c77 => ?_)
    · exact absurd c77 (by decide)
    refine g_iload_n C (gd DX10_makes_0 44 rfl) 1 rfl rfl ?_
    refine g_iconst (v := 4) C (gd DX10_makes_0 45 rfl) (by decide) ?_
    refine g_icmp_ne C 93 (gd DX10_makes_0 46 rfl) (by decide) (fun c82 => ?_) (fun c82 => ?_)
    rotate_left
    · exact absurd c82 (by decide)
    refine g_iload_n C (gd DX10_makes_0 51 rfl) 1 rfl rfl ?_
    refine g_iconst (v := 3) C (gd DX10_makes_0 52 rfl) (by decide) ?_
    refine g_icmp_eq C 99 (gd DX10_makes_0 53 rfl) (by decide) (fun c95 => ?_) (fun c95 => ?_)
    · exact absurd c95 (by decide)
    exact g_vret C (by omega) (by omega) ⟨rfl, _, rfl, fun x k hx hk => by rw [gRec_pRec_ne hk (by omega)]; exact g1 x (by omega) k hk, fun k hk => by rw [gRec_pRec hk, rJoin_ag (g1 r (by omega)) (g1 q (by omega))]; rfl⟩ (gd DX10_makes_0 54 rfl)
  · refine g_iload_n C (gd DX10_makes_0 9 rfl) 1 rfl rfl ?_
    refine g_if_ne C 30 (gd DX10_makes_0 10 rfl) (by decide) (fun c19 => ?_) (fun c19 => ?_)
    rotate_left
    · exact absurd c19 (by decide)
    refine g_iload_n C (gd DX10_makes_0 16 rfl) 1 rfl rfl ?_
    refine g_iconst (v := 1) C (gd DX10_makes_0 17 rfl) (by decide) ?_
    refine g_icmp_ne C 43 (gd DX10_makes_0 18 rfl) (by decide) (fun c32 => ?_) (fun c32 => ?_)
    rotate_left
    · exact absurd c32 (by decide)
    refine g_iload_n C (gd DX10_makes_0 24 rfl) 1 rfl rfl ?_
    refine g_iconst (v := 2) C (gd DX10_makes_0 25 rfl) (by decide) ?_
    refine g_icmp_ne C 58 (gd DX10_makes_0 26 rfl) (by decide) (fun c45 => ?_) (fun c45 => ?_)
    · exact absurd rfl c45
    refine g_aload_n C (gd DX10_makes_0 27 rfl) 0 rfl rfl ?_
    refine g_bipush (v := 93) C (gd DX10_makes_0 28 rfl) (by decide) ?_
    refine g_aload_n C (gd DX10_makes_0 29 rfl) 0 rfl rfl ?_
    refine g_cV1 (ci := 10) C [] mX10_allAtoms lm_TestJudgeModel_379 (by exact hm.1) rfl rfl (e_m_allAtoms (h := sF h (m + 1) ρ1) (by exact hm)) hfl (by decide) (by decide) (by omega) (by omega) rfl rfl (Nat.le_of_ble_eq_true rfl) (gd DX10_makes_0 30 rfl) ?_
    rw [te]
    refine g_cV0 (v := .null) (ci := 10) C [_, _] mX10_stars lm_TestJudgeModel_270 (by exact hm.1) rfl rfl (r_stars hm (t := 93) (by omega) w93 (by omega) all) hfl (by decide) (by decide) (by omega) (by omega) rfl rfl (Nat.le_of_ble_eq_true rfl) (gd DX10_makes_0 31 rfl) ?_
    refine g_iload_n C (gd DX10_makes_0 32 rfl) 1 rfl rfl ?_
    refine g_iconst (v := 4) C (gd DX10_makes_0 33 rfl) (by decide) ?_
    refine g_icmp_ne C 75 (gd DX10_makes_0 34 rfl) (by decide) (fun c60 => ?_) (fun c60 => ?_)
    rotate_left
    · exact absurd c60 (by decide)
    refine g_iload_n C (gd DX10_makes_0 41 rfl) 1 rfl rfl ?_
    refine g_iconst (v := 2) C (gd DX10_makes_0 42 rfl) (by decide) ?_
    refine g_icmp_eq C 85 (gd DX10_makes_0 43 rfl) (by decide) (fun c77 => ?_) (fun c77 => ?_)
    rotate_left
    · exact absurd rfl c77
    refine g_aload_n C (gd DX10_makes_0 47 rfl) 0 rfl rfl ?_
    refine g_bipush (v := 93) C (gd DX10_makes_0 48 rfl) (by decide) ?_
    refine g_bipush (v := 91) C (gd DX10_makes_0 49 rfl) (by decide) ?_
    refine g_cV0 (v := .null) (ci := 10) C [_, _] mX10_copies lm_TestJudgeModel_246 (by exact hm.1) rfl rfl (r_copies hm (r := 93) (t := 91) (by omega) (by omega) (by omega)) hfl (by decide) (by decide) (by omega) (by omega) rfl rfl (Nat.le_of_ble_eq_true rfl) (gd DX10_makes_0 50 rfl) ?_
    refine g_iload_n C (gd DX10_makes_0 51 rfl) 1 rfl rfl ?_
    refine g_iconst (v := 3) C (gd DX10_makes_0 52 rfl) (by decide) ?_
    refine g_icmp_eq C 99 (gd DX10_makes_0 53 rfl) (by decide) (fun c95 => ?_) (fun c95 => ?_)
    · exact absurd c95 (by decide)
    exact g_vret C (by omega) (by omega) ⟨rfl, _, rfl, fun x k hx hk => by rw [gRec_pRec_ne hk (by omega), gRec_pRec_ne hk (by omega)]; exact g1 x (by omega) k hk, fun k hk => by rw [gRec_pRec hk, gRec_pRec hk]; exact rStar_ag g93 a all k hk⟩ (gd DX10_makes_0 54 rfl)
  · refine g_iload_n C (gd DX10_makes_0 9 rfl) 1 rfl rfl ?_
    refine g_if_ne C 30 (gd DX10_makes_0 10 rfl) (by decide) (fun c19 => ?_) (fun c19 => ?_)
    rotate_left
    · exact absurd c19 (by decide)
    refine g_iload_n C (gd DX10_makes_0 16 rfl) 1 rfl rfl ?_
    refine g_iconst (v := 1) C (gd DX10_makes_0 17 rfl) (by decide) ?_
    refine g_icmp_ne C 43 (gd DX10_makes_0 18 rfl) (by decide) (fun c32 => ?_) (fun c32 => ?_)
    rotate_left
    · exact absurd c32 (by decide)
    refine g_iload_n C (gd DX10_makes_0 24 rfl) 1 rfl rfl ?_
    refine g_iconst (v := 2) C (gd DX10_makes_0 25 rfl) (by decide) ?_
    refine g_icmp_ne C 58 (gd DX10_makes_0 26 rfl) (by decide) (fun c45 => ?_) (fun c45 => ?_)
    rotate_left
    · exact absurd c45 (by decide)
    refine g_iload_n C (gd DX10_makes_0 32 rfl) 1 rfl rfl ?_
    refine g_iconst (v := 4) C (gd DX10_makes_0 33 rfl) (by decide) ?_
    refine g_icmp_ne C 75 (gd DX10_makes_0 34 rfl) (by decide) (fun c60 => ?_) (fun c60 => ?_)
    rotate_left
    · exact absurd c60 (by decide)
    refine g_iload_n C (gd DX10_makes_0 41 rfl) 1 rfl rfl ?_
    refine g_iconst (v := 2) C (gd DX10_makes_0 42 rfl) (by decide) ?_
    refine g_icmp_eq C 85 (gd DX10_makes_0 43 rfl) (by decide) (fun c77 => ?_) (fun c77 => ?_)
    · exact absurd c77 (by decide)
    refine g_iload_n C (gd DX10_makes_0 44 rfl) 1 rfl rfl ?_
    refine g_iconst (v := 4) C (gd DX10_makes_0 45 rfl) (by decide) ?_
    refine g_icmp_ne C 93 (gd DX10_makes_0 46 rfl) (by decide) (fun c82 => ?_) (fun c82 => ?_)
    rotate_left
    · exact absurd c82 (by decide)
    refine g_iload_n C (gd DX10_makes_0 51 rfl) 1 rfl rfl ?_
    refine g_iconst (v := 3) C (gd DX10_makes_0 52 rfl) (by decide) ?_
    refine g_icmp_eq C 99 (gd DX10_makes_0 53 rfl) (by decide) (fun c95 => ?_) (fun c95 => ?_)
    rotate_left
    · exact absurd rfl c95
    refine g_aload_n C (gd DX10_makes_0 55 rfl) 0 rfl rfl ?_
    refine g_bipush (v := 93) C (gd DX10_makes_0 56 rfl) (by decide) ?_
    refine g_iload C (gd DX10_makes_0 57 rfl) 5 rfl ?_
    refine g_cV0 (v := .null) (ci := 10) C [_, _] mX10_begins lm_TestJudgeModel_304 (by exact hm.1) rfl rfl (r_begins hm (t := 93) (by omega) w93 (by omega) its) hfl (by decide) (by decide) (by omega) (by omega) rfl rfl (Nat.le_of_ble_eq_true rfl) (gd DX10_makes_0 58 rfl) ?_
    generalize hρ2 : pRec ρ1 93 (rBegins (gRec ρ1 93) a its) = ρ2
    have k2 : ∀ x, x ≠ 93 → Ag (gRec ρ2 x) (gRec ρ1 x) := fun x hx k hk => by rw [← hρ2, gRec_pRec_ne hk hx]
    have k93 : Ag (gRec ρ2 93) (rBegins (gRec ρ1 93) a its) := fun k hk => by rw [← hρ2, gRec_pRec hk]
    refine g_aload_n C (gd DX10_makes_0 59 rfl) 0 rfl rfl ?_
    refine g_iload_n C (gd DX10_makes_1 0 rfl) 3 rfl rfl ?_
    refine g_bipush (v := 94) C (gd DX10_makes_1 1 rfl) (by decide) ?_
    refine g_cV0 (v := .null) (ci := 10) C [_, _] mX10_copies lm_TestJudgeModel_246 (by exact hm.1) rfl rfl (r_copies hm (r := q) (t := 94) (by omega) (by omega) (by omega)) hfl (by decide) (by decide) (by omega) (by omega) rfl rfl (Nat.le_of_ble_eq_true rfl) (gd DX10_makes_1 2 rfl) ?_
    generalize hρ3 : pRec ρ2 94 (gRec ρ2 q) = ρ3
    have l3 : ∀ x, x ≠ 94 → Ag (gRec ρ3 x) (gRec ρ2 x) := fun x hx k hk => by rw [← hρ3, gRec_pRec_ne hk hx]
    have l94 : Ag (gRec ρ3 94) (gRec ρ2 q) := fun k hk => by rw [← hρ3, gRec_pRec hk]
    have w94 : gRec ρ3 94 0 = nI b := by rw [l94 0 (by omega), k2 q (by omega) 0 (by omega)]; exact w2
    refine g_aload_n C (gd DX10_makes_1 3 rfl) 0 rfl rfl ?_
    refine g_bipush (v := 94) C (gd DX10_makes_1 4 rfl) (by decide) ?_
    refine g_aload_n C (gd DX10_makes_1 5 rfl) 0 rfl rfl ?_
    refine g_cV1 (ci := 10) C [] mX10_allAtoms lm_TestJudgeModel_379 (by exact hm.1) rfl rfl (e_m_allAtoms (h := sF h (m + 1) ρ3) (by exact hm)) hfl (by decide) (by decide) (by omega) (by omega) rfl rfl (Nat.le_of_ble_eq_true rfl) (gd DX10_makes_1 6 rfl) ?_
    rw [te]
    refine g_iload C (gd DX10_makes_1 7 rfl) 5 rfl ?_
    refine g_iconst (v := -1) C (gd DX10_makes_1 8 rfl) (by decide) ?_
    refine g_ixor C (gd DX10_makes_1 9 rfl) ?_
    refine g_iand C (gd DX10_makes_1 10 rfl) ?_
    refine g_cV0 (v := .null) (ci := 10) C [_, _] mX10_begins lm_TestJudgeModel_304 (by exact hm.1) rfl rfl (r_begins hm (t := 94) (by omega) w94 (by omega) (all &&& (its ^^^ -1))) hfl (by decide) (by decide) (by omega) (by omega) rfl rfl (Nat.le_of_ble_eq_true rfl) (gd DX10_makes_1 11 rfl) ?_
    generalize hρ4 : pRec ρ3 94 (rBegins (gRec ρ3 94) b (all &&& (its ^^^ -1))) = ρ4
    have p4 : ∀ x, x ≠ 94 → Ag (gRec ρ4 x) (gRec ρ3 x) := fun x hx k hk => by rw [← hρ4, gRec_pRec_ne hk hx]
    have p94 : Ag (gRec ρ4 94) (rBegins (gRec ρ3 94) b (all &&& (its ^^^ -1))) := fun k hk => by rw [← hρ4, gRec_pRec hk]
    have a93 : Ag (gRec ρ4 93) (rBegins (gRec ρ0 r) a its) := ((p4 93 (by omega)).tr (l3 93 (by omega))).tr (k93.tr (rBegins_ag g93 a its))
    have a94 : Ag (gRec ρ4 94) (rBegins (gRec ρ0 q) b (all &&& (its ^^^ -1))) := p94.tr (rBegins_ag ((l94.tr (k2 q (by omega))).tr (g1 q (by omega))) b _)
    refine g_aload_n C (gd DX10_makes_1 12 rfl) 0 rfl rfl ?_
    refine g_bipush (v := 93) C (gd DX10_makes_1 13 rfl) (by decide) ?_
    refine g_bipush (v := 94) C (gd DX10_makes_1 14 rfl) (by decide) ?_
    refine g_bipush (v := 91) C (gd DX10_makes_1 15 rfl) (by decide) ?_
    refine g_cV0 (v := .null) (ci := 10) C [_, _, _] mX10_sums lm_TestJudgeModel_243 (by exact hm.1) rfl rfl (r_sums hm (x := 93) (y := 94) (t := 91) (a := a) (b := b) (by omega) (by omega) (by omega) (by omega) (by omega) (by rw [a93 0 (by omega), rBegins_0]; exact ha) (by rw [a94 0 (by omega), rBegins_0]; exact hb) (by omega)) hfl (by decide) (by decide) (by omega) (by omega) rfl rfl (Nat.le_of_ble_eq_true rfl) (gd DX10_makes_1 16 rfl) ?_
    exact g_vret C (by omega) (by omega) ⟨rfl, _, rfl, fun x k hx hk => by rw [gRec_pRec_ne hk (by omega), p4 x (by omega) k hk, l3 x (by omega) k hk, k2 x (by omega) k hk]; exact g1 x (by omega) k hk, fun k hk => by rw [gRec_pRec hk, rSum_ag a93 a94]; rfl⟩ (gd DX10_makes_1 17 rfl)
  · refine g_iload_n C (gd DX10_makes_0 9 rfl) 1 rfl rfl ?_
    refine g_if_ne C 30 (gd DX10_makes_0 10 rfl) (by decide) (fun c19 => ?_) (fun c19 => ?_)
    rotate_left
    · exact absurd c19 (by decide)
    refine g_iload_n C (gd DX10_makes_0 16 rfl) 1 rfl rfl ?_
    refine g_iconst (v := 1) C (gd DX10_makes_0 17 rfl) (by decide) ?_
    refine g_icmp_ne C 43 (gd DX10_makes_0 18 rfl) (by decide) (fun c32 => ?_) (fun c32 => ?_)
    rotate_left
    · exact absurd c32 (by decide)
    refine g_iload_n C (gd DX10_makes_0 24 rfl) 1 rfl rfl ?_
    refine g_iconst (v := 2) C (gd DX10_makes_0 25 rfl) (by decide) ?_
    refine g_icmp_ne C 58 (gd DX10_makes_0 26 rfl) (by decide) (fun c45 => ?_) (fun c45 => ?_)
    rotate_left
    · exact absurd c45 (by decide)
    refine g_iload_n C (gd DX10_makes_0 32 rfl) 1 rfl rfl ?_
    refine g_iconst (v := 4) C (gd DX10_makes_0 33 rfl) (by decide) ?_
    refine g_icmp_ne C 75 (gd DX10_makes_0 34 rfl) (by decide) (fun c60 => ?_) (fun c60 => ?_)
    · exact absurd rfl c60
    refine g_aload_n C (gd DX10_makes_0 35 rfl) 0 rfl rfl ?_
    refine g_bipush (v := 93) C (gd DX10_makes_0 36 rfl) (by decide) ?_
    refine g_iload C (gd DX10_makes_0 37 rfl) 5 rfl ?_
    refine g_aload_n C (gd DX10_makes_0 38 rfl) 0 rfl rfl ?_
    refine g_cV1 (ci := 10) C [] mX10_allAtoms lm_TestJudgeModel_379 (by exact hm.1) rfl rfl (e_m_allAtoms (h := sF h (m + 1) ρ1) (by exact hm)) hfl (by decide) (by decide) (by omega) (by omega) rfl rfl (Nat.le_of_ble_eq_true rfl) (gd DX10_makes_0 39 rfl) ?_
    rw [te]
    refine g_cV0 (v := .null) (ci := 10) C [_, _, _] mX10_whiles lm_TestJudgeModel_307 (by exact hm.1) rfl rfl (r_whiles hm (t := 93) (by omega) w93 (by omega) its all) hfl (by decide) (by decide) (by omega) (by omega) rfl rfl (Nat.le_of_ble_eq_true rfl) (gd DX10_makes_0 40 rfl) ?_
    refine g_iload_n C (gd DX10_makes_0 41 rfl) 1 rfl rfl ?_
    refine g_iconst (v := 2) C (gd DX10_makes_0 42 rfl) (by decide) ?_
    refine g_icmp_eq C 85 (gd DX10_makes_0 43 rfl) (by decide) (fun c77 => ?_) (fun c77 => ?_)
    · exact absurd c77 (by decide)
    refine g_iload_n C (gd DX10_makes_0 44 rfl) 1 rfl rfl ?_
    refine g_iconst (v := 4) C (gd DX10_makes_0 45 rfl) (by decide) ?_
    refine g_icmp_ne C 93 (gd DX10_makes_0 46 rfl) (by decide) (fun c82 => ?_) (fun c82 => ?_)
    · exact absurd rfl c82
    refine g_aload_n C (gd DX10_makes_0 47 rfl) 0 rfl rfl ?_
    refine g_bipush (v := 93) C (gd DX10_makes_0 48 rfl) (by decide) ?_
    refine g_bipush (v := 91) C (gd DX10_makes_0 49 rfl) (by decide) ?_
    refine g_cV0 (v := .null) (ci := 10) C [_, _] mX10_copies lm_TestJudgeModel_246 (by exact hm.1) rfl rfl (r_copies hm (r := 93) (t := 91) (by omega) (by omega) (by omega)) hfl (by decide) (by decide) (by omega) (by omega) rfl rfl (Nat.le_of_ble_eq_true rfl) (gd DX10_makes_0 50 rfl) ?_
    refine g_iload_n C (gd DX10_makes_0 51 rfl) 1 rfl rfl ?_
    refine g_iconst (v := 3) C (gd DX10_makes_0 52 rfl) (by decide) ?_
    refine g_icmp_eq C 99 (gd DX10_makes_0 53 rfl) (by decide) (fun c95 => ?_) (fun c95 => ?_)
    · exact absurd c95 (by decide)
    exact g_vret C (by omega) (by omega) ⟨rfl, _, rfl, fun x k hx hk => by rw [gRec_pRec_ne hk (by omega), gRec_pRec_ne hk (by omega)]; exact g1 x (by omega) k hk, fun k hk => by rw [gRec_pRec hk, gRec_pRec hk]; exact rFinish_ag (rStar_ag (rBegins_ag g93 a its) a all) a _ k hk⟩ (gd DX10_makes_0 54 rfl)
end M44
