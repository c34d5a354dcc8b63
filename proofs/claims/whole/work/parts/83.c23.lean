/-! Table: build -/
/-- what the table tells of the pair P: the rests, numbered -/
def tbO (P : kP) (ρ : Nat → Nat → Int32) : Prop := ∃ (v : HS) (N : Nat) (R : List (Nat × Nat)), LDr P 0 v N ∧ Rsp 0 v R ∧ R.length ≤ 125 ∧ ρ 0 0 = nI R.length ∧ (∀ (i : Nat) (q : Nat × Nat), R[i]? = some q → q.1 < N ∧ ρ 1 i = hI v (0 + 8) q.1 ∧ ρ 2 i = nI q.2 ∧ ∀ l, l < 24 → tCl v R q l (ρ 3 (24 * i + l))) ∧ reP (ρ 3) (ρ 1) R.length (ρ 4) ∧ (∀ k, k < R.length → lo8 (ρ 1 k)) ∧ ∀ k, k < R.length → lo8 (ρ 4 k)
theorem hS_tR_c {s t : Nat} {h : HS} {ρ : Nat → Nat → Int32} {F BH NU SI CA : Nat → Int32} (hd : t + 10 < s ∨ s + 18 < t) : hS s (tR t h ρ) F BH NU SI CA = tR t (hS s h F BH NU SI CA) ρ := by
  unfold hS sF tR
  congr 1
  funext b j
  by_cases e : t ≤ b ∧ b ≤ t + 10
  · simp only [if_pos e]
    rw [if_neg (by omega), if_neg (by omega), if_neg (by omega), if_neg (by omega), if_neg (by omega)]
  · simp only [if_neg e]
theorem nI_lo8 {x : Nat} (h : x < 256) : lo8 (nI x) := fun b b1 b2 q => by
  rw [hasB_nI (by omega) b2] at q
  have : x.testBit b = false := Nat.testBit_lt_two_pow (Nat.lt_of_lt_of_le h (Nat.pow_le_pow_right (n := 2) (i := 8) (j := b) (by omega) b1))
  rw [this] at q
  exact absurd q (by decide)
theorem kE2_z {P : kP} (h0 : P.2.2.2.2.2.2.1 = 0) (h1 : P.2.2.2.1 1 = 0) (key : Int64) : kE2 P key = 0 := by
  unfold kE2
  rw [h0, endF, h1]
  split <;> simp
section C23
variable {w : gD} {s t : Nat} {h : HS}
theorem e_t_build (hs : sSh s h) (ht : tSh t h) (hd : t + 10 < s ∨ s + 18 < t) {P : kP} (rd : sRd P s h) (h5 : P.2.2.2.2.2.1 ≤ 5) (hz : P.2.2.2.2.2.2.1 = 0) (hz1 : P.2.2.2.1 1 = 0) {nt na : Nat} {F BH NU SI CA : Nat → Int32} (fl : sFl P nt na F) (q : sQ [(BEG, 0)] F NU SI CA) (a : Nat) (fa : Int32) :
    Ev w 5 0 0 yX6_build cX6_build 5 none [.ref t, .ref s, .ref a, .int fa] (hS s h F BH NU SI CA) (fun r' h' => r' = none ∧ ∃ L F' BH' NU' SI' CA' ρ', h' = hS s (tR t (sR h t 5 (some a)) ρ') F' BH' NU' SI' CA' ∧ kOk P L ∧ sQ L F' NU' SI' CA' ∧ tbO P ρ' ∧ ρ' 0 6 = fa) := by
  refine g_start (by decide) (Nat.le_of_ble_eq_true rfl) [(0, _), (1, _), (2, _), (3, _)] rfl (fun z hfl C => ?_)
  refine g_aload_n C (gd DX6_build_0 0 rfl) 0 rfl rfl ?_
  refine g_aload_n C (gd DX6_build_0 1 rfl) 2 rfl rfl ?_
  refine g_putr (ci := 6) (k := 5) (ty := .object "TestJudge$Piece") C rfl (by decide) rfl lf_TestJudge_Table_28 ht.1 (Or.inl rfl) rfl rfl rfl (gd DX6_build_0 2 rfl) ?_
  generalize hh2 : sR h t 5 (some a) = h2
  have hs2 : sSh s h2 := by
    rw [← hh2]
    unfold sSh rSh
    simp only [hR_sR, hK_sR, hN_sR]
    simp only [show ¬ s = t by omega, show ¬ s + 2 = t by omega, show ¬ s + 6 = t by omega, show ¬ s + 10 = t by omega, false_and, if_false]
    exact hs
  have ht2 : tSh t h2 := by
    rw [← hh2]
    unfold tSh
    simp only [hR_sR, hK_sR, hN_sR]
    simp only [show ¬ (1 : Nat) = 5 by omega, show ¬ (2 : Nat) = 5 by omega, show ¬ (3 : Nat) = 5 by omega, show ¬ (4 : Nat) = 5 by omega, show ¬ (8 : Nat) = 5 by omega, show ¬ (9 : Nat) = 5 by omega, show ¬ (10 : Nat) = 5 by omega, show ¬ (11 : Nat) = 5 by omega, show ¬ (12 : Nat) = 5 by omega, show ¬ (13 : Nat) = 5 by omega, and_false, if_false]
    exact ht
  have rd2 : sRd P s h2 := by
    rw [← hh2]
    exact rd
  refine GW.cast (h' := hS s (tR t h2 (fun i => hI h2 (t + i))) F BH NU SI CA) rfl rfl (by rw [tR_self, ← hh2]; rfl) ?_
  refine g_aload_n C (gd DX6_build_0 3 rfl) 0 rfl rfl ?_
  refine g_iload_n C (gd DX6_build_0 4 rfl) 3 rfl rfl ?_
  refine g_puti (ci := 6) (k := 6) C rfl (by decide) rfl lf_TestJudge_Table_32 ht2.1 (Or.inl rfl) rfl (gd DX6_build_0 5 rfl) ?_
  rw [hS_tR0 hd]
  generalize hρ1 : rset (fun i => hI h2 (t + i)) 0 (upd (hI h2 (t + 0)) 6 fa) = ρ1
  have e6 : ρ1 0 6 = fa := by rw [← hρ1, rset_eq, upd, if_pos rfl]
  refine g_aload_n C (gd DX6_build_0 6 rfl) 0 rfl rfl ?_
  refine g_aload_n C (gd DX6_build_0 7 rfl) 1 rfl rfl ?_
  refine g_callV (ci := 6) C [_] mX6_copy lm_TestJudge_Table_56 (by exact ht2.1) rfl rfl (e_t_copy hs2 ht2 hd rd2 h5 hz fl q ρ1) hfl (by decide) (by decide) (by omega) (by omega) rfl rfl (Nat.le_of_ble_eq_true rfl) (gd DX6_build_0 8 rfl) (fun r h2 hp => ?_)
  obtain ⟨rfl, N, F2, BH2, NU2, SI2, CA2, ρ2, rfl, n1, n2, n3, n4, raw, n5, n6, n7⟩ := hp
  rw [hS_tR_c hd]
  generalize hb : hS s h2 F2 BH2 NU2 SI2 CA2 = hb2
  have htb : tSh t hb2 := by rw [← hb]; exact ht2
  show GW z w 5 _ 0 0 _ _ [] _
  have get : ∀ i, i < N → ∃ q, (bfs (kSc P) (24 * N))[i]? = some q := fun i hi => ⟨_, List.getElem?_eq_getElem (by omega)⟩
  have gv : goV (ρ2 6) N := by
    intro e he
    obtain ⟨p, hp⟩ := get (e / 24) (by omega)
    rcases (raw _ p hp (by omega)).2 (e % 24) (by omega) with ⟨_, x⟩ | ⟨k', j, v, _, x1, x2⟩
    · left; rw [show 24 * (e / 24) + e % 24 = e by omega] at x; exact x
    · right
      rw [show 24 * (e / 24) + e % 24 = e by omega] at x2
      exact ⟨j, by have := (List.getElem?_eq_some_iff.mp x1).1; omega, x2⟩
  have tg : tgO N ρ2 := ⟨⟨n3, n2⟩, n5, gv⟩
  refine g_aload_n C (gd DX6_build_0 9 rfl) 0 rfl rfl ?_
  refine g_callV (ci := 6) C [] mX6_leaveOutEmpty lm_TestJudge_Table_60 (by exact htb.1) rfl rfl (e_t_leaveOutEmpty htb tg) hfl (by decide) (by decide) (by omega) (by omega) rfl rfl (Nat.le_of_ble_eq_true rfl) (gd DX6_build_0 10 rfl) (fun r h2 hp => ?_)
  obtain ⟨rfl, K0, rfl, k0⟩ := hp
  show GW z w 5 _ 0 0 _ _ [] _
  generalize hU : (fun i => if K0 i = -1 then (0 : Int32) else 1) = U
  have uv : ∀ i, U i = 0 ∧ K0 i = -1 ∨ U i = 1 ∧ ¬ K0 i = -1 := by
    intro i
    rw [← hU]
    by_cases e : K0 i = -1
    · exact Or.inl ⟨if_pos e, e⟩
    · exact Or.inr ⟨if_neg e, e⟩
  have tg3 : tgO N (rset ρ2 7 K0) := ⟨⟨n3, n2⟩, by rw [rset_ne (by omega)]; exact n5, by rw [rset_ne (by omega)]; exact gv⟩
  refine g_aload_n C (gd DX6_build_0 11 rfl) 0 rfl rfl ?_
  refine g_callV (ci := 6) C [] mX6_tellApart lm_TestJudge_Table_63 (by exact htb.1) rfl rfl (e_t_tellApart (U := U) htb tg3 (fun i hi => by rw [rset_eq]; rcases uv i with ⟨x, y⟩ | ⟨x, y⟩; exact Or.inl ⟨y, x⟩; exact Or.inr ⟨y, by rw [x]; decide⟩)) hfl (by decide) (by decide) (by omega) (by omega) rfl rfl (Nat.le_of_ble_eq_true rfl) (gd DX6_build_0 12 rfl) (fun r h2 hp => ?_)
  rw [rset_ne (show 6 ≠ 7 by omega), rset_ne (show 5 ≠ 7 by omega)] at hp
  obtain ⟨rfl, K1, rfl, k1⟩ := hp
  rw [rset_rset]
  show GW z w 5 _ 0 0 _ _ [] _
  refine g_iconst (v := 0) C (gd DX6_build_0 13 rfl) (by decide) ?_
  refine g_istore (lv' := [(0, _), (1, _), (2, _), (3, _), (4, _)]) C (gd DX6_build_0 14 rfl) [1, 2, 3, 4, 0] (by decide) rfl ?_
  have last : ∀ K FN v4, kdX (ρ2 6) (ρ2 5) U N K → GW z w 5 (gQ z w 0 0 (fun r' h'' => r' = none ∧ ∃ L F' BH' NU' SI' CA' ρ', h'' = hS s (tR t h2 ρ') F' BH' NU' SI' CA' ∧ kOk P L ∧ sQ L F' NU' SI' CA' ∧ tbO P ρ' ∧ ρ' 0 6 = fa)) 0 0 51 [(0, .ref t), (1, .ref s), (2, .ref a), (3, .int fa), (4, .int v4)] [] (tR t hb2 (rset (rset ρ2 8 FN) 7 K)) := by
    intro K FN v4 kx
    have tg4 : tgO N (rset (rset ρ2 8 FN) 7 K) := ⟨⟨n3, n2⟩, by rw [rset_ne (by omega), rset_ne (by omega)]; exact n5, by rw [rset_ne (by omega), rset_ne (by omega)]; exact gv⟩
    have r6 : rset (rset ρ2 8 FN) 7 K 6 = ρ2 6 := by rw [rset_ne (by omega), rset_ne (by omega)]
    have r5 : rset (rset ρ2 8 FN) 7 K 5 = ρ2 5 := by rw [rset_ne (by omega), rset_ne (by omega)]
    refine g_aload_n C (gd DX6_build_0 25 rfl) 0 rfl rfl ?_
    refine g_callV (ci := 6) C [] mX6_numberRests lm_TestJudge_Table_70 (by exact htb.1) rfl rfl (e_t_numberRests (U := U) htb tg4 (by rw [r6, r5, rset_eq]; exact kx)) hfl (by decide) (by decide) (by omega) (by omega) rfl rfl (Nat.le_of_ble_eq_true rfl) (gd DX6_build_0 26 rfl) (fun r h2 hp => ?_)
    rw [r6, r5] at hp
    obtain ⟨rfl, R, ρ3, rfl, m1, m2, m3, m4, m5, m6⟩ := hp
    show GW z w 5 _ 0 0 _ _ [] _
    generalize hv : vH (ρ2 6) (ρ2 5) U N = v at *
    have lo : ∀ k, k < R.length → lo8 (ρ3 1 k) := by
      intro k hk
      obtain ⟨x1, x2, x3, _⟩ := m4 k _ (List.getElem?_eq_getElem hk)
      rw [x3]
      obtain ⟨p, hp⟩ := get (R[k]).1 x1
      rw [(raw _ p hp x1).1]
      unfold kE1
      obtain ⟨x, hx, ex⟩ := kGd_n8 fl.1 fl.2.2.1 (endF P.2.2.1 (kMi p.1) (if kbg p.1 = 0 then 0 else P.2.2.1 1) P.2.2.2.2.2.1) p.1
      rw [ex]
      exact nI_lo8 hx
    have tv : tgV (ρ3 3) R.length := by
      refine ⟨m2, fun e he => ?_⟩
      obtain ⟨_, _, _, _, x⟩ := m4 (e / 24) _ (List.getElem?_eq_getElem (by omega : e / 24 < R.length))
      have := x (e % 24) (by omega)
      rw [show 24 * (e / 24) + e % 24 = e by omega] at this
      rcases this with ⟨_, y⟩ | ⟨_, j, p, _, y1, _, y2⟩
      · exact Or.inl y
      · exact Or.inr ⟨j, (List.getElem?_eq_some_iff.mp y1).1, y2⟩
    refine g_aload_n C (gd DX6_build_0 27 rfl) 0 rfl rfl ?_
    refine g_callV (ci := 6) C [] mX6_gatherReach lm_TestJudge_Table_73 (by exact htb.1) rfl rfl (e_t_gatherReach htb tv m3 lo) hfl (by decide) (by decide) (by omega) (by omega) rfl rfl (Nat.le_of_ble_eq_true rfl) (gd DX6_build_0 28 rfl) (fun r h2 hp => ?_)
    obtain ⟨rfl, RE, rfl, re1, re2⟩ := hp
    show GW z w 5 _ 0 0 _ _ [] _
    refine g_vret C (by omega) (by omega) ⟨rfl, bfs (kSc P) (24 * N), F2, BH2, NU2, SI2, CA2, rset ρ3 4 RE, by rw [hS_tR_c hd, hb], bfs_ok rd.1 _, n4, ⟨v, N, R, ?_, m1, m2, by rw [rset_ne (by omega)]; exact m3, fun i p hp => ?_, by rw [rset_ne (show 3 ≠ 4 by omega), rset_ne (show 1 ≠ 4 by omega), rset_eq]; exact re1, by rw [rset_ne (by omega)]; exact lo, by rw [rset_eq]; exact re2⟩, ?_⟩ (gd DX6_build_0 29 rfl)
    · refine ⟨by omega, n2, n1, fun e he => ?_, fun i p hp => ?_, fun i hi => ?_⟩
      · obtain ⟨p, hp⟩ := get (e / 24) (by omega)
        refine ⟨p, hp, ?_⟩
        rw [show hI v (0 + 7) = ρ2 6 by rw [← hv]; rfl]
        have := (raw _ p hp (by omega)).2 (e % 24) (by omega)
        rw [show 24 * (e / 24) + e % 24 = e by omega] at this
        exact this
      · have hi := (List.getElem?_eq_some_iff.mp hp).1
        rw [kE2_z hz hz1]
        refine ⟨?_, by rw [← hv]; rfl⟩
        rw [show hI v (0 + 8) = ρ2 5 by rw [← hv]; rfl]
        exact (raw i p hp (by omega)).1
      · have een : (fun s => hI v (0 + 8) s ||| hI v (0 + 9) s) = ρ2 5 := by
          funext x
          rw [← hv]
          show ρ2 5 x ||| 0 = ρ2 5 x
          simp
        rw [een, show hI v (0 + 7) = ρ2 6 by rw [← hv]; rfl, show hI v (0 + 13) = U by rw [← hv]; rfl]
        rcases uv i with ⟨x, y⟩ | ⟨x, y⟩
        · rcases k0 i hi with ⟨_, u⟩ | ⟨u, _⟩
          · exact Or.inr ⟨x, u⟩
          · rw [u] at y; exact absurd y (by decide)
        · rcases k0 i hi with ⟨u, _⟩ | ⟨_, u⟩
          · exact absurd u y
          · exact Or.inl ⟨x, u⟩
    · rw [rset_ne (by omega), rset_ne (by omega), rset_ne (by omega)]
      obtain ⟨x1, x2, x3, x4, x5⟩ := m4 i p hp
      exact ⟨x1, by rw [x3, ← hv]; rfl, x4, x5⟩
    · rw [rset_ne (by omega), m6 6 (by omega), rset_ne (by omega), rset_ne (by omega), n6 6 (by omega)]
      exact e6
  have loop : ∀ y r d K FN, r + y = N → kdI (ρ2 6) (ρ2 5) U N d K → (∀ i, i < N → ¬ U i = 0 → r + 1 ≤ ctR K N) → GW z w 5 (gQ z w 0 0 (fun r' h'' => r' = none ∧ ∃ L F' BH' NU' SI' CA' ρ', h'' = hS s (tR t h2 ρ') F' BH' NU' SI' CA' ∧ kOk P L ∧ sQ L F' NU' SI' CA' ∧ tbO P ρ' ∧ ρ' 0 6 = fa)) 0 0 26 [(0, .ref t), (1, .ref s), (2, .ref a), (3, .int fa), (4, .int (nI r))] [] (tR t hb2 (rset (rset ρ2 8 FN) 7 K)) := by
    intro y
    induction y with
    | zero =>
      intro r d K FN hr hk hc
      have hle := ctR_le K N
      refine g_iload C (gd DX6_build_0 15 rfl) 4 rfl ?_
      refine g_aload_n C (gd DX6_build_0 16 rfl) 0 rfl rfl ?_
      refine g_geti (ci := 6) (k := 7) C rfl (by decide) rfl lf_TestJudge_Table_35 htb.1 (gd DX6_build_0 17 rfl) ?_
      rw [tR_0, rset_ne (by omega), rset_ne (by omega), n5]
      refine g_icmp_ge C 51 (gd DX6_build_0 18 rfl) (by decide) (fun c32 => ?_) (fun c32 => ?_)
      · exact last K FN _ (hk.b gv n3 (fun s t hs _ us _ _ => by have := hc s hs us; omega))
      · exact absurd (nI_le (by omega) (by omega)) c32
    | succ y ih =>
      intro r d K FN hr hk hc
      have r6 : rset (rset ρ2 8 FN) 7 K 6 = ρ2 6 := by rw [rset_ne (by omega), rset_ne (by omega)]
      have r5 : rset (rset ρ2 8 FN) 7 K 5 = ρ2 5 := by rw [rset_ne (by omega), rset_ne (by omega)]
      have tg4 : tgO N (rset (rset ρ2 8 FN) 7 K) := ⟨⟨n3, n2⟩, by rw [rset_ne (by omega), rset_ne (by omega)]; exact n5, by rw [r6]; exact gv⟩
      refine g_iload C (gd DX6_build_0 15 rfl) 4 rfl ?_
      refine g_aload_n C (gd DX6_build_0 16 rfl) 0 rfl rfl ?_
      refine g_geti (ci := 6) (k := 7) C rfl (by decide) rfl lf_TestJudge_Table_35 htb.1 (gd DX6_build_0 17 rfl) ?_
      rw [tR_0, rset_ne (by omega), rset_ne (by omega), n5]
      refine g_icmp_ge C 51 (gd DX6_build_0 18 rfl) (by decide) (fun c32 => ?_) (fun c32 => ?_)
      · exact absurd c32 (nI_ge (by omega) (by omega))
      · refine g_aload_n C (gd DX6_build_0 19 rfl) 0 rfl rfl ?_
        refine g_callV (ci := 6) C [] mX6_tellFiner lm_TestJudge_Table_66 (by exact htb.1) rfl rfl (e_t_tellFiner (d := d) (U := U) htb tg4 (by rw [r6, r5, rset_eq]; exact hk)) hfl (by decide) (by decide) (by omega) (by omega) rfl rfl (Nat.le_of_ble_eq_true rfl) (gd DX6_build_0 20 rfl) (fun r h2 hp => ?_)
        rw [r6, r5, rset_eq] at hp
        obtain ⟨K', FN', rfl, k', hor⟩ := hp
        have er : rset (rset (rset (rset ρ2 8 FN) 7 K) 8 FN') 7 K' = rset (rset ρ2 8 FN') 7 K' := by
          funext x
          unfold rset
          by_cases e1 : x = 7
          · simp [e1]
          · by_cases e2 : x = 8
            · simp [e2]
            · simp [e1, e2]
        rw [er]
        rcases hor with ⟨rfl, same⟩ | ⟨rfl, i, hi, hne⟩
        · show GW z w 5 _ 0 0 _ _ [.int 0] _
          refine g_if_ne C 45 (gd DX6_build_0 21 rfl) (by decide) (fun c39 => ?_) (fun c39 => ?_)
          · exact absurd rfl c39
          · refine g_goto (tgt := 51) C (gd DX6_build_0 22 rfl) (by decide) ?_
            refine last K' FN' _ ?_
            have hst : ∀ s t, s < N → t < N → ¬ U s = 0 → ¬ U t = 0 → eqv 0 (vH (ρ2 6) (ρ2 5) U N) d s t → eqv 0 (vH (ρ2 6) (ρ2 5) U N) (d + 1) s t := by
              intro s t hs0 ht0 us ut e
              refine (k'.iff gv n3 hs0 ht0 us ut).mp ?_
              rw [same s hs0, same t ht0]
              exact (hk.iff gv n3 hs0 ht0 us ut).mpr e
            have hk' : kdI (ρ2 6) (ρ2 5) U N d K' := fun x hx => by rw [same x hx]; exact hk x hx
            exact hk'.b gv n3 hst
        · show GW z w 5 _ 0 0 _ _ [.int 1] _
          have hg := hk.grow gv n3 k' hi hne
          refine g_if_ne C 45 (gd DX6_build_0 21 rfl) (by decide) (fun c39 => ?_) (fun c39 => ?_)
          · refine g_iinc (lv' := [(0, _), (1, _), (2, _), (3, _), (4, _)]) C (gd DX6_build_0 23 rfl) 4 [1, 2, 3, 4, 0] rfl rfl (by decide) rfl ?_
            refine g_goto (tgt := 26) C (gd DX6_build_0 24 rfl) (by decide) ?_
            refine GW.cast (by rw [inc1]) rfl rfl (ih (r + 1) (d + 1) K' FN' (by omega) k' (fun j hj uj => by have := hc j hj uj; omega))
          · exact absurd c39 (by decide)
  refine GW.cast rfl rfl ?_ (loop N 0 0 K1 (ρ2 8) (by omega) k1 (fun i hi ui => ?_))
  · rw [rset_self]
  · obtain ⟨c, c1, _, _, _, c5⟩ := k1.rep gv n3 hi ui
    have h1 := ctR_lt (K := fun _ => -1) (K' := K1) N (fun i hi x => absurd x.symm (nI_neg1 (by omega))) ⟨c, by omega, fun x => absurd x.symm (nI_neg1 (by omega)), c5⟩
    omega
end C23
