/-! Search: findApart, foundInOne, foundLength, foundPlace -/
theorem kSg_0 (P : kP) : kSg P 0 = kSc P := funext fun _ => funext fun _ => if_pos rfl
theorem gst_bfs {sc : Int64 → Nat → Option Int64} {key : Int64} {i v : Nat} (h : (bfs sc (24 * i))[i]? = some (key, v)) : ∀ k, k ≤ 24 → gst sc key i (bfs sc (24 * i)) k = bfs sc (24 * i + k) := by
  intro k
  induction k with
  | zero => intro _; rfl
  | succ k ih =>
    intro hk
    have ih := ih (by omega)
    have hs : (bfs sc (24 * i + k))[i]? = some (key, v) := bfs_stay h k
    have hb : bfs sc (24 * i + (k + 1)) = bstep sc (bfs sc (24 * i + k)) (24 * i + k) := rfl
    have h1 : (bfs sc (24 * i + k))[(24 * i + k) / 24]? = some (key, v) := by rw [show (24 * i + k) / 24 = i by omega]; exact hs
    rw [hb]
    cases e : sc key k with
    | none => rw [gst_n e, ih, bstep_none h1 (by rw [show (24 * i + k) % 24 = k by omega]; exact e)]
    | some k' =>
      rw [gst_s e, ih]
      unfold addK
      have h2 : sc (key, v).1 ((24 * i + k) % 24) = some k' := by rw [show (24 * i + k) % 24 = k by omega]; exact e
      split
      · rename_i hm; rw [bstep_old h1 h2 hm]
      · rename_i hm; rw [bstep_new h1 h2 hm]
theorem bfs_ok {P : kP} (hs : kSm P) : ∀ e, kOk P (bfs (kSc P) e) := by
  intro e
  refine ⟨fun j q hq => ?_, fun i j p q hp hq hpq => bfs_inj (kSc P) e i j p q hp hq hpq⟩
  have hm := List.mem_of_getElem? hq
  clear hq
  revert q
  induction e with
  | zero => intro q hm; left; simp [bfs] at hm; rw [hm]
  | succ e ih =>
    intro q hm
    have hb : bfs (kSc P) (e + 1) = bstep (kSc P) (bfs (kSc P) e) e := rfl
    rw [hb] at hm
    cases h1 : (bfs (kSc P) e)[e / 24]? with
    | none => simp only [bstep, h1] at hm; exact ih q hm
    | some r =>
      cases h2 : kSc P r.1 (e % 24) with
      | none => rw [bstep_none h1 h2] at hm; exact ih q hm
      | some k' =>
        rcases Classical.em (k' ∈ (bfs (kSc P) e).map (·.1)) with h3 | h3
        · rw [bstep_old h1 h2 h3] at hm; exact ih q hm
        · rw [bstep_new h1 h2 h3] at hm
          rcases List.mem_append.mp hm with x | x
          · exact ih q x
          · rw [List.mem_singleton.mp x]
            obtain ⟨a, b, f, ha, hb, hf, -, -, -, rfl⟩ := kSc_W hs h2
            exact Or.inr ⟨a, b, f, ha, hb, hf, rfl⟩
/-- atoms with which just one of the two ends there (b = 1: the first alone) -/
def apF (P : kP) (b : Int32) (key : Int64) : Int32 := kE1 P key &&& (kE2 P key ^^^ -1) ||| (if b = 0 then kE2 P key &&& (kE1 P key ^^^ -1) else 0)
section C11
variable {w : gD} {s : Nat} {h : HS}
theorem e_s_findApart (hs : sSh s h) {P : kP} (rd : sRd P s h) {nt na : Nat} {F BH NU SI CA : Nat → Int32} (fl : sFl P nt na F) (q : sQ [(BEG, 0)] F NU SI CA) {b : Int32} (hb : b = 0 ∨ b = 1) :
    Ev w 4 0 0 yX5_findApart cX5_findApart 4 (some .boolean) [.ref s, .int b] (hS s h F BH NU SI CA) (fun r' h' => ∃ i F' BH' NU' SI' CA', h' = hS s h F' BH' NU' SI' CA' ∧ sQ (bfs (kSc P) (24 * i)) F' NU' SI' CA' ∧ (∀ (j : Nat) (p : Int64 × Nat), (bfs (kSc P) (24 * i))[j]? = some p → j < i → apF P b p.1 = 0) ∧ ((r' = some (.int 1) ∧ ∃ key v, (bfs (kSc P) (24 * i))[i]? = some (key, v) ∧ ¬ apF P b key = 0 ∧ F' 13 = nI i ∧ F' 14 = ntzF (apF P b key) ∧ F' 1 = kE1 P key) ∨ (r' = some (.int 0) ∧ (bfs (kSc P) (24 * i)).length = i))) := by
  refine g_start (by decide) (Nat.le_of_ble_eq_true rfl) [(0, _), (1, _)] rfl (fun z hfl C => ?_)
  have key0 : ∀ y i F' BH' NU' SI' CA', i + y = 16385 → i ≤ (bfs (kSc P) (24 * i)).length → sQ (bfs (kSc P) (24 * i)) F' NU' SI' CA' → (∀ (j : Nat) (p : Int64 × Nat), (bfs (kSc P) (24 * i))[j]? = some p → j < i → apF P b p.1 = 0) → sFl P nt na F' → GW z w 4 (gQ z w 0 0 (fun r' h'' => ∃ i F' BH' NU' SI' CA', h'' = hS s h F' BH' NU' SI' CA' ∧ sQ (bfs (kSc P) (24 * i)) F' NU' SI' CA' ∧ (∀ (j : Nat) (p : Int64 × Nat), (bfs (kSc P) (24 * i))[j]? = some p → j < i → apF P b p.1 = 0) ∧ ((r' = some (.int 1) ∧ ∃ key v, (bfs (kSc P) (24 * i))[i]? = some (key, v) ∧ ¬ apF P b key = 0 ∧ F' 13 = nI i ∧ F' 14 = ntzF (apF P b key) ∧ F' 1 = kE1 P key) ∨ (r' = some (.int 0) ∧ (bfs (kSc P) (24 * i)).length = i)))) 0 0 2 [(0, .ref s), (1, .int b), (2, .int (nI i))] [] (hS s h F' BH' NU' SI' CA') := by
    intro y
    induction y with
    | zero =>
      intro i F' BH' NU' SI' CA' hi hl q ap fl
      have hlen := (bfs_ok rd.1 (24 * i)).len rd.1
      refine g_iload_n C (gd DX5_findApart_0 2 rfl) 2 rfl rfl ?_
      refine g_sipush (v := 16385) C (gd DX5_findApart_0 3 rfl) (by decide) ?_
      refine g_icmp_ge C 85 (gd DX5_findApart_0 4 rfl) (by decide) (fun c6 => ?_) (fun c6 => ?_)
      · refine g_iconst (v := 0) C (gd DX5_findApart_0 49 rfl) (by decide) ?_
        exact g_zret C (by decide) (by omega) (by omega) ⟨i, F', BH', NU', SI', CA', rfl, q, ap, Or.inr ⟨rfl, by omega⟩⟩ (gd DX5_findApart_0 50 rfl)
      · exact absurd (nI_le (a := 16385) (b := i) (by omega) (by omega)) c6
    | succ y ih =>
      intro i F' BH' NU' SI' CA' hi hl q ap fl
      have ok := bfs_ok rd.1 (24 * i)
      have hlen := ok.len rd.1
      refine g_iload_n C (gd DX5_findApart_0 2 rfl) 2 rfl rfl ?_
      refine g_sipush (v := 16385) C (gd DX5_findApart_0 3 rfl) (by decide) ?_
      refine g_icmp_ge C 85 (gd DX5_findApart_0 4 rfl) (by decide) (fun c6 => ?_) (fun c6 => ?_)
      · exact absurd c6 (nI_ge (a := i) (b := 16385) (by omega) (by omega))
      · refine g_iload_n C (gd DX5_findApart_0 5 rfl) 2 rfl rfl ?_
        refine g_aload_n C (gd DX5_findApart_0 6 rfl) 0 rfl rfl ?_
        refine g_geti (ci := 5) (k := 0) C rfl (by decide) rfl lf_TestJudge_Search_13 hs.1 (gd DX5_findApart_0 7 rfl) ?_
        rw [hS_0, q.1]
        refine g_icmp_ge C 85 (gd DX5_findApart_0 8 rfl) (by decide) (fun c14 => ?_) (fun c14 => ?_)
        · have hle := ge_t c14 (by omega) (by omega)
          refine g_iconst (v := 0) C (gd DX5_findApart_0 49 rfl) (by decide) ?_
          exact g_zret C (by decide) (by omega) (by omega) ⟨i, F', BH', NU', SI', CA', rfl, q, ap, Or.inr ⟨rfl, by omega⟩⟩ (gd DX5_findApart_0 50 rfl)
        · have hlt := ge_f c14 (by omega) (by omega)
          obtain ⟨⟨key, v⟩, hkv⟩ : ∃ p, (bfs (kSc P) (24 * i))[i]? = some p := ⟨_, List.getElem?_eq_getElem hlt⟩
          have hkw : kW P key := ok.1 i _ hkv
          have q' : sQ (bfs (kSc P) (24 * i)) (lkS P key F') NU' SI' CA' := ⟨q.1, q.2⟩
          have fl' : sFl P nt na (lkS P key F') := ⟨fl.1, fl.2.1, fl.2.2.1, fl.2.2.2.1, fl.2.2.2.2.1, fl.2.2.2.2.2⟩
          refine g_aload_n C (gd DX5_findApart_0 9 rfl) 0 rfl rfl ?_
          refine g_iload_n C (gd DX5_findApart_0 10 rfl) 2 rfl rfl ?_
          refine g_cV0 (v := .null) (ci := 5) C [_] mX5_look lm_TestJudge_Search_121 (by exact hs.1) rfl rfl (e_s_look hs rd ok fl q hkv hlen) hfl (by decide) (by decide) (by omega) (by omega) rfl rfl (Nat.le_of_ble_eq_true rfl) (gd DX5_findApart_0 11 rfl) ?_
          refine g_aload_n C (gd DX5_findApart_0 12 rfl) 0 rfl rfl ?_
          refine g_geti (ci := 5) (k := 1) C rfl (by decide) rfl lf_TestJudge_Search_17 hs.1 (gd DX5_findApart_0 13 rfl) ?_
          refine g_aload_n C (gd DX5_findApart_0 14 rfl) 0 rfl rfl ?_
          refine g_geti (ci := 5) (k := 3) C rfl (by decide) rfl lf_TestJudge_Search_24 hs.1 (gd DX5_findApart_0 15 rfl) ?_
          rw [hS_0]
          rw [show lkS P key F' 1 = kE1 P key from rfl, show lkS P key F' 3 = kE2 P key from rfl]
          have k52 : GW z w 4 (gQ z w 0 0 (fun r' h'' => ∃ i F' BH' NU' SI' CA', h'' = hS s h F' BH' NU' SI' CA' ∧ sQ (bfs (kSc P) (24 * i)) F' NU' SI' CA' ∧ (∀ (j : Nat) (p : Int64 × Nat), (bfs (kSc P) (24 * i))[j]? = some p → j < i → apF P b p.1 = 0) ∧ ((r' = some (.int 1) ∧ ∃ key v, (bfs (kSc P) (24 * i))[i]? = some (key, v) ∧ ¬ apF P b key = 0 ∧ F' 13 = nI i ∧ F' 14 = ntzF (apF P b key) ∧ F' 1 = kE1 P key) ∨ (r' = some (.int 0) ∧ (bfs (kSc P) (24 * i)).length = i)))) 0 0 52 [(0, .ref s), (1, .int b), (2, .int (nI i))] [.int (if b = 0 then kE2 P key &&& (kE1 P key ^^^ -1) else 0), .int (kE1 P key &&& (kE2 P key ^^^ -1))] (hS s h (lkS P key F') BH' NU' SI' CA') := by
            refine g_ior C (gd DX5_findApart_0 30 rfl) ?_
            rw [show kE1 P key &&& (kE2 P key ^^^ -1) ||| (if b = 0 then kE2 P key &&& (kE1 P key ^^^ -1) else 0) = apF P b key from rfl]
            refine g_istore_n (lv' := [(0, _), (1, _), (2, _), (3, _)]) C (gd DX5_findApart_0 31 rfl) [1, 2, 3, 0] rfl (by decide) rfl ?_
            refine g_iload_n C (gd DX5_findApart_0 32 rfl) 3 rfl rfl ?_
            refine g_if_eq C 73 (gd DX5_findApart_0 33 rfl) (by decide) (fun c55 => ?_) (fun c55 => ?_)
            · have hz : apF P b key = 0 := c55
              refine g_aload_n C (gd DX5_findApart_0 43 rfl) 0 rfl rfl ?_
              refine g_iload_n C (gd DX5_findApart_0 44 rfl) 2 rfl rfl ?_
              refine g_iconst (v := 0) C (gd DX5_findApart_0 45 rfl) (by decide) ?_
              refine g_callV (ci := 5) C [_, _] mX5_goOn lm_TestJudge_Search_130 (by exact hs.1) rfl rfl (e_s_goOn (F := lkS P key F') (key := key) (b := 0) (i := i) hs rd ok fl' hkw rfl rfl rfl rfl (Or.inl rfl) q') hfl (by decide) (by decide) (by omega) (by omega) rfl rfl (Nat.le_of_ble_eq_true rfl) (gd DX5_findApart_0 46 rfl) (fun r h2 hp => ?_)
              obtain ⟨rfl, F2, BH2, NU2, SI2, CA2, rfl, g1, g2, g3⟩ := hp
              rw [kSg_0, gst_bfs hkv 24 (by omega)] at g1
              refine GW.sub [0, 1, 2, 3] rfl (Nat.le_refl _) (Nat.le_refl _) (lv' := [(0, _), (1, _), (2, _), (3, _)]) ?_
              show GW z w 4 _ 0 0 79 _ [] _
              refine g_iinc (lv' := [(0, _), (1, _), (2, _), (3, _)]) C (gd DX5_findApart_0 47 rfl) 2 [1, 2, 0, 3] rfl rfl (by decide) rfl ?_
              refine g_goto (tgt := 2) C (gd DX5_findApart_0 48 rfl) (by decide) ?_
              refine GW.sub [0, 1, 2] rfl (Nat.le_refl _) (Nat.le_refl _) (lv' := [(0, _), (1, _), (2, _)]) ?_
              refine GW.cast (by rw [inc1]) rfl rfl (ih (i + 1) F2 BH2 NU2 SI2 CA2 (by omega) ?_ g1 (fun j p hp hj => ?_) ⟨fl.1, fl.2.1, fl.2.2.1, fl.2.2.2.1, (g3 7 (by omega)).trans fl'.2.2.2.2.1, (g3 8 (by omega)).trans fl'.2.2.2.2.2⟩)
              · have := bfs_len (kSc P) (24 * i) 24
                rw [show 24 * (i + 1) = 24 * i + 24 by omega]
                omega
              · by_cases e : j < i
                · have hj0 : j < (bfs (kSc P) (24 * i)).length := by omega
                  have h1 := bfs_stay (List.getElem?_eq_getElem hj0) 24
                  rw [show 24 * (i + 1) = 24 * i + 24 by omega, h1] at hp
                  rw [← Option.some.inj hp]
                  exact ap j _ (List.getElem?_eq_getElem hj0) e
                · have e2 : j = i := by omega
                  subst e2
                  have h1 := bfs_stay hkv 24
                  rw [show 24 * (j + 1) = 24 * j + 24 by omega, h1] at hp
                  rw [← Option.some.inj hp]
                  exact hz
            · have hz : ¬ apF P b key = 0 := c55
              refine g_aload_n C (gd DX5_findApart_0 34 rfl) 0 rfl rfl ?_
              refine g_iload_n C (gd DX5_findApart_0 35 rfl) 2 rfl rfl ?_
              refine g_puti (ci := 5) (k := 13) C rfl (by decide) rfl lf_TestJudge_Search_56 hs.1 (Or.inl rfl) rfl (gd DX5_findApart_0 36 rfl) ?_
              refine g_aload_n C (gd DX5_findApart_0 37 rfl) 0 rfl rfl ?_
              refine g_iload_n C (gd DX5_findApart_0 38 rfl) 3 rfl rfl ?_
              rw [hS_i0]
              refine g_cS1 C [_] mJ6_numberOfTrailingZeros_0f7a4 lm_TestJudge_Search_125 (e_ntz _) hfl (by decide) (by decide) (by omega) (by omega) rfl rfl (Nat.le_of_ble_eq_true rfl) (gd DX5_findApart_0 39 rfl) ?_
              refine g_puti (ci := 5) (k := 14) C rfl (by decide) rfl lf_TestJudge_Search_59 hs.1 (Or.inl rfl) rfl (gd DX5_findApart_0 40 rfl) ?_
              refine g_iconst (v := 1) C (gd DX5_findApart_0 41 rfl) (by decide) ?_
              rw [hS_i0]
              exact g_zret C (by decide) (by omega) (by omega) ⟨i, upd (upd (lkS P key F') 13 (nI i)) 14 (ntzF (apF P b key)), BH', NU', SI', CA', rfl, ⟨q.1, q.2⟩, ap, Or.inl ⟨rfl, key, v, hkv, hz, rfl, rfl, rfl⟩⟩ (gd DX5_findApart_0 42 rfl)
          refine g_iconst (v := -1) C (gd DX5_findApart_0 16 rfl) (by decide) ?_
          refine g_ixor C (gd DX5_findApart_0 17 rfl) ?_
          refine g_iand C (gd DX5_findApart_0 18 rfl) ?_
          refine g_iload_n C (gd DX5_findApart_0 19 rfl) 1 rfl rfl ?_
          refine g_if_eq C 41 (gd DX5_findApart_0 20 rfl) (by decide) (fun c34 => ?_) (fun c34 => ?_)
          · refine g_aload_n C (gd DX5_findApart_0 23 rfl) 0 rfl rfl ?_
            refine g_geti (ci := 5) (k := 3) C rfl (by decide) rfl lf_TestJudge_Search_24 hs.1 (gd DX5_findApart_0 24 rfl) ?_
            refine g_aload_n C (gd DX5_findApart_0 25 rfl) 0 rfl rfl ?_
            refine g_geti (ci := 5) (k := 1) C rfl (by decide) rfl lf_TestJudge_Search_17 hs.1 (gd DX5_findApart_0 26 rfl) ?_
            rw [hS_0]
            rw [show lkS P key F' 1 = kE1 P key from rfl, show lkS P key F' 3 = kE2 P key from rfl]
            refine g_iconst (v := -1) C (gd DX5_findApart_0 27 rfl) (by decide) ?_
            refine g_ixor C (gd DX5_findApart_0 28 rfl) ?_
            refine g_iand C (gd DX5_findApart_0 29 rfl) ?_
            exact GW.cast rfl (by rw [if_pos c34]) rfl k52
          · refine g_iconst (v := 0) C (gd DX5_findApart_0 21 rfl) (by decide) ?_
            refine g_goto (tgt := 52) C (gd DX5_findApart_0 22 rfl) (by decide) ?_
            exact GW.cast rfl (by rw [if_neg c34]) rfl k52
  refine g_iconst (v := 0) C (gd DX5_findApart_0 0 rfl) (by decide) ?_
  refine g_istore_n (lv' := [(0, _), (1, _), (2, _)]) C (gd DX5_findApart_0 1 rfl) [1, 2, 0] rfl (by decide) rfl ?_
  exact key0 16385 0 F BH NU SI CA (by omega) (by omega) q (fun j p hp hj => by omega) fl
theorem e_s_foundInOne (hs : sSh s h) : EvF w 0 0 0 yX5_foundInOne cX5_foundInOne 1 (some .boolean) [.ref s] h (some (.int (b1 (¬ hI h s 1 >>> (hI h s 14 &&& 31) &&& 1 = 0)))) h := by
  refine g_start (by decide) (Nat.le_of_ble_eq_true rfl) [(0, _)] rfl (fun z hfl C => ?_)
  refine g_aload_n C (gd DX5_foundInOne_0 0 rfl) 0 rfl rfl ?_
  refine g_geti (ci := 5) (k := 1) C rfl (by decide) rfl lf_TestJudge_Search_17 hs.1 (gd DX5_foundInOne_0 1 rfl) ?_
  refine g_aload_n C (gd DX5_foundInOne_0 2 rfl) 0 rfl rfl ?_
  refine g_geti (ci := 5) (k := 14) C rfl (by decide) rfl lf_TestJudge_Search_59 hs.1 (gd DX5_foundInOne_0 3 rfl) ?_
  refine g_ishr C (gd DX5_foundInOne_0 4 rfl) ?_
  refine g_iconst (v := 1) C (gd DX5_foundInOne_0 5 rfl) (by decide) ?_
  refine g_iand C (gd DX5_foundInOne_0 6 rfl) ?_
  refine g_if_eq C 18 (gd DX5_foundInOne_0 7 rfl) (by decide) (fun c11 => ?_) (fun c11 => ?_)
  · refine g_iconst (v := 0) C (gd DX5_foundInOne_0 10 rfl) (by decide) ?_
    exact g_zret C (by decide) (by omega) (by omega) ⟨by rw [b1_f (fun x => x c11)], rfl⟩ (gd DX5_foundInOne_0 11 rfl)
  · refine g_iconst (v := 1) C (gd DX5_foundInOne_0 8 rfl) (by decide) ?_
    refine g_goto (tgt := 19) C (gd DX5_foundInOne_0 9 rfl) (by decide) ?_
    exact g_zret C (by decide) (by omega) (by omega) ⟨by rw [b1_t c11], rfl⟩ (gd DX5_foundInOne_0 11 rfl)
end C11
