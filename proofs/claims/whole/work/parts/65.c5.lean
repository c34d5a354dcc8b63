/-! Search: its shape, meet, look -/
/-- a Search with its rows and runners behind it -/
def sSh (s : Nat) (h : HS) : Prop := hK h s = 6 ∧ (hR h s 2 = some (s + 1) ∧ hK h (s + 1) = 12 ∧ hN h (s + 1) = 24) ∧ (hR h s 4 = some (s + 2) ∧ rSh (s + 2) h) ∧ (hR h s 5 = some (s + 6) ∧ rSh (s + 6) h) ∧ (hR h s 6 = some (s + 10) ∧ rSh (s + 10) h) ∧ (hR h s 15 = some (s + 14) ∧ hK h (s + 14) = 12 ∧ hN h (s + 14) = 16385) ∧ (hR h s 16 = some (s + 15) ∧ hK h (s + 15) = 12 ∧ hN h (s + 15) = 16385) ∧ (hR h s 17 = some (s + 16) ∧ hK h (s + 16) = 12 ∧ hN h (s + 16) = 16385) ∧ (hR h s 18 = some (s + 17) ∧ hK h (s + 17) = 13 ∧ hN h (s + 17) = 3845) ∧ (hR h s 19 = some (s + 18) ∧ hK h (s + 18) = 13 ∧ hN h (s + 18) = 3845)
/-- the heap with other fields and rows of the search -/
def hS (s : Nat) (h : HS) (F BH NU SI CA : Nat → Int32) : HS := sF (sF (sF (sF (sF h s F) (s + 1) BH) (s + 14) NU) (s + 15) SI) (s + 16) CA
section C5a
variable {s : Nat} {h : HS} {F BH NU SI CA : Nat → Int32}
theorem hS_ne {b : Nat} (hb : ¬ (b = s ∨ b = s + 1 ∨ b = s + 14 ∨ b = s + 15 ∨ b = s + 16)) : hI (hS s h F BH NU SI CA) b = hI h b := by
  unfold hS
  rw [hI_sF_ne (by omega), hI_sF_ne (by omega), hI_sF_ne (by omega), hI_sF_ne (by omega), hI_sF_ne (by omega)]
theorem hS_0 : hI (hS s h F BH NU SI CA) s = F := by
  unfold hS
  rw [hI_sF_ne (by omega), hI_sF_ne (by omega), hI_sF_ne (by omega), hI_sF_ne (by omega), hI_sF_eq]
theorem hS_1 : hI (hS s h F BH NU SI CA) (s + 1) = BH := by
  unfold hS
  rw [hI_sF_ne (by omega), hI_sF_ne (by omega), hI_sF_ne (by omega), hI_sF_eq]
theorem hS_14 : hI (hS s h F BH NU SI CA) (s + 14) = NU := by
  unfold hS
  rw [hI_sF_ne (by omega), hI_sF_ne (by omega), hI_sF_eq]
theorem hS_15 : hI (hS s h F BH NU SI CA) (s + 15) = SI := by
  unfold hS
  rw [hI_sF_ne (by omega), hI_sF_eq]
theorem hS_16 : hI (hS s h F BH NU SI CA) (s + 16) = CA := by
  unfold hS
  rw [hI_sF_eq]
theorem hS_f0 {g : Nat → Int32} : sF (hS s h F BH NU SI CA) s g = hS s h g BH NU SI CA := by
  unfold hS
  rw [sF_sF_c (show s + 16 ≠ s by omega), sF_sF_c (show s + 15 ≠ s by omega), sF_sF_c (show s + 14 ≠ s by omega), sF_sF_c (show s + 1 ≠ s by omega), sF_sF]
theorem hS_f1 {g : Nat → Int32} : sF (hS s h F BH NU SI CA) (s + 1) g = hS s h F g NU SI CA := by
  unfold hS
  rw [sF_sF_c (show s + 16 ≠ s + 1 by omega), sF_sF_c (show s + 15 ≠ s + 1 by omega), sF_sF_c (show s + 14 ≠ s + 1 by omega), sF_sF]
theorem hS_f14 {g : Nat → Int32} : sF (hS s h F BH NU SI CA) (s + 14) g = hS s h F BH g SI CA := by
  unfold hS
  rw [sF_sF_c (show s + 16 ≠ s + 14 by omega), sF_sF_c (show s + 15 ≠ s + 14 by omega), sF_sF]
theorem hS_f15 {g : Nat → Int32} : sF (hS s h F BH NU SI CA) (s + 15) g = hS s h F BH NU g CA := by
  unfold hS
  rw [sF_sF_c (show s + 16 ≠ s + 15 by omega), sF_sF]
theorem hS_f16 {g : Nat → Int32} : sF (hS s h F BH NU SI CA) (s + 16) g = hS s h F BH NU SI g := by
  unfold hS
  rw [sF_sF]
theorem hS_i0 {k : Nat} {v : Int32} : sI (hS s h F BH NU SI CA) s k v = hS s h (upd F k v) BH NU SI CA := by rw [sI_sF, hS_0, hS_f0]
theorem hS_i1 {k : Nat} {v : Int32} : sI (hS s h F BH NU SI CA) (s + 1) k v = hS s h F (upd BH k v) NU SI CA := by rw [sI_sF, hS_1, hS_f1]
theorem hS_i14 {k : Nat} {v : Int32} : sI (hS s h F BH NU SI CA) (s + 14) k v = hS s h F BH (upd NU k v) SI CA := by rw [sI_sF, hS_14, hS_f14]
theorem hS_i15 {k : Nat} {v : Int32} : sI (hS s h F BH NU SI CA) (s + 15) k v = hS s h F BH NU (upd SI k v) CA := by rw [sI_sF, hS_15, hS_f15]
theorem hS_i16 {k : Nat} {v : Int32} : sI (hS s h F BH NU SI CA) (s + 16) k v = hS s h F BH NU SI (upd CA k v) := by rw [sI_sF, hS_16, hS_f16]
theorem hS_self : hS s h (hI h s) (hI h (s + 1)) (hI h (s + 14)) (hI h (s + 15)) (hI h (s + 16)) = h := by
  unfold hS
  rw [sF_self, sF_self, sF_self, sF_self, sF_self]
end C5a
/-- the rows of the search hold the list L of keys -/
def sQ (L : List (Int64 × Nat)) (F NU SI CA : Nat → Int32) : Prop := F 0 = nI L.length ∧ (∀ (j : Nat) (q : Int64 × Nat), L[j]? = some q → SI j = nI (kCode q.1) ∧ CA j = nI q.2 ∧ NU (kCode q.1) = nI (j + 1)) ∧ ∀ c, c < 16385 → (∀ (j : Nat) (q : Int64 × Nat), L[j]? = some q → kCode q.1 ≠ c) → NU c = 0
/-- keys as they are met with P, each once -/
def kOk (P : kP) (L : List (Int64 × Nat)) : Prop := (∀ (j : Nat) (q : Int64 × Nat), L[j]? = some q → kW P q.1) ∧ ∀ (i j : Nat) (p q : Int64 × Nat), L[i]? = some p → L[j]? = some q → p.1 = q.1 → i = j
def addK (L : List (Int64 × Nat)) (k : Int64) (e : Nat) : List (Int64 × Nat) := if k ∈ L.map (·.1) then L else L ++ [(k, e)]
theorem mem_ix {L : List (Int64 × Nat)} {k : Int64} : k ∈ L.map (·.1) ↔ ∃ (j v : Nat), L[j]? = some (k, v) := by
  rw [List.mem_map]
  constructor
  · rintro ⟨q, h1, h2⟩
    obtain ⟨j, hj⟩ := List.getElem?_of_mem h1
    exact ⟨j, q.2, by rw [hj, ← h2]⟩
  · rintro ⟨j, v, hj⟩
    exact ⟨(k, v), List.mem_of_getElem? hj, rfl⟩
theorem kOk.lt {P : kP} (hs : kSm P) {L : List (Int64 × Nat)} (ok : kOk P L) {k : Int64} (hk : kW P k) (hn : ¬ k ∈ L.map (·.1)) : L.length < 16385 := by
  have key := pigeon (fun i => kCode ((((L ++ [(k, 0)])[i]?).map (·.1)).getD 0)) (L.length + 1) 16385 (fun i hi => ?_) (fun i j hi hj he => ?_)
  · omega
  · by_cases e : i < L.length
    · show kCode ((((L ++ [(k, 0)])[i]?).map (·.1)).getD 0) < 16385
      rw [List.getElem?_append_left e, List.getElem?_eq_getElem e]
      exact (ok.1 i _ (List.getElem?_eq_getElem e)).lt hs
    · have : i = L.length := by omega
      subst this
      show kCode ((((L ++ [(k, 0)])[L.length]?).map (·.1)).getD 0) < 16385
      rw [List.getElem?_append_right (Nat.le_refl _)]
      simp only [Nat.sub_self, List.getElem?_cons_zero, Option.map_some, Option.getD_some]
      exact hk.lt hs
  · have get : ∀ i, i < L.length + 1 → ∃ p : Int64 × Nat, (L ++ [(k, 0)])[i]? = some p ∧ kW P p.1 ∧ (i < L.length → L[i]? = some p) ∧ (i = L.length → p = (k, 0)) := by
      intro i hi
      by_cases e : i < L.length
      · refine ⟨L[i], by rw [List.getElem?_append_left e, List.getElem?_eq_getElem e], ok.1 i _ (List.getElem?_eq_getElem e), fun _ => List.getElem?_eq_getElem e, fun x => by omega⟩
      · have : i = L.length := by omega
        subst this
        exact ⟨(k, 0), by rw [List.getElem?_append_right (Nat.le_refl _)]; simp, hk, fun x => by omega, fun _ => rfl⟩
    obtain ⟨p, p1, p2, p3, p4⟩ := get i hi
    obtain ⟨q, q1, q2, q3, q4⟩ := get j hj
    have he2 : kCode p.1 = kCode q.1 := by
      have : kCode ((((L ++ [(k, 0)])[i]?).map (·.1)).getD 0) = kCode ((((L ++ [(k, 0)])[j]?).map (·.1)).getD 0) := he
      rw [p1, q1] at this
      exact this
    have e := p2.inj hs q2 he2
    by_cases ei : i < L.length <;> by_cases ej : j < L.length
    · exact ok.2 i j p q (p3 ei) (q3 ej) e
    · exfalso
      rw [q4 (by omega)] at e
      exact hn (mem_ix.mpr ⟨i, p.2, by rw [p3 ei]; exact congrArg some (Prod.ext e rfl)⟩)
    · exfalso
      rw [p4 (by omega)] at e
      exact hn (mem_ix.mpr ⟨j, q.2, by rw [q3 ej]; exact congrArg some (Prod.ext e.symm rfl)⟩)
    · omega
theorem kOk.add {P : kP} {L : List (Int64 × Nat)} (ok : kOk P L) {k : Int64} (hk : kW P k) (e : Nat) : kOk P (addK L k e) := by
  unfold addK
  split
  · exact ok
  · rename_i hn
    have get : ∀ (i : Nat) (p : Int64 × Nat), (L ++ [(k, e)])[i]? = some p → L[i]? = some p ∨ (i = L.length ∧ p = (k, e)) := by
      intro i p hp
      by_cases x : i < L.length
      · rw [List.getElem?_append_left x] at hp; exact Or.inl hp
      · have h1 := (List.getElem?_eq_some_iff.mp hp).1
        rw [List.length_append] at h1
        simp at h1
        have : i = L.length := by omega
        subst this
        rw [List.getElem?_append_right (Nat.le_refl _)] at hp
        simp at hp
        exact Or.inr ⟨rfl, hp.symm⟩
    refine ⟨fun j q hq => ?_, fun i j p q hp hq hpq => ?_⟩
    · rcases get j q hq with x | ⟨_, x⟩
      · exact ok.1 j q x
      · rw [x]; exact hk
    · rcases get i p hp with x | ⟨x1, x2⟩ <;> rcases get j q hq with y | ⟨y1, y2⟩
      · exact ok.2 i j p q x y hpq
      · exfalso; subst y2; exact hn (mem_ix.mpr ⟨i, p.2, by rw [x]; exact congrArg some (Prod.ext hpq rfl)⟩)
      · exfalso; subst x2; exact hn (mem_ix.mpr ⟨j, q.2, by rw [y]; exact congrArg some (Prod.ext hpq.symm rfl)⟩)
      · omega
theorem sQ.new {P : kP} (hs : kSm P) {L : List (Int64 × Nat)} (ok : kOk P L) {F NU SI CA : Nat → Int32} (q : sQ L F NU SI CA) {k : Int64} (hk : kW P k) (hn : ¬ k ∈ L.map (·.1)) (e : Nat) : sQ (L ++ [(k, e)]) (upd F 0 (nI (L.length + 1))) (upd NU (kCode k) (nI (L.length + 1))) (upd SI L.length (nI (kCode k))) (upd CA L.length (nI e)) := by
  have hne : ∀ (j : Nat) (p : Int64 × Nat), L[j]? = some p → kCode p.1 ≠ kCode k := fun j p hp x => hn (mem_ix.mpr ⟨j, p.2, by rw [hp]; exact congrArg some (Prod.ext ((ok.1 j p hp).inj hs hk x) rfl)⟩)
  refine ⟨by rw [upd, if_pos rfl, List.length_append]; rfl, fun j p hp => ?_, fun c hc hx => ?_⟩
  · by_cases x : j < L.length
    · rw [List.getElem?_append_left x] at hp
      obtain ⟨g1, g2, g3⟩ := q.2.1 j p hp
      refine ⟨by rw [upd, if_neg (by omega), g1], by rw [upd, if_neg (by omega), g2], by rw [upd, if_neg (hne j p hp), g3]⟩
    · have h1 := (List.getElem?_eq_some_iff.mp hp).1
      rw [List.length_append] at h1
      simp at h1
      have : j = L.length := by omega
      subst this
      rw [List.getElem?_append_right (Nat.le_refl _)] at hp
      simp at hp
      subst hp
      exact ⟨by rw [upd, if_pos rfl], by rw [upd, if_pos rfl], by rw [upd, if_pos rfl]⟩
  · have h1 : kCode k ≠ c := hx L.length (k, e) (by rw [List.getElem?_append_right (Nat.le_refl _)]; simp)
    rw [upd, if_neg (fun x => h1 x.symm)]
    refine q.2.2 c hc fun j p hp => hx j p ?_
    rw [List.getElem?_append_left (List.getElem?_eq_some_iff.mp hp).1]
    exact hp
theorem nI_nn {a : Nat} (ha : a < 2 ^ 31) : ¬ nI a < 0 := fun x => by
  have := Int32.lt_iff_toInt_lt.mp x
  rw [nI_toInt ha] at this
  have h0 : (0 : Int32).toInt = 0 := rfl
  omega
section C5f
variable {w : gD} {h : HS}
theorem e_s_fits {a : Nat} (ha : a < 2 ^ 31) : EvF w 0 0 0 yX5_fits cX5_fits 1 (some .boolean) [.int (nI a)] h (some (.int (b1 (a < 16385)))) h := by
  refine g_start (by decide) (Nat.le_of_ble_eq_true rfl) [(0, _)] rfl (fun z hfl C => ?_)
  refine g_iload_n C (gd DX5_fits_0 0 rfl) 0 rfl rfl ?_
  refine g_if_lt C 15 (gd DX5_fits_0 1 rfl) (by decide) (fun c1 => ?_) (fun c1 => ?_)
  · exact absurd c1 (nI_nn ha)
  · refine g_iload_n C (gd DX5_fits_0 2 rfl) 0 rfl rfl ?_
    refine g_sipush (v := 16385) C (gd DX5_fits_0 3 rfl) (by decide) ?_
    refine g_icmp_ge C 15 (gd DX5_fits_0 4 rfl) (by decide) (fun c8 => ?_) (fun c8 => ?_)
    · refine g_iconst (v := 0) C (gd DX5_fits_0 7 rfl) (by decide) ?_
      exact g_zret C (by decide) (by omega) (by omega) ⟨by rw [b1_f (Nat.not_lt.mpr (ge_t (b := 16385) c8 ha (by omega)))], rfl⟩ (gd DX5_fits_0 8 rfl)
    · refine g_iconst (v := 1) C (gd DX5_fits_0 5 rfl) (by decide) ?_
      refine g_goto (tgt := 16) C (gd DX5_fits_0 6 rfl) (by decide) ?_
      exact g_zret C (by decide) (by omega) (by omega) ⟨by rw [b1_t (ge_f (b := 16385) c8 ha (by omega))], rfl⟩ (gd DX5_fits_0 8 rfl)
end C5f
section C5
variable {w : gD} {s : Nat} {h : HS}
theorem e_s_meet (hs : sSh s h) {P : kP} (hP : kSm P) {L : List (Int64 × Nat)} (ok : kOk P L) {F BH NU SI CA : Nat → Int32} (q : sQ L F NU SI CA) {k : Int64} (hk : kW P k) {fr lt : Nat} :
    Ev w 1 0 0 yX5_meet cX5_meet 4 (some .int) [.ref s, .int (nI (kCode k)), .int (nI fr), .int (nI lt)] (hS s h F BH NU SI CA) (fun r' h' => ∃ (j v : Nat) (F' NU' SI' CA' : Nat → Int32), r' = some (.int (nI j)) ∧ h' = hS s h F' BH NU' SI' CA' ∧ sQ (addK L k (24 * fr + lt)) F' NU' SI' CA' ∧ (addK L k (24 * fr + lt))[j]? = some (k, v) ∧ ∀ i, i ≠ 0 → F' i = F i) := by
  refine g_start (by decide) (Nat.le_of_ble_eq_true rfl) [(0, _), (1, _), (2, _), (3, _)] rfl (fun z hfl C => ?_)
  have hlt := hk.lt hP
  have fin : ∀ (j v : Nat) (F' NU' SI' CA' : Nat → Int32), sQ (addK L k (24 * fr + lt)) F' NU' SI' CA' → (addK L k (24 * fr + lt))[j]? = some (k, v) → (∀ i, i ≠ 0 → F' i = F i) → GW z w 4 (gQ z w 0 0 (fun r' h'' => ∃ (j v : Nat) (F' NU' SI' CA' : Nat → Int32), r' = some (.int (nI j)) ∧ h'' = hS s h F' BH NU' SI' CA' ∧ sQ (addK L k (24 * fr + lt)) F' NU' SI' CA' ∧ (addK L k (24 * fr + lt))[j]? = some (k, v) ∧ ∀ i, i ≠ 0 → F' i = F i)) 0 0 73 [(0, .ref s), (1, .int (nI (kCode k))), (2, .int (nI fr)), (3, .int (nI lt))] [] (hS s h F' BH NU' SI' CA') := by
    intro j v F' NU' SI' CA' h1 h2 h3
    refine g_aload_n C (gd DX5_meet_0 42 rfl) 0 rfl rfl ?_
    refine g_getr (ci := 5) (k := 15) C rfl (by decide) rfl lf_TestJudge_Search_62 hs.1 hs.2.2.2.2.2.1.1 (gd DX5_meet_0 43 rfl) ?_
    refine g_iload_n C (gd DX5_meet_0 44 rfl) 1 rfl rfl ?_
    refine g_iaj (j := kCode k) C hs.2.2.2.2.2.1.2.1 hs.2.2.2.2.2.1.2.2 (by first | decide | omega) rfl (by omega) (gd DX5_meet_0 45 rfl) ?_
    rw [hS_14, (h1.2.1 j (k, v) h2).2.2]
    refine g_iconst (v := 1) C (gd DX5_meet_0 46 rfl) (by decide) ?_
    refine g_isub C (gd DX5_meet_0 47 rfl) ?_
    exact g_iret C (by omega) (by omega) ⟨j, v, F', NU', SI', CA', by rw [show nI (j + 1) - 1 = nI (j + 1 - 1) from nx_sub (b := 1) rfl rfl (by omega)]; rfl, rfl, h1, h2, h3⟩ (gd DX5_meet_0 48 rfl)
  refine g_iload_n C (gd DX5_meet_0 0 rfl) 1 rfl rfl ?_
  refine g_cS1 C [_] mX5_fits lm_TestJudge_Search_78 (e_s_fits (by omega)) hfl (by first | decide | omega) (by decide) (by omega) (by omega) rfl rfl (Nat.le_of_ble_eq_true rfl) (gd DX5_meet_0 1 rfl) ?_
  rw [b1_t hlt]
  refine g_if_ne C 9 (gd DX5_meet_0 2 rfl) (by decide) (fun c4 => ?_) (fun c4 => ?_)
  rotate_left
  · exact absurd c4 (by decide)
  by_cases hm : k ∈ L.map (·.1)
  · obtain ⟨j, v, hj⟩ := mem_ix.mp hm
    have ea : addK L k (24 * fr + lt) = L := if_pos hm
    have hl : j < 16385 := by
      have h1 := (List.getElem?_eq_some_iff.mp hj).1
      have h2 := pigeon (fun i => kCode (((L[i]?).map (·.1)).getD 0)) L.length 16385 (fun i hi => by
        show kCode (((L[i]?).map (·.1)).getD 0) < 16385
        rw [List.getElem?_eq_getElem hi]
        exact (ok.1 i _ (List.getElem?_eq_getElem hi)).lt hP) (fun i j hi hj he => by
        have he2 : kCode (((L[i]?).map (·.1)).getD 0) = kCode (((L[j]?).map (·.1)).getD 0) := he
        rw [List.getElem?_eq_getElem hi, List.getElem?_eq_getElem hj] at he2
        exact ok.2 i j _ _ (List.getElem?_eq_getElem hi) (List.getElem?_eq_getElem hj) ((ok.1 i _ (List.getElem?_eq_getElem hi)).inj hP (ok.1 j _ (List.getElem?_eq_getElem hj)) he2))
      omega
    refine g_aload_n C (gd DX5_meet_0 5 rfl) 0 rfl rfl ?_
    refine g_getr (ci := 5) (k := 15) C rfl (by decide) rfl lf_TestJudge_Search_62 hs.1 hs.2.2.2.2.2.1.1 (gd DX5_meet_0 6 rfl) ?_
    refine g_iload_n C (gd DX5_meet_0 7 rfl) 1 rfl rfl ?_
    refine g_iaj (j := kCode k) C hs.2.2.2.2.2.1.2.1 hs.2.2.2.2.2.1.2.2 (by first | decide | omega) rfl (by omega) (gd DX5_meet_0 8 rfl) ?_
    rw [hS_14, (q.2.1 j (k, v) hj).2.2]
    refine g_if_ne C 73 (gd DX5_meet_0 9 rfl) (by decide) (fun c15 => ?_) (fun c15 => ?_)
    · exact fin j v F NU SI CA (by rw [ea]; exact q) (by rw [ea]; exact hj) (fun _ _ => rfl)
    · exact absurd c15 (nI_ne0 (by omega) (by omega))
  · have ea : addK L k (24 * fr + lt) = L ++ [(k, 24 * fr + lt)] := if_neg hm
    have hl := ok.lt hP hk hm
    have h0 : NU (kCode k) = 0 := q.2.2 _ hlt (fun j p hp x => hm (mem_ix.mpr ⟨j, p.2, by rw [hp]; exact congrArg some (Prod.ext ((ok.1 j p hp).inj hP hk x) rfl)⟩))
    refine g_aload_n C (gd DX5_meet_0 5 rfl) 0 rfl rfl ?_
    refine g_getr (ci := 5) (k := 15) C rfl (by decide) rfl lf_TestJudge_Search_62 hs.1 hs.2.2.2.2.2.1.1 (gd DX5_meet_0 6 rfl) ?_
    refine g_iload_n C (gd DX5_meet_0 7 rfl) 1 rfl rfl ?_
    refine g_iaj (j := kCode k) C hs.2.2.2.2.2.1.2.1 hs.2.2.2.2.2.1.2.2 (by first | decide | omega) rfl (by omega) (gd DX5_meet_0 8 rfl) ?_
    rw [hS_14, h0]
    refine g_if_ne C 73 (gd DX5_meet_0 9 rfl) (by decide) (fun c15 => ?_) (fun c15 => ?_)
    · exact absurd rfl c15
    · refine g_aload_n C (gd DX5_meet_0 10 rfl) 0 rfl rfl ?_
      refine g_geti (ci := 5) (k := 0) C rfl (by decide) rfl lf_TestJudge_Search_13 hs.1 (gd DX5_meet_0 11 rfl) ?_
      refine g_sipush (v := 16385) C (gd DX5_meet_0 12 rfl) (by decide) ?_
      rw [hS_0, q.1]
      refine g_icmp_ge C 73 (gd DX5_meet_0 13 rfl) (by decide) (fun c25 => ?_) (fun c25 => ?_)
      · exact absurd c25 (nI_ge (a := L.length) (b := 16385) hl (by omega))
      · refine g_aload_n C (gd DX5_meet_0 14 rfl) 0 rfl rfl ?_
        refine g_getr (ci := 5) (k := 16) C rfl (by decide) rfl lf_TestJudge_Search_65 hs.1 hs.2.2.2.2.2.2.1.1 (gd DX5_meet_0 15 rfl) ?_
        refine g_aload_n C (gd DX5_meet_0 16 rfl) 0 rfl rfl ?_
        refine g_geti (ci := 5) (k := 0) C rfl (by decide) rfl lf_TestJudge_Search_13 hs.1 (gd DX5_meet_0 17 rfl) ?_
        rw [hS_0, q.1]
        refine g_iload_n C (gd DX5_meet_0 18 rfl) 1 rfl rfl ?_
        refine g_isj (j := L.length) C hs.2.2.2.2.2.2.1.2.1 hs.2.2.2.2.2.2.1.2.2 (by first | decide | omega) rfl (by omega) (gd DX5_meet_0 19 rfl) ?_
        refine g_aload_n C (gd DX5_meet_0 20 rfl) 0 rfl rfl ?_
        refine g_getr (ci := 5) (k := 17) C rfl (by decide) rfl lf_TestJudge_Search_68 hs.1 hs.2.2.2.2.2.2.2.1.1 (gd DX5_meet_0 21 rfl) ?_
        refine g_aload_n C (gd DX5_meet_0 22 rfl) 0 rfl rfl ?_
        refine g_geti (ci := 5) (k := 0) C rfl (by decide) rfl lf_TestJudge_Search_13 hs.1 (gd DX5_meet_0 23 rfl) ?_
        rw [hS_i15, hS_0, q.1]
        refine g_iload_n C (gd DX5_meet_0 24 rfl) 2 rfl rfl ?_
        refine g_bipush (v := 24) C (gd DX5_meet_0 25 rfl) (by decide) ?_
        refine g_imul C (gd DX5_meet_0 26 rfl) ?_
        refine g_iload_n C (gd DX5_meet_0 27 rfl) 3 rfl rfl ?_
        refine g_iadd C (gd DX5_meet_0 28 rfl) ?_
        refine g_isj (j := L.length) C hs.2.2.2.2.2.2.2.1.2.1 hs.2.2.2.2.2.2.2.1.2.2 (by first | decide | omega) rfl (by omega) (gd DX5_meet_0 29 rfl) ?_
        refine g_aload_n C (gd DX5_meet_0 30 rfl) 0 rfl rfl ?_
        refine g_dup C (gd DX5_meet_0 31 rfl) rfl ?_
        refine g_geti (ci := 5) (k := 0) C rfl (by decide) rfl lf_TestJudge_Search_13 hs.1 (gd DX5_meet_0 32 rfl) ?_
        rw [hS_i16, hS_0, q.1]
        refine g_iconst (v := 1) C (gd DX5_meet_0 33 rfl) (by decide) ?_
        refine g_iadd C (gd DX5_meet_0 34 rfl) ?_
        refine g_puti (ci := 5) (k := 0) C rfl (by decide) rfl lf_TestJudge_Search_13 hs.1 (Or.inl rfl) rfl (gd DX5_meet_0 35 rfl) ?_
        refine g_aload_n C (gd DX5_meet_0 36 rfl) 0 rfl rfl ?_
        refine g_getr (ci := 5) (k := 15) C rfl (by decide) rfl lf_TestJudge_Search_62 hs.1 hs.2.2.2.2.2.1.1 (gd DX5_meet_0 37 rfl) ?_
        refine g_iload_n C (gd DX5_meet_0 38 rfl) 1 rfl rfl ?_
        refine g_aload_n C (gd DX5_meet_0 39 rfl) 0 rfl rfl ?_
        refine g_geti (ci := 5) (k := 0) C rfl (by decide) rfl lf_TestJudge_Search_13 hs.1 (gd DX5_meet_0 40 rfl) ?_
        rw [show nI L.length + 1 = nI (L.length + 1) from nx_add (b := 1) rfl rfl, hS_i0, hS_0]
        rw [show upd F 0 (nI (L.length + 1)) 0 = nI (L.length + 1) from if_pos rfl]
        refine g_isj (j := kCode k) C hs.2.2.2.2.2.1.2.1 hs.2.2.2.2.2.1.2.2 (by first | decide | omega) rfl (by omega) (gd DX5_meet_0 41 rfl) ?_
        rw [hS_i14]
        refine GW.cast rfl rfl ?_ (fin L.length (24 * fr + lt) _ _ _ _ (by rw [ea]; exact q.new hP ok hk hm (24 * fr + lt)) (by rw [ea, List.getElem?_append_right (Nat.le_refl _)]; simp) (fun i hi => if_neg hi))
        rw [show nI fr * 24 + nI lt = nI (24 * fr + lt) from by rw [show 24 * fr + lt = fr * 24 + lt by omega]; exact nx_add (nx_mul (b := 24) rfl rfl) rfl]
        rfl
end C5
