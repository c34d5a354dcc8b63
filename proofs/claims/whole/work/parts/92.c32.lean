/-! World: insert, remove, factWeight, tellFact -/
/-- the references of the row a are f -/
def sO (h : HS) (a : Nat) (f : Nat → Option Nat) : HS := (h.1, h.2.1, fun b j => if b = a then f j else h.2.2.1 b j, h.2.2.2)
theorem hR_sO_eq (h : HS) (a : Nat) (f : Nat → Option Nat) : hR (sO h a f) a = f := by funext j; exact if_pos rfl
theorem hR_sO_ne {h : HS} {a b : Nat} {f : Nat → Option Nat} (hb : b ≠ a) : hR (sO h a f) b = hR h b := by funext j; exact if_neg hb
theorem sO_sO (h : HS) (a : Nat) (f g : Nat → Option Nat) : sO (sO h a f) a g = sO h a g := by
  unfold sO
  congr 3
  funext b j
  by_cases e : b = a
  · rw [if_pos e, if_pos e]
  · rw [if_neg e, if_neg e]; exact if_neg e
theorem sR_sO (h : HS) (a k : Nat) (v : Option Nat) : sR h a k v = sO h a (updO (hR h a) k v) := by
  unfold sR sO updO
  congr 3
  funext b j
  by_cases e : b = a
  · subst e
    by_cases e2 : j = k
    · rw [if_pos ⟨rfl, e2⟩, if_pos rfl, if_pos e2]
    · rw [if_neg (fun x => e2 x.2), if_pos rfl, if_neg e2]; rfl
  · rw [if_neg (fun x => e x.1), if_neg e]
theorem sO_self (h : HS) (a : Nat) : sO h a (hR h a) = h := by
  unfold sO
  refine Prod.ext rfl (Prod.ext rfl (Prod.ext (funext fun b => funext fun j => ?_) rfl))
  show (if b = a then hR h a j else h.2.2.1 b j) = h.2.2.1 b j
  by_cases e : b = a
  · rw [if_pos e, e]; rfl
  · rw [if_neg e]
theorem sF_sO {h : HS} {a b : Nat} {f : Nat → Int32} {g : Nat → Option Nat} : sF (sO h b g) a f = sO (sF h a f) b g := rfl
/-- what lies above i, up to n, has moved up by one -/
def mvU {α : Type} (f : Nat → α) (i n : Nat) : Nat → α := fun j => if i < j ∧ j ≤ n then f (j - 1) else f j
/-- what lies from p on has moved down by one, as far as i -/
def mvD {α : Type} (f : Nat → α) (p i : Nat) : Nat → α := fun j => if p ≤ j ∧ j < i then f (j + 1) else f j
theorem mvU_n {α : Type} (f : Nat → α) (n : Nat) : mvU f n n = f := by funext j; exact if_neg (by omega)
theorem mvU_s (f : Nat → Int32) {i n : Nat} (h : i < n) : upd (mvU f (i + 1) n) (i + 1) (mvU f (i + 1) n i) = mvU f i n := by
  funext j
  unfold upd mvU
  by_cases e : j = i + 1
  · rw [if_pos e, if_neg (by omega), if_pos (by omega), e]; rfl
  · rw [if_neg e]
    by_cases e2 : i + 1 < j ∧ j ≤ n
    · rw [if_pos e2, if_pos (by omega)]
    · rw [if_neg e2, if_neg (by omega)]
theorem mvU_sO (f : Nat → Option Nat) {i n : Nat} (h : i < n) : updO (mvU f (i + 1) n) (i + 1) (mvU f (i + 1) n i) = mvU f i n := by
  funext j
  unfold updO mvU
  by_cases e : j = i + 1
  · rw [if_pos e, if_neg (by omega), if_pos (by omega), e]; rfl
  · rw [if_neg e]
    by_cases e2 : i + 1 < j ∧ j ≤ n
    · rw [if_pos e2, if_pos (by omega)]
    · rw [if_neg e2, if_neg (by omega)]
theorem mvD_0 {α : Type} (f : Nat → α) (p : Nat) : mvD f p p = f := by funext j; exact if_neg (by omega)
theorem mvD_s (f : Nat → Int32) {p i : Nat} (h : p ≤ i) : upd (mvD f p i) i (mvD f p i (i + 1)) = mvD f p (i + 1) := by
  funext j
  unfold upd mvD
  by_cases e : j = i
  · rw [if_pos e, if_neg (by omega), if_pos (by omega), e]
  · rw [if_neg e]
    by_cases e2 : p ≤ j ∧ j < i
    · rw [if_pos e2, if_pos (by omega)]
    · rw [if_neg e2, if_neg (by omega)]
theorem mvD_sO (f : Nat → Option Nat) {p i : Nat} (h : p ≤ i) : updO (mvD f p i) i (mvD f p i (i + 1)) = mvD f p (i + 1) := by
  funext j
  unfold updO mvD
  by_cases e : j = i
  · rw [if_pos e, if_neg (by omega), if_pos (by omega), e]
  · rw [if_neg e]
    by_cases e2 : p ≤ j ∧ j < i
    · rw [if_pos e2, if_pos (by omega)]
    · rw [if_neg e2, if_neg (by omega)]
/-- a world with its numbers F, layers L and programs P -/
def hV (W : Nat) (h : HS) (F L : Nat → Int32) (P : Nat → Option Nat) : HS := sO (sF (sF h W F) (W + 2) L) (W + 1) P
section HV
variable {W : Nat} {h : HS} {F L : Nat → Int32} {P : Nat → Option Nat}
theorem hV_0 : hI (hV W h F L P) W = F := by
  show hI (sF (sF h W F) (W + 2) L) W = F
  rw [hI_sF_ne (by omega), hI_sF_eq]
theorem hV_2 : hI (hV W h F L P) (W + 2) = L := hI_sF_eq _ _ _
theorem hV_1 : hR (hV W h F L P) (W + 1) = P := hR_sO_eq _ _ _
theorem hV_ne {b : Nat} (hb : b ≠ W) (hb2 : b ≠ W + 2) : hI (hV W h F L P) b = hI h b := by
  show hI (sF (sF h W F) (W + 2) L) b = _
  rw [hI_sF_ne hb2, hI_sF_ne hb]
theorem hV_neR {b : Nat} (hb : b ≠ W + 1) : hR (hV W h F L P) b = hR h b := hR_sO_ne hb
theorem hV_i0 {k : Nat} {v : Int32} : sI (hV W h F L P) W k v = hV W h (upd F k v) L P := by
  rw [sI_sF, hV_0]
  unfold hV
  rw [sF_sO, sF_sF_c (by omega), sF_sF]
theorem hV_i2 {k : Nat} {v : Int32} : sI (hV W h F L P) (W + 2) k v = hV W h F (upd L k v) P := by
  rw [sI_sF, hV_2]
  unfold hV
  rw [sF_sO, sF_sF]
theorem hV_r1 {k : Nat} {v : Option Nat} : sR (hV W h F L P) (W + 1) k v = hV W h F L (updO P k v) := by
  rw [sR_sO, hV_1]
  unfold hV
  rw [sO_sO]
theorem hV_self : hV W h (hI h W) (hI h (W + 2)) (hR h (W + 1)) = h := by
  unfold hV
  rw [show hI h (W + 2) = hI (sF h W (hI h W)) (W + 2) by rw [sF_self], sF_self, sF_self]
  exact sO_self h (W + 1)
theorem wSh.V (hw : wSh W h) : wSh W (hV W h F L P) := by
  unfold wSh
  rw [hV_neR (by omega)]
  exact hw
end HV
section C32
variable {w : gD} {W : Nat} {h : HS}
theorem e_w_insert (hw : wSh W h) {np p a : Nat} {F L : Nat → Int32} {P : Nat → Option Nat} (h2 : F 2 = nI np) (hnp : np < 8) (hp : p ≤ np) (ka : hK h a = 3) (hP : ∀ j, j < np → ∃ b, P j = some b ∧ hK h b = 3) (l : Int32) : EvF w 0 0 0 yX8_insert cX8_insert 5 none [.ref W, .int (nI p), .ref a, .int l] (hV W h F L P) none (hV W h (upd F 2 (nI (np + 1))) (upd (mvU L p np) p l) (updO (mvU P p np) p (some a))) := by
  refine g_start (by decide) (Nat.le_of_ble_eq_true rfl) [(0, _), (1, _), (2, _), (3, _)] rfl (fun z hfl C => ?_)
  have loop : ∀ y i, i = p + y → i ≤ np → GW z w 5 (gQ z w 0 0 (fun r' h'' => r' = none ∧ h'' = hV W h (upd F 2 (nI (np + 1))) (upd (mvU L p np) p l) (updO (mvU P p np) p (some a)))) 0 0 28 [(0, .ref W), (1, .int (nI p)), (2, .ref a), (3, .int l), (4, .int (nI i))] [] (hV W h F (mvU L i np) (mvU P i np)) := by
    intro y
    induction y with
    | zero =>
      intro i hi hn
      have ei : i = p := hi
      subst ei
      refine g_iload C (gd DX8_insert_0 14 rfl) 4 rfl ?_
      refine g_iload_n C (gd DX8_insert_0 15 rfl) 1 rfl rfl ?_
      refine g_icmp_le C 72 (gd DX8_insert_0 16 rfl) (by decide) (fun c31 => ?_) (fun c31 => ?_)
      · refine GW.sub [0, 1, 2, 3, 4] rfl (Nat.le_refl _) (Nat.le_refl _) (lv' := [(0, _), (1, _), (2, _), (3, _), (4, _)]) ?_
        refine g_aload_n C (gd DX8_insert_0 39 rfl) 0 rfl rfl ?_
        refine g_getr (ci := 8) (k := 5) C rfl (by decide) rfl lf_TestJudge_World_29 hw.V.1 hw.V.2.1.1 (gd DX8_insert_0 40 rfl) ?_
        refine g_iload_n C (gd DX8_insert_0 41 rfl) 1 rfl rfl ?_
        refine g_aload_n C (gd DX8_insert_0 42 rfl) 2 rfl rfl ?_
        refine g_asj (j := i) C hw.V.2.1.2.1 ka hw.V.2.1.2.2 (by omega) rfl (by omega) (gd DX8_insert_0 43 rfl) ?_
        rw [hV_r1]
        refine g_aload_n C (gd DX8_insert_0 44 rfl) 0 rfl rfl ?_
        refine g_getr (ci := 8) (k := 6) C rfl (by decide) rfl lf_TestJudge_World_33 hw.V.1 hw.V.2.2.1.1 (gd DX8_insert_0 45 rfl) ?_
        refine g_iload_n C (gd DX8_insert_0 46 rfl) 1 rfl rfl ?_
        refine g_iload_n C (gd DX8_insert_0 47 rfl) 3 rfl rfl ?_
        refine g_isj (j := i) C hw.V.2.2.1.2.1 hw.V.2.2.1.2.2 (by first | decide | omega) rfl (by omega) (gd DX8_insert_0 48 rfl) ?_
        rw [hV_i2]
        refine g_aload_n C (gd DX8_insert_0 49 rfl) 0 rfl rfl ?_
        refine g_dup C (gd DX8_insert_0 50 rfl) rfl ?_
        refine g_geti (ci := 8) (k := 2) C rfl (by decide) rfl lf_TestJudge_World_18 hw.V.1 (gd DX8_insert_0 51 rfl) ?_
        rw [hV_0, h2]
        refine g_iconst (v := 1) C (gd DX8_insert_0 52 rfl) (by decide) ?_
        refine g_iadd C (gd DX8_insert_0 53 rfl) ?_
        rw [show nI np + 1 = nI (np + 1) from nx_add (b := 1) rfl rfl]
        refine g_puti (ci := 8) (k := 2) C rfl (by decide) rfl lf_TestJudge_World_18 hw.V.1 (Or.inl rfl) rfl (gd DX8_insert_0 54 rfl) ?_
        rw [hV_i0]
        exact g_vret C (by omega) (by omega) ⟨rfl, rfl⟩ (gd DX8_insert_0 55 rfl)
      · exact absurd (nI_le (Nat.le_refl _) (by omega)) c31
    | succ y ih =>
      intro i hi hn
      obtain ⟨b, hb, kb⟩ := hP (i - 1) (by omega)
      have e1 : mvU P i np (i - 1) = some b := (if_neg (by omega)).trans hb
      refine g_iload C (gd DX8_insert_0 14 rfl) 4 rfl ?_
      refine g_iload_n C (gd DX8_insert_0 15 rfl) 1 rfl rfl ?_
      refine g_icmp_le C 72 (gd DX8_insert_0 16 rfl) (by decide) (fun c31 => ?_) (fun c31 => ?_)
      · exact absurd ((nI_leI (by omega) (by omega)).mp c31) (by omega)
      · refine g_aload_n C (gd DX8_insert_0 17 rfl) 0 rfl rfl ?_
        refine g_getr (ci := 8) (k := 5) C rfl (by decide) rfl lf_TestJudge_World_29 hw.V.1 hw.V.2.1.1 (gd DX8_insert_0 18 rfl) ?_
        refine g_iload C (gd DX8_insert_0 19 rfl) 4 rfl ?_
        refine g_aload_n C (gd DX8_insert_0 20 rfl) 0 rfl rfl ?_
        refine g_getr (ci := 8) (k := 5) C rfl (by decide) rfl lf_TestJudge_World_29 hw.V.1 hw.V.2.1.1 (gd DX8_insert_0 21 rfl) ?_
        refine g_iload C (gd DX8_insert_0 22 rfl) 4 rfl ?_
        refine g_iconst (v := 1) C (gd DX8_insert_0 23 rfl) (by decide) ?_
        refine g_isub C (gd DX8_insert_0 24 rfl) ?_
        refine g_aaj (j := i - 1) C hw.V.2.1.2.1 hw.V.2.1.2.2 (by omega) (nx_sub (b := 1) rfl rfl (by omega)) (by omega) (gd DX8_insert_0 25 rfl) ?_
        rw [hV_1, e1]
        show GW z w 5 _ 0 0 _ _ (.ref b :: _) _
        refine g_asj (j := i) C hw.V.2.1.2.1 kb hw.V.2.1.2.2 (by first | decide | omega) rfl (by omega) (gd DX8_insert_0 26 rfl) ?_
        rw [hV_r1]
        refine g_aload_n C (gd DX8_insert_0 27 rfl) 0 rfl rfl ?_
        refine g_getr (ci := 8) (k := 6) C rfl (by decide) rfl lf_TestJudge_World_33 hw.V.1 hw.V.2.2.1.1 (gd DX8_insert_0 28 rfl) ?_
        refine g_iload C (gd DX8_insert_0 29 rfl) 4 rfl ?_
        refine g_aload_n C (gd DX8_insert_0 30 rfl) 0 rfl rfl ?_
        refine g_getr (ci := 8) (k := 6) C rfl (by decide) rfl lf_TestJudge_World_33 hw.V.1 hw.V.2.2.1.1 (gd DX8_insert_0 31 rfl) ?_
        refine g_iload C (gd DX8_insert_0 32 rfl) 4 rfl ?_
        refine g_iconst (v := 1) C (gd DX8_insert_0 33 rfl) (by decide) ?_
        refine g_isub C (gd DX8_insert_0 34 rfl) ?_
        refine g_iaj (j := i - 1) C hw.V.2.2.1.2.1 hw.V.2.2.1.2.2 (by omega) (nx_sub (b := 1) rfl rfl (by omega)) (by omega) (gd DX8_insert_0 35 rfl) ?_
        rw [hV_2]
        refine g_isj (j := i) C hw.V.2.2.1.2.1 hw.V.2.2.1.2.2 (by first | decide | omega) rfl (by omega) (gd DX8_insert_0 36 rfl) ?_
        rw [hV_i2]
        refine g_iinc (lv' := [(0, _), (1, _), (2, _), (3, _), (4, _)]) C (gd DX8_insert_0 37 rfl) 4 [1, 2, 3, 4, 0] rfl rfl (by decide) rfl ?_
        refine g_goto (tgt := 28) C (gd DX8_insert_0 38 rfl) (by decide) ?_
        obtain ⟨i, rfl⟩ : ∃ i', i = i' + 1 := ⟨i - 1, by omega⟩
        refine GW.cast (by rw [dec1]) rfl ?_ (ih i (by omega) (by omega))
        rw [← e1, Nat.add_sub_cancel, mvU_s L (by omega), mvU_sO P (by omega)]
  refine g_iload_n C (gd DX8_insert_0 0 rfl) 1 rfl rfl ?_
  refine g_if_lt C 21 (gd DX8_insert_0 1 rfl) (by decide) (fun c1 => ?_) (fun c1 => ?_)
  · exact absurd c1 (nI_nn (by omega))
  · refine g_iload_n C (gd DX8_insert_0 2 rfl) 1 rfl rfl ?_
    refine g_aload_n C (gd DX8_insert_0 3 rfl) 0 rfl rfl ?_
    refine g_geti (ci := 8) (k := 2) C rfl (by decide) rfl lf_TestJudge_World_18 hw.V.1 (gd DX8_insert_0 4 rfl) ?_
    rw [hV_0, h2]
    refine g_icmp_gt C 21 (gd DX8_insert_0 5 rfl) (by decide) (fun c9 => ?_) (fun c9 => ?_)
    · exact absurd (Int32.not_lt.mpr (nI_le hp (by omega))) (fun q => q c9)
    · refine g_aload_n C (gd DX8_insert_0 6 rfl) 0 rfl rfl ?_
      refine g_geti (ci := 8) (k := 2) C rfl (by decide) rfl lf_TestJudge_World_18 hw.V.1 (gd DX8_insert_0 7 rfl) ?_
      rw [hV_0, h2]
      refine g_bipush (v := 8) C (gd DX8_insert_0 8 rfl) (by decide) ?_
      refine g_icmp_lt C 22 (gd DX8_insert_0 9 rfl) (by decide) (fun c18 => ?_) (fun c18 => ?_)
      · refine g_aload_n C (gd DX8_insert_0 11 rfl) 0 rfl rfl ?_
        refine g_geti (ci := 8) (k := 2) C rfl (by decide) rfl lf_TestJudge_World_18 hw.V.1 (gd DX8_insert_0 12 rfl) ?_
        rw [hV_0, h2]
        refine g_istore (lv' := [(0, _), (1, _), (2, _), (3, _), (4, _)]) C (gd DX8_insert_0 13 rfl) [1, 2, 3, 4, 0] (by decide) rfl ?_
        refine GW.cast rfl rfl ?_ (loop (np - p) np (by omega) (Nat.le_refl _))
        rw [mvU_n, mvU_n]
      · exact absurd (Int32.not_le.mp (fun q => by have := (nI_leI (a := 8) (b := np) (by omega) (by omega)).mp q; omega)) c18
theorem e_w_remove (hw : wSh W h) {np p : Nat} {F L : Nat → Int32} {P : Nat → Option Nat} (h2 : F 2 = nI np) (hnp : np ≤ 8) (hp : p < np) (hP : ∀ j, j < np → ∃ b, P j = some b ∧ hK h b = 3) : EvF w 0 0 0 yX8_remove cX8_remove 3 none [.ref W, .int (nI p)] (hV W h F L P) none (hV W h (upd F 2 (nI (np - 1))) (mvD L p (np - 1)) (updO (mvD P p (np - 1)) (np - 1) none)) := by
  refine g_start (by decide) (Nat.le_of_ble_eq_true rfl) [(0, _), (1, _)] rfl (fun z hfl C => ?_)
  have loop : ∀ y i, i + y + 1 = np → p ≤ i → GW z w 3 (gQ z w 0 0 (fun r' h'' => r' = none ∧ h'' = hV W h (upd F 2 (nI (np - 1))) (mvD L p (np - 1)) (updO (mvD P p (np - 1)) (np - 1) none))) 0 0 15 [(0, .ref W), (1, .int (nI p)), (2, .int (nI i))] [] (hV W h F (mvD L p i) (mvD P p i)) := by
    intro y
    induction y with
    | zero =>
      intro i hi hn
      have ei : i = np - 1 := by omega
      subst ei
      refine g_iload_n C (gd DX8_remove_0 9 rfl) 2 rfl rfl ?_
      refine g_iconst (v := 1) C (gd DX8_remove_0 10 rfl) (by decide) ?_
      refine g_iadd C (gd DX8_remove_0 11 rfl) ?_
      refine g_aload_n C (gd DX8_remove_0 12 rfl) 0 rfl rfl ?_
      refine g_geti (ci := 8) (k := 2) C rfl (by decide) rfl lf_TestJudge_World_18 hw.V.1 (gd DX8_remove_0 13 rfl) ?_
      rw [hV_0, h2, show nI (np - 1) + 1 = nI (np - 1 + 1) from nx_add (b := 1) rfl rfl]
      refine g_icmp_ge C 59 (gd DX8_remove_0 14 rfl) (by decide) (fun c22 => ?_) (fun c22 => ?_)
      · refine GW.sub [0, 1, 2] rfl (Nat.le_refl _) (Nat.le_refl _) (lv' := [(0, _), (1, _), (2, _)]) ?_
        refine g_aload_n C (gd DX8_remove_0 37 rfl) 0 rfl rfl ?_
        refine g_dup C (gd DX8_remove_0 38 rfl) rfl ?_
        refine g_geti (ci := 8) (k := 2) C rfl (by decide) rfl lf_TestJudge_World_18 hw.V.1 (gd DX8_remove_0 39 rfl) ?_
        rw [hV_0, h2]
        refine g_iconst (v := 1) C (gd DX8_remove_0 40 rfl) (by decide) ?_
        refine g_isub C (gd DX8_remove_0 41 rfl) ?_
        rw [show nI np - 1 = nI (np - 1) from nx_sub (b := 1) rfl rfl (by omega)]
        refine g_puti (ci := 8) (k := 2) C rfl (by decide) rfl lf_TestJudge_World_18 hw.V.1 (Or.inl rfl) rfl (gd DX8_remove_0 42 rfl) ?_
        rw [hV_i0]
        refine g_aload_n C (gd DX8_remove_0 43 rfl) 0 rfl rfl ?_
        refine g_getr (ci := 8) (k := 5) C rfl (by decide) rfl lf_TestJudge_World_29 hw.V.1 hw.V.2.1.1 (gd DX8_remove_0 44 rfl) ?_
        refine g_aload_n C (gd DX8_remove_0 45 rfl) 0 rfl rfl ?_
        refine g_geti (ci := 8) (k := 2) C rfl (by decide) rfl lf_TestJudge_World_18 hw.V.1 (gd DX8_remove_0 46 rfl) ?_
        rw [hV_0, upd, if_pos rfl]
        refine g_null C (gd DX8_remove_0 47 rfl) ?_
        refine g_anj (j := (np - 1)) C hw.V.2.1.2.1 hw.V.2.1.2.2 (by first | decide | omega) rfl (by omega) (gd DX8_remove_0 48 rfl) ?_
        rw [hV_r1]
        exact g_vret C (by omega) (by omega) ⟨rfl, rfl⟩ (gd DX8_remove_0 49 rfl)
      · exact absurd (nI_le (by omega) (by omega)) c22
    | succ y ih =>
      intro i hi hn
      obtain ⟨b, hb, kb⟩ := hP (i + 1) (by omega)
      have e1 : mvD P p i (i + 1) = some b := (if_neg (by omega)).trans hb
      refine g_iload_n C (gd DX8_remove_0 9 rfl) 2 rfl rfl ?_
      refine g_iconst (v := 1) C (gd DX8_remove_0 10 rfl) (by decide) ?_
      refine g_iadd C (gd DX8_remove_0 11 rfl) ?_
      refine g_aload_n C (gd DX8_remove_0 12 rfl) 0 rfl rfl ?_
      refine g_geti (ci := 8) (k := 2) C rfl (by decide) rfl lf_TestJudge_World_18 hw.V.1 (gd DX8_remove_0 13 rfl) ?_
      rw [hV_0, h2, show nI i + 1 = nI (i + 1) from nx_add (b := 1) rfl rfl]
      refine g_icmp_ge C 59 (gd DX8_remove_0 14 rfl) (by decide) (fun c22 => ?_) (fun c22 => ?_)
      · exact absurd c22 (nI_ge (by omega) (by omega))
      · refine g_aload_n C (gd DX8_remove_0 15 rfl) 0 rfl rfl ?_
        refine g_getr (ci := 8) (k := 5) C rfl (by decide) rfl lf_TestJudge_World_29 hw.V.1 hw.V.2.1.1 (gd DX8_remove_0 16 rfl) ?_
        refine g_iload_n C (gd DX8_remove_0 17 rfl) 2 rfl rfl ?_
        refine g_aload_n C (gd DX8_remove_0 18 rfl) 0 rfl rfl ?_
        refine g_getr (ci := 8) (k := 5) C rfl (by decide) rfl lf_TestJudge_World_29 hw.V.1 hw.V.2.1.1 (gd DX8_remove_0 19 rfl) ?_
        refine g_iload_n C (gd DX8_remove_0 20 rfl) 2 rfl rfl ?_
        refine g_iconst (v := 1) C (gd DX8_remove_0 21 rfl) (by decide) ?_
        refine g_iadd C (gd DX8_remove_0 22 rfl) ?_
        refine g_aaj (j := i + 1) C hw.V.2.1.2.1 hw.V.2.1.2.2 (by omega) (nx_add (b := 1) rfl rfl) (by omega) (gd DX8_remove_0 23 rfl) ?_
        rw [hV_1, e1]
        show GW z w 3 _ 0 0 _ _ (.ref b :: _) _
        refine g_asj (j := i) C hw.V.2.1.2.1 kb hw.V.2.1.2.2 (by first | decide | omega) rfl (by omega) (gd DX8_remove_0 24 rfl) ?_
        rw [hV_r1]
        refine g_aload_n C (gd DX8_remove_0 25 rfl) 0 rfl rfl ?_
        refine g_getr (ci := 8) (k := 6) C rfl (by decide) rfl lf_TestJudge_World_33 hw.V.1 hw.V.2.2.1.1 (gd DX8_remove_0 26 rfl) ?_
        refine g_iload_n C (gd DX8_remove_0 27 rfl) 2 rfl rfl ?_
        refine g_aload_n C (gd DX8_remove_0 28 rfl) 0 rfl rfl ?_
        refine g_getr (ci := 8) (k := 6) C rfl (by decide) rfl lf_TestJudge_World_33 hw.V.1 hw.V.2.2.1.1 (gd DX8_remove_0 29 rfl) ?_
        refine g_iload_n C (gd DX8_remove_0 30 rfl) 2 rfl rfl ?_
        refine g_iconst (v := 1) C (gd DX8_remove_0 31 rfl) (by decide) ?_
        refine g_iadd C (gd DX8_remove_0 32 rfl) ?_
        refine g_iaj (j := i + 1) C hw.V.2.2.1.2.1 hw.V.2.2.1.2.2 (by omega) (nx_add (b := 1) rfl rfl) (by omega) (gd DX8_remove_0 33 rfl) ?_
        rw [hV_2]
        refine g_isj (j := i) C hw.V.2.2.1.2.1 hw.V.2.2.1.2.2 (by first | decide | omega) rfl (by omega) (gd DX8_remove_0 34 rfl) ?_
        rw [hV_i2]
        refine g_iinc (lv' := [(0, _), (1, _), (2, _)]) C (gd DX8_remove_0 35 rfl) 2 [1, 2, 0] rfl rfl (by decide) rfl ?_
        refine g_goto (tgt := 15) C (gd DX8_remove_0 36 rfl) (by decide) ?_
        refine GW.cast (by rw [inc1]) rfl ?_ (ih (i + 1) (by omega) (by omega))
        rw [← e1, mvD_s L hn, mvD_sO P hn]
  refine g_iload_n C (gd DX8_remove_0 0 rfl) 1 rfl rfl ?_
  refine g_if_lt C 12 (gd DX8_remove_0 1 rfl) (by decide) (fun c1 => ?_) (fun c1 => ?_)
  · exact absurd c1 (nI_nn (by omega))
  · refine g_iload_n C (gd DX8_remove_0 2 rfl) 1 rfl rfl ?_
    refine g_aload_n C (gd DX8_remove_0 3 rfl) 0 rfl rfl ?_
    refine g_geti (ci := 8) (k := 2) C rfl (by decide) rfl lf_TestJudge_World_18 hw.V.1 (gd DX8_remove_0 4 rfl) ?_
    rw [hV_0, h2]
    refine g_icmp_lt C 13 (gd DX8_remove_0 5 rfl) (by decide) (fun c9 => ?_) (fun c9 => ?_)
    · refine g_iload_n C (gd DX8_remove_0 7 rfl) 1 rfl rfl ?_
      refine g_istore_n (lv' := [(0, _), (1, _), (2, _)]) C (gd DX8_remove_0 8 rfl) [1, 2, 0] rfl (by decide) rfl ?_
      refine GW.cast rfl rfl ?_ (loop (np - p - 1) p (by omega) (Nat.le_refl _))
      rw [mvD_0, mvD_0]
    · exact absurd (Int32.not_le.mp (fun q => by have := (nI_leI (a := np) (b := p) (by omega) (by omega)).mp q; omega)) c9
theorem e_w_factWeight (hw : wSh W h) {nf : Nat} (hnf : nf ≤ 2) (h3 : hI h W 3 = nI nf) {fw : Nat → Nat} (hF : ∀ f, f < nf → ∃ a, hR h (W + 3) f = some a ∧ hK h a = 3 ∧ hI h a 0 = nI (fw f)) : EvF w 1 0 0 yX8_factWeight cX8_factWeight 3 (some .int) [.ref W] h (some (.int (nI (fsum fw nf)))) h := by
  refine g_start (by decide) (Nat.le_of_ble_eq_true rfl) [(0, _)] rfl (fun z hfl C => ?_)
  have loop : ∀ y i, i + y = nf → GW z w 3 (gQ z w 0 0 (fun r' h'' => r' = some (.int (nI (fsum fw nf))) ∧ h'' = h)) 0 0 4 [(0, .ref W), (1, .int (nI (fsum fw i))), (2, .int (nI i))] [] h := by
    intro y
    induction y with
    | zero =>
      intro i hi
      have ei : i = nf := by omega
      subst ei
      refine g_iload_n C (gd DX8_factWeight_0 4 rfl) 2 rfl rfl ?_
      refine g_aload_n C (gd DX8_factWeight_0 5 rfl) 0 rfl rfl ?_
      refine g_geti (ci := 8) (k := 3) C rfl (by decide) rfl lf_TestJudge_World_21 hw.1 (gd DX8_factWeight_0 6 rfl) ?_
      rw [h3]
      refine g_icmp_ge C 29 (gd DX8_factWeight_0 7 rfl) (by decide) (fun c9 => ?_) (fun c9 => ?_)
      · refine g_iload_n C (gd DX8_factWeight_0 17 rfl) 1 rfl rfl ?_
        exact g_iret C (by omega) (by omega) ⟨rfl, rfl⟩ (gd DX8_factWeight_0 18 rfl)
      · exact absurd (nI_le (Nat.le_refl _) (by omega)) c9
    | succ y ih =>
      intro i hi
      obtain ⟨a, ha, ka, wa⟩ := hF i (by omega)
      refine g_iload_n C (gd DX8_factWeight_0 4 rfl) 2 rfl rfl ?_
      refine g_aload_n C (gd DX8_factWeight_0 5 rfl) 0 rfl rfl ?_
      refine g_geti (ci := 8) (k := 3) C rfl (by decide) rfl lf_TestJudge_World_21 hw.1 (gd DX8_factWeight_0 6 rfl) ?_
      rw [h3]
      refine g_icmp_ge C 29 (gd DX8_factWeight_0 7 rfl) (by decide) (fun c9 => ?_) (fun c9 => ?_)
      · exact absurd c9 (nI_ge (by omega) (by omega))
      · refine g_iload_n C (gd DX8_factWeight_0 8 rfl) 1 rfl rfl ?_
        refine g_aload_n C (gd DX8_factWeight_0 9 rfl) 0 rfl rfl ?_
        refine g_iload_n C (gd DX8_factWeight_0 10 rfl) 2 rfl rfl ?_
        refine g_cV1 (ci := 8) C [_] mX8_factPiece lm_TestJudge_World_50 (by exact hw.1) rfl rfl (e_w_factPiece hw (f := i) hnf h3 (by omega) ha) hfl (by decide) (by decide) (by omega) (by omega) rfl rfl (Nat.le_of_ble_eq_true rfl) (gd DX8_factWeight_0 11 rfl) ?_
        refine g_geti (ci := 2) (k := 0) C rfl (by decide) rfl lf_TestJudge_World_54 ka (gd DX8_factWeight_0 12 rfl) ?_
        rw [wa]
        refine g_iadd C (gd DX8_factWeight_0 13 rfl) ?_
        rw [show nI (fsum fw i) + nI (fw i) = nI (fsum fw (i + 1)) from nx_add rfl rfl]
        refine g_istore_n (lv' := [(0, _), (1, _), (2, _)]) C (gd DX8_factWeight_0 14 rfl) [1, 0, 2] rfl (by decide) rfl ?_
        refine g_iinc (lv' := [(0, _), (1, _), (2, _)]) C (gd DX8_factWeight_0 15 rfl) 2 [1, 2, 0] rfl rfl (by decide) rfl ?_
        refine g_goto (tgt := 4) C (gd DX8_factWeight_0 16 rfl) (by decide) ?_
        exact GW.cast (by rw [inc1]) rfl rfl (ih (i + 1) (by omega))
  refine g_iconst (v := 0) C (gd DX8_factWeight_0 0 rfl) (by decide) ?_
  refine g_istore_n (lv' := [(0, _), (1, _)]) C (gd DX8_factWeight_0 1 rfl) [1, 0] rfl (by decide) rfl ?_
  refine g_iconst (v := 0) C (gd DX8_factWeight_0 2 rfl) (by decide) ?_
  refine g_istore_n (lv' := [(0, _), (1, _), (2, _)]) C (gd DX8_factWeight_0 3 rfl) [1, 2, 0] rfl (by decide) rfl ?_
  exact loop nf 0 (by omega)
theorem e_w_tellFact (hw : wSh W h) {nf a : Nat} (hnf : nf < 2) (h3 : hI h W 3 = nI nf) (ka : hK h a = 3) : EvF w 0 0 0 yX8_tellFact cX8_tellFact 2 none [.ref W, .ref a] h none (sI (sR h (W + 3) nf (some a)) W 3 (nI (nf + 1))) := by
  refine g_start (by decide) (Nat.le_of_ble_eq_true rfl) [(0, _), (1, _)] rfl (fun z hfl C => ?_)
  refine g_aload_n C (gd DX8_tellFact_0 0 rfl) 0 rfl rfl ?_
  refine g_geti (ci := 8) (k := 3) C rfl (by decide) rfl lf_TestJudge_World_21 hw.1 (gd DX8_tellFact_0 1 rfl) ?_
  refine g_iconst (v := 2) C (gd DX8_tellFact_0 2 rfl) (by decide) ?_
  rw [h3]
  refine g_icmp_ge C 28 (gd DX8_tellFact_0 3 rfl) (by decide) (fun c5 => ?_) (fun c5 => ?_)
  · exact absurd c5 (nI_ge (a := nf) (b := 2) (by omega) (by omega))
  · refine g_aload_n C (gd DX8_tellFact_0 4 rfl) 0 rfl rfl ?_
    refine g_getr (ci := 8) (k := 7) C rfl (by decide) rfl lf_TestJudge_World_37 hw.1 hw.2.2.2.1.1 (gd DX8_tellFact_0 5 rfl) ?_
    refine g_aload_n C (gd DX8_tellFact_0 6 rfl) 0 rfl rfl ?_
    refine g_geti (ci := 8) (k := 3) C rfl (by decide) rfl lf_TestJudge_World_21 hw.1 (gd DX8_tellFact_0 7 rfl) ?_
    rw [h3]
    refine g_aload_n C (gd DX8_tellFact_0 8 rfl) 1 rfl rfl ?_
    refine g_asj (j := nf) C hw.2.2.2.1.2.1 ka hw.2.2.2.1.2.2 (by first | decide | omega) rfl (by omega) (gd DX8_tellFact_0 9 rfl) ?_
    refine g_aload_n C (gd DX8_tellFact_0 10 rfl) 0 rfl rfl ?_
    refine g_dup C (gd DX8_tellFact_0 11 rfl) rfl ?_
    refine g_geti (ci := 8) (k := 3) C rfl (by decide) rfl lf_TestJudge_World_21 hw.1 (gd DX8_tellFact_0 12 rfl) ?_
    rw [hI_sR, h3]
    refine g_iconst (v := 1) C (gd DX8_tellFact_0 13 rfl) (by decide) ?_
    refine g_iadd C (gd DX8_tellFact_0 14 rfl) ?_
    rw [show nI nf + 1 = nI (nf + 1) from nx_add (b := 1) rfl rfl]
    refine g_puti (ci := 8) (k := 3) C rfl (by decide) rfl lf_TestJudge_World_21 hw.1 (Or.inl rfl) rfl (gd DX8_tellFact_0 15 rfl) ?_
    exact g_vret C (by omega) (by omega) ⟨rfl, rfl⟩ (gd DX8_tellFact_0 16 rfl)
end C32
