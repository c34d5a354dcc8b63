/-! reaches and behind: the ends that can be reached -/
/-- the picture while states are met -/
def hB2 (m : Nat) (h : HS) (MT LN : Nat → Int32) : HS := sF (sF h (m + 25) MT) (m + 19) LN
theorem hB2_ne {m b : Nat} {h : HS} {MT LN : Nat → Int32} (h1 : b ≠ m + 25) (h2 : b ≠ m + 19) : hI (hB2 m h MT LN) b = hI h b := by
  unfold hB2
  rw [hI_sF_ne h2, hI_sF_ne h1]
theorem hB2_25 {m : Nat} {h : HS} {MT LN : Nat → Int32} : hI (hB2 m h MT LN) (m + 25) = MT := by
  unfold hB2
  rw [hI_sF_ne (by omega), hI_sF_eq]
theorem hB2_19 {m : Nat} {h : HS} {MT LN : Nat → Int32} : hI (hB2 m h MT LN) (m + 19) = LN := hI_sF_eq _ _ _
theorem hB2_i25 (m : Nat) (h : HS) (MT LN : Nat → Int32) (k : Nat) (v : Int32) : sI (hB2 m h MT LN) (m + 25) k v = hB2 m h (upd MT k v) LN := by
  unfold hB2
  rw [sI_sF_other (by omega), sI_sF_same]
theorem hB2_i19 (m : Nat) (h : HS) (MT LN : Nat → Int32) (k : Nat) (v : Int32) : sI (hB2 m h MT LN) (m + 19) k v = hB2 m h MT (upd LN k v) := sI_sF_same _ _ _ _ _
theorem hB2_self (m : Nat) (h : HS) : hB2 m h (hI h (m + 25)) (hI h (m + 19)) = h := by
  unfold hB2
  rw [sF_self, sF_self]
/-- reached by d letters and one, the first at an atom of s -/
def bRc (go : Nat → Int32) (s : Int32) : Nat → Nat → Prop
  | 0, t => ∃ k, k < 24 ∧ hasB s (nI (k / 3)) ∧ go k = nI t
  | d + 1, t => bRc go s d t ∨ ∃ u k, k < 24 ∧ u < 16400 ∧ bRc go s d u ∧ go (24 * u + k) = nI t
/-- the states met so far stand in the line -/
def bI (go : Nat → Int32) (s : Int32) (N : Nat) (MT LN : Nat → Int32) (L : List Nat) : Prop := (∀ t, t < N → (MT t = 1 ∧ t ∈ L) ∨ (MT t = 0 ∧ ¬ t ∈ L)) ∧ (∀ (i x : Nat), L[i]? = some x → x < N ∧ LN i = nI x) ∧ (∀ (i j x : Nat), L[i]? = some x → L[j]? = some x → i = j) ∧ (∀ x, x ∈ L → ∃ d, bRc go s d x)
theorem bI.len {go : Nat → Int32} {s : Int32} {N : Nat} {MT LN : Nat → Int32} {L : List Nat} (r : bI go s N MT LN L) : L.length ≤ N := by
  refine pigeon (fun i => (L[i]?).getD 0) L.length N (fun i hi => ?_) (fun i j hi hj e => ?_)
  · show (L[i]?).getD 0 < N
    rw [List.getElem?_eq_getElem hi]
    exact (r.2.1 i L[i] (List.getElem?_eq_getElem hi)).1
  · have e' : (L[i]?).getD 0 = (L[j]?).getD 0 := e
    rw [List.getElem?_eq_getElem hi, List.getElem?_eq_getElem hj] at e'
    have e2 : L[i] = L[j] := e'
    exact r.2.2.1 i j L[i] (List.getElem?_eq_getElem hi) (by rw [e2]; exact List.getElem?_eq_getElem hj)
theorem bI.new {go : Nat → Int32} {s : Int32} {N : Nat} {MT LN : Nat → Int32} {L : List Nat} (r : bI go s N MT LN L) {t : Nat} (ht : t < N) (hn : ¬ t ∈ L) (hd : ∃ d, bRc go s d t) : bI go s N (upd MT t 1) (upd LN L.length (nI t)) (L ++ [t]) := by
  obtain ⟨r1, r2, r3, r4⟩ := r
  have old : ∀ (i q : Nat), (L ++ [t])[i]? = some q → (i < L.length ∧ L[i]? = some q) ∨ (i = L.length ∧ q = t) := by
    intro i q h
    by_cases hi : i < L.length
    · rw [List.getElem?_append_left hi] at h; exact Or.inl ⟨hi, h⟩
    · rw [List.getElem?_append_right (by omega)] at h
      have := (List.getElem?_eq_some_iff.mp h).1
      simp at this
      have e : i = L.length := by omega
      subst e
      simp at h
      exact Or.inr ⟨rfl, h.symm⟩
  refine ⟨fun u hu => ?_, fun i x hx => ?_, fun i j x hx hy => ?_, fun x hx => ?_⟩
  · by_cases e : u = t
    · subst e
      exact Or.inl ⟨by rw [upd, if_pos rfl], List.mem_append.mpr (Or.inr (List.mem_singleton.mpr rfl))⟩
    · rw [upd, if_neg e]
      rcases r1 u hu with ⟨a, b⟩ | ⟨a, b⟩
      · exact Or.inl ⟨a, List.mem_append.mpr (Or.inl b)⟩
      · refine Or.inr ⟨a, fun q => ?_⟩
        rcases List.mem_append.mp q with q | q
        · exact b q
        · exact e (List.mem_singleton.mp q)
  · rcases old i x hx with ⟨hi, h⟩ | ⟨hi, h⟩
    · rw [upd, if_neg (by omega)]
      exact r2 i x h
    · subst hi; subst h
      exact ⟨ht, by rw [upd, if_pos rfl]⟩
  · rcases old i x hx with ⟨hi, h⟩ | ⟨hi, h⟩ <;> rcases old j x hy with ⟨hj, h'⟩ | ⟨hj, h'⟩
    · exact r3 i j x h h'
    · subst h'; exact absurd (List.mem_of_getElem? h) hn
    · subst h; exact absurd (List.mem_of_getElem? h') hn
    · omega
  · rcases List.mem_append.mp hx with q | q
    · exact r4 x q
    · rw [List.mem_singleton.mp q]; exact hd
section M23
variable {w : gD} {m : Nat} {h : HS}
theorem e_m_reaches (hm : mSh m h) {N s k : Nat} (g : GOk m h N) (hs : s < N) (hk : k < 24) {s0 : Int32} {MT LN : Nat → Int32} {L : List Nat} (hI0 : bI (hI h (m + 7)) s0 N MT LN L) (hd : ∀ t, hI h (m + 7) (24 * s + k) = nI t → t < N → ∃ d, bRc (hI h (m + 7)) s0 d t) :
    Ev w 0 0 0 yX10_reaches cX10_reaches 5 (some .int) [.ref m, .int (nI s), .int (nI k), .int (nI L.length)] (hB2 m h MT LN) (fun r' h' => ∃ MT' LN' L', r' = some (.int (nI L'.length)) ∧ h' = hB2 m h MT' LN' ∧ bI (hI h (m + 7)) s0 N MT' LN' L' ∧ (L' = L ∨ ∃ x, L' = L ++ [x]) ∧ (∀ t, hI h (m + 7) (24 * s + k) = nI t → t < N → t ∈ L')) := by
  refine g_start (by decide) (Nat.le_of_ble_eq_true rfl) [(0, _), (1, _), (2, _), (3, _)] rfl (fun z hfl C => ?_)
  have hg1 := g.1
  have hlen := hI0.len
  refine g_aload_n C (gd DX10_reaches_0 0 rfl) 0 rfl rfl ?_
  refine g_getr (ci := 10) (k := 35) C rfl (by decide) rfl lf_TestJudgeModel_41 hm.1 (hm.2 35 7 12 396000 rfl).1 (gd DX10_reaches_0 1 rfl) ?_
  refine g_bipush (v := 24) C (gd DX10_reaches_0 2 rfl) (by decide) ?_
  refine g_iload_n C (gd DX10_reaches_0 3 rfl) 1 rfl rfl ?_
  refine g_imul C (gd DX10_reaches_0 4 rfl) ?_
  refine g_iload_n C (gd DX10_reaches_0 5 rfl) 2 rfl rfl ?_
  refine g_iadd C (gd DX10_reaches_0 6 rfl) ?_
  refine g_iaj (j := ((24 * s) + k)) C (hm.2 35 7 12 396000 rfl).2.1 (hm.2 35 7 12 396000 rfl).2.2 (by decide) (nx_add (nx_mul rfl rfl) rfl) (by omega) (gd DX10_reaches_0 7 rfl) ?_
  rw [hB2_ne (by omega) (by omega)]
  refine g_istore (lv' := [(0, _), (1, _), (2, _), (3, _), (4, _)]) C (gd DX10_reaches_0 8 rfl) [1, 2, 3, 4, 0] (by decide) rfl ?_
  refine g_iload C (gd DX10_reaches_0 9 rfl) 4 rfl ?_
  refine g_iconst (v := -1) C (gd DX10_reaches_0 10 rfl) (by decide) ?_
  refine g_icmp_eq C 29 (gd DX10_reaches_0 11 rfl) (by decide) (fun c16 => ?_) (fun c16 => ?_)
  · refine g_iload_n C (gd DX10_reaches_0 17 rfl) 3 rfl rfl ?_
    exact g_iret C (by omega) (by omega) ⟨MT, LN, L, rfl, rfl, hI0, Or.inl rfl, fun t e ht => absurd (e.symm.trans c16) (nI_m1 (by omega))⟩ (gd DX10_reaches_0 18 rfl)
  · rcases g.2.2 (24 * s + k) (by omega) with e | ⟨j, hj, e⟩
    · exact absurd e c16
    · have hj1 : ∀ t, hI h (m + 7) (24 * s + k) = nI t → t < N → t = j := fun t e' ht => (nI_eq (by omega) (by omega)).mp (e'.symm.trans e)
      refine GW.cast (by rw [e]) rfl rfl ?_
      refine g_aload_n C (gd DX10_reaches_0 12 rfl) 0 rfl rfl ?_
      refine g_getr (ci := 10) (k := 55) C rfl (by decide) rfl lf_TestJudgeModel_96 hm.1 (hm.2 55 25 15 16500 rfl).1 (gd DX10_reaches_0 13 rfl) ?_
      refine g_iload C (gd DX10_reaches_0 14 rfl) 4 rfl ?_
      refine g_zaj (j := j) C (hm.2 55 25 15 16500 rfl).2.1 (hm.2 55 25 15 16500 rfl).2.2 (by decide) rfl (by omega) (gd DX10_reaches_0 15 rfl) ?_
      rw [hB2_25]
      refine g_if_eq C 31 (gd DX10_reaches_0 16 rfl) (by decide) (fun c26 => ?_) (fun c26 => ?_)
      · have hn : ¬ j ∈ L := by
          rcases hI0.1 j hj with q | q
          · rw [c26] at q; exact absurd q.1 (by decide)
          · exact q.2
        refine g_aload_n C (gd DX10_reaches_0 19 rfl) 0 rfl rfl ?_
        refine g_getr (ci := 10) (k := 55) C rfl (by decide) rfl lf_TestJudgeModel_96 hm.1 (hm.2 55 25 15 16500 rfl).1 (gd DX10_reaches_0 20 rfl) ?_
        refine g_iload C (gd DX10_reaches_0 21 rfl) 4 rfl ?_
        refine g_iconst (v := 1) C (gd DX10_reaches_0 22 rfl) (by decide) ?_
        refine g_zsj (j := j) C (hm.2 55 25 15 16500 rfl).2.1 (hm.2 55 25 15 16500 rfl).2.2 (by decide) rfl (by omega) (gd DX10_reaches_0 23 rfl) ?_
        rw [nar_b (Or.inr rfl), hB2_i25]
        refine g_aload_n C (gd DX10_reaches_0 24 rfl) 0 rfl rfl ?_
        refine g_getr (ci := 10) (k := 48) C rfl (by decide) rfl lf_TestJudgeModel_78 hm.1 (hm.2 48 19 12 16500 rfl).1 (gd DX10_reaches_0 25 rfl) ?_
        refine g_iload_n C (gd DX10_reaches_0 26 rfl) 3 rfl rfl ?_
        refine g_iload C (gd DX10_reaches_0 27 rfl) 4 rfl ?_
        refine g_isj (j := L.length) C (hm.2 48 19 12 16500 rfl).2.1 (hm.2 48 19 12 16500 rfl).2.2 (by decide) rfl (by omega) (gd DX10_reaches_0 28 rfl) ?_
        rw [hB2_i19]
        refine g_iload_n C (gd DX10_reaches_0 29 rfl) 3 rfl rfl ?_
        refine g_iconst (v := 1) C (gd DX10_reaches_0 30 rfl) (by decide) ?_
        refine g_iadd C (gd DX10_reaches_0 31 rfl) ?_
        rw [nI_1]
        exact g_iret C (by omega) (by omega) ⟨_, _, L ++ [j], by rw [List.length_append]; rfl, rfl, hI0.new hj hn (hd j e hj), Or.inr ⟨j, rfl⟩, fun t e' ht => by rw [hj1 t e' ht]; exact List.mem_append.mpr (Or.inr (List.mem_singleton.mpr rfl))⟩ (gd DX10_reaches_0 32 rfl)
      · have hy : j ∈ L := by
          rcases hI0.1 j hj with q | q
          · exact q.2
          · exact absurd q.1 c26
        refine g_iload_n C (gd DX10_reaches_0 17 rfl) 3 rfl rfl ?_
        exact g_iret C (by omega) (by omega) ⟨MT, LN, L, rfl, rfl, hI0, Or.inl rfl, fun t e' ht => by rw [hj1 t e' ht]; exact hy⟩ (gd DX10_reaches_0 18 rfl)
end M23
