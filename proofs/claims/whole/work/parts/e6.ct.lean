/-! both and count: the reference's in the class's words -/
theorem goF_z {R : Nat → Int32} {a : Nat} (ha : a ≤ 32) {atom act : Int32} {beg : Prop} (hb : ¬ beg) : ∀ q, goF R a 0 atom act beg q = 0
  | 0 => rfl
  | q + 1 => by
    rw [goF_f (fun c => ?_), goF_z ha hb q]
    · rfl
    · rcases c.2 with y | ⟨p, y1, y2, y3⟩
      · exact hb y.1
      · exact hasB_0 (by omega) y2
theorem endF_z {R : Nat → Int32} : ∀ n, n ≤ 32 → endF R 0 0 n = 0
  | 0, _ => rfl
  | n + 1, h => by
    rw [endF, endF_z n (by omega), if_neg (show ¬ (0 : Int32) >>> (nI n &&& 31) &&& 1 = 1 from hasB_0 (by omega))]
    rfl
theorem nI_z {a : Nat} (ha : a < 64) (h : nI a = 0) : a = 0 := (nI_eq (b := 0) (by omega) (by omega)).mp h
theorem gW_o {sc sc' : Int64 → Nat → Option Int64} {c c' : Int64 → Int64} {key key' : Int64} (h : ∀ t, t < 24 → (match sc key t with | none => (0 : Int64) | some k' => c k') = (match sc' key' t with | none => (0 : Int64) | some k' => c' k')) : gW sc c key = gW sc' c' key' := smL_cg 24 h
theorem and_z1 (x : Int32) : (0 : Int32) &&& x = 0 := Int32.zero_and
theorem cE_z {P : kP} {key : Int64} (h : kE1 P key = 0 ∨ kE2 P key = 0) : cE P key = 0 := by
  have e : kE1 P key &&& kE2 P key = 0 := by
    rcases h with h | h
    · rw [h]; exact Int32.zero_and
    · rw [h]; exact Int32.and_zero
  unfold cE
  rw [e]
  decide
/-- behind a key of which one side has no places nothing is shared -/
theorem gWn_dead {P : kP} (hs : kSm P) : ∀ n a b f, a < 2 ^ P.2.2.2.2.2.1 → b < 2 ^ P.2.2.2.2.2.2.1 → f < 2 ^ P.2.2.2.2.2.2.2 → (a = 0 ∨ b = 0) → gWn (kSc P) (cE P) n (kKey a b f) = 0 := by
  intro n
  induction n with
  | zero =>
    intro a b f ha hb hf hz
    obtain ⟨a6, b6, f4⟩ := kK_n hs ha hb hf
    obtain ⟨h1, h2, h3, h4⟩ := kParts a6 b6 f4
    have s1 := hs.1
    have s2 := hs.2.1
    refine cE_z ?_
    rcases hz with rfl | rfl
    · left
      unfold kE1
      rw [h1, h4, if_pos rfl, show nI 0 = (0 : Int32) from rfl, endF_z _ (by omega)]
      exact Int32.zero_and
    · right
      unfold kE2
      rw [h2, h4, if_pos rfl, show nI 0 = (0 : Int32) from rfl, endF_z _ (by omega)]
      exact Int32.zero_and
  | succ n ih =>
    intro a b f ha hb hf hz
    obtain ⟨a6, b6, f4⟩ := kK_n hs ha hb hf
    obtain ⟨h1, h2, h3, h4⟩ := kParts a6 b6 f4
    have s1 := hs.1
    have s2 := hs.2.1
    show gW (kSc P) (gWn (kSc P) (cE P) n) (kKey a b f) = 0
    unfold gW
    rw [smL_cg (g := fun _ => 0) 24 (fun t ht => ?_), smL_0]
    cases e : kSc P (kKey a b f) t with
    | none => rfl
    | some k' =>
      obtain ⟨a', b', f', ha', hb', hf', eA, eB, eF, rfl⟩ := kSc_W hs e
      obtain ⟨a6', b6', f4'⟩ := kK_n hs ha' hb' hf'
      refine ih a' b' f' ha' hb' hf' ?_
      have nb : ¬ ¬ (0 : Int32) = 0 := fun q => q rfl
      rcases hz with rfl | rfl
      · left
        refine nI_z a6' (eA.symm.trans ?_)
        unfold kA
        rw [h1, h4]
        exact goF_z (by omega) nb _
      · right
        refine nI_z b6' (eB.symm.trans ?_)
        unfold kB
        rw [h2, h4]
        exact goF_z (by omega) nb _
theorem gWn_sh {P : kP} (hs : kSm P) : ∀ n key, gWn (kSg P 1) (cE P) n key = gWn (kSc P) (cE P) n key := by
  intro n
  induction n with
  | zero => intro key; rfl
  | succ n ih =>
    intro key
    show gW (kSg P 1) (gWn (kSg P 1) (cE P) n) key = gW (kSc P) (gWn (kSc P) (cE P) n) key
    refine gW_o (fun t ht => ?_)
    have e0 : kSg P 1 key t = if kA P key t = 0 ∨ kB P key t = 0 then none else kSc P key t := by
      unfold kSg kSs
      rw [if_neg (by decide)]
    rw [e0]
    by_cases c : kA P key t = 0 ∨ kB P key t = 0
    · rw [if_pos c]
      cases e : kSc P key t with
      | none => rfl
      | some k' =>
        obtain ⟨a', b', f', ha', hb', hf', eA, eB, eF, rfl⟩ := kSc_W hs e
        obtain ⟨a6', b6', f4'⟩ := kK_n hs ha' hb' hf'
        refine (gWn_dead hs n a' b' f' ha' hb' hf' ?_).symm
        rcases c with c | c
        · exact Or.inl (nI_z a6' (eA.symm.trans c))
        · exact Or.inr (nI_z b6' (eB.symm.trans c))
    · rw [if_neg c]
      cases e : kSc P key t with
      | none => rfl
      | some k' => exact ih k'
/-- one program is that program with itself -/
noncomputable def cE1 (P : kP) (key : Int64) : Int64 := (bitN (kE1 P key)).toInt64
theorem or_z1 (x : Int64) : x ||| 0 = 0 ↔ x ||| x = 0 := by
  rw [Int64.or_zero, Int64.or_self]
theorem kSc_none {P : kP} {key : Int64} {j : Nat} (h : kA P key j = 0) (h2 : kB P key j = 0) : kSc P key j = none := by
  unfold kSc
  rw [h, h2]
  split
  · rfl
  split
  · rfl
  split
  · rfl
  rw [if_pos (by decide)]
theorem kSc_two {P P' : kP} {key key' : Int64} {j : Nat} (e1 : P.1 = P'.1) (e2 : P.2.1 = P'.2.1) (e3 : kGd P key = kGd P' key') (eA : kA P key j = kA P' key' j) (eB : kB P key j = 0) (eB' : kB P' key' j = kA P' key' j) : (kSc P key j).isSome = (kSc P' key' j).isSome := by
  unfold kSc
  rw [e1, e2, e3, eA, eB, eB']
  by_cases c1 : atF P'.1 ≤ nI (j / 3)
  · rw [if_pos c1, if_pos c1]
  rw [if_neg c1, if_neg c1]
  by_cases c2 : P'.2.1 ≤ nI (j % 3)
  · rw [if_pos c2, if_pos c2]
  rw [if_neg c2, if_neg c2]
  by_cases c3 : ¬ (kGd P' key' >>> (nI (j / 3) &&& 31) &&& 1 = 1)
  · rw [if_pos c3, if_pos c3]
  rw [if_neg c3, if_neg c3]
  have z0 : (0 : Int32).toInt64 = 0 := by decide
  rw [z0]
  by_cases c4 : (kA P' key' j).toInt64 ||| 0 = 0
  · rw [if_pos c4, if_pos ((or_z1 _).mp c4)]
  · rw [if_neg c4, if_neg (fun q => c4 ((or_z1 _).mpr q)), Option.isSome_some, Option.isSome_some]
section TW
variable {t a s : Int32} {F : Nat → Nat → Int32} {nf : Nat} {R : Nat → Int32}
theorem two_gd {key key' : Int64} (h : kBa key = kBa key') : kGd (pP t a s F nf R (rPlain 0)) key = kGd (pP t a s F nf R R) key' := by
  show allF t &&& (endF (fbA s F nf) (kBa key) _ _ ^^^ -1) = allF t &&& (endF (fbA s F nf) (kBa key') _ _ ^^^ -1)
  rw [h]
  rfl
theorem two_e1 {key key' : Int64} (h : kBa key = kBa key') (h1 : kMi key = kMi key') (h2 : kbg key = kbg key') : kE1 (pP t a s F nf R (rPlain 0)) key = kE1 (pP t a s F nf R R) key' := by
  unfold kE1
  rw [two_gd h, h1, h2]
  rfl
theorem two_e2 {key : Int64} (h : kIt key = kMi key) : kE2 (pP t a s F nf R R) key = kE1 (pP t a s F nf R R) key := by
  unfold kE1 kE2
  rw [h]
  rfl
theorem two_A {key key' : Int64} (h1 : kMi key = kMi key') (h2 : kbg key = kbg key') (j : Nat) : kA (pP t a s F nf R (rPlain 0)) key j = kA (pP t a s F nf R R) key' j := by
  unfold kA
  rw [h1, h2]
  rfl
theorem two_B0 (key : Int64) (j : Nat) : kB (pP t a s F nf R (rPlain 0)) key j = 0 := by
  show goF (rPlain 0) (wt (rPlain 0)) _ _ _ _ (wt (rPlain 0)) = 0
  rw [wt_pl0]
  rfl
theorem two_B {key : Int64} (h : kIt key = kMi key) (j : Nat) : kB (pP t a s F nf R R) key j = kA (pP t a s F nf R R) key j := by
  unfold kA kB
  rw [h]
  rfl
theorem two_F {key key' : Int64} (h : kBa key = kBa key') (j : Nat) : kF (pP t a s F nf R (rPlain 0)) key j = kF (pP t a s F nf R R) key' j := by
  unfold kF
  rw [h]
  rfl
theorem gWn_two (hs : kSm (pP t a s F nf R (rPlain 0))) (hs2 : kSm (pP t a s F nf R R)) : ∀ n key key', kBa key = kBa key' → kMi key = kMi key' → kbg key = kbg key' → kIt key' = kMi key' → gWn (kSc (pP t a s F nf R (rPlain 0))) (cE1 (pP t a s F nf R (rPlain 0))) n key = gWn (kSc (pP t a s F nf R R)) (cE (pP t a s F nf R R)) n key' := by
  intro n
  induction n with
  | zero =>
    intro key key' h1 h2 h3 h4
    show cE1 _ key = cE _ key'
    unfold cE1 cE
    rw [two_e1 h1 h2 h3, two_e2 h4, Int32.and_self]
  | succ n ih =>
    intro key key' h1 h2 h3 h4
    show gW _ (gWn _ _ n) key = gW _ (gWn _ _ n) key'
    refine gW_o (fun u hu => ?_)
    have iS := kSc_two (j := u) (P := pP t a s F nf R (rPlain 0)) (P' := pP t a s F nf R R) rfl rfl (two_gd h1) (two_A h2 h3 u) (two_B0 key u) (two_B h4 u)
    cases e : kSc (pP t a s F nf R (rPlain 0)) key u with
    | none =>
      rw [e] at iS
      cases e2 : kSc (pP t a s F nf R R) key' u with
      | none => rfl
      | some k2 => rw [e2] at iS; cases iS
    | some k1 =>
      rw [e] at iS
      cases e2 : kSc (pP t a s F nf R R) key' u with
      | none => rw [e2] at iS; cases iS
      | some k2 =>
        obtain ⟨a1, b1', f1, ha1, hb1, hf1, eA1, eB1, eF1, rfl⟩ := kSc_W hs e
        obtain ⟨a2, b2', f2, ha2, hb2, hf2, eA2, eB2, eF2, rfl⟩ := kSc_W hs2 e2
        obtain ⟨q1, q2, q3⟩ := kK_n hs ha1 hb1 hf1
        obtain ⟨r1, r2, r3⟩ := kK_n hs2 ha2 hb2 hf2
        obtain ⟨x1, x2, x3, x4⟩ := kParts q1 q2 q3
        obtain ⟨y1, y2, y3, y4⟩ := kParts r1 r2 r3
        refine ih _ _ ?_ ?_ ?_ ?_
        · rw [x3, y3, ← eF1, ← eF2]; exact two_F h1 u
        · rw [x1, y1, ← eA1, ← eA2]; exact two_A h2 h3 u
        · rw [x4, y4]
        · rw [y1, y2, ← eA2, ← eB2]; exact two_B h4 u
end TW
theorem wS_sm (W : Nat → Int64) (en : Nat → Int32) : ∀ n, wS W en n = smL (fun s => W s * (bitN (en s)).toInt64) n
  | 0 => rfl
  | n + 1 => by rw [wS, smL, wS_sm W en n]
section CT
variable {w : gD} {m : Nat} {h : HS} {V : aV} {M : aM}
theorem LDr.c1 {P : kP} {m N : Nat} {h : HS} (l : LDr P m h N) {k : Nat} (hk : k ≤ 12) : wS (wN (hI h (m + 7)) N k) (hI h (m + 8)) N = gWn (kSc P) (cE1 P) k BEG := by
  rw [← l.cnt hk (cE1 P), wS_sm]
  refine smL_cg N (fun s hs => ?_)
  obtain ⟨q, q1, q2, q3⟩ := (show ∃ q : Int64 × Nat, (bfs (kSc P) (24 * N))[s]? = some q ∧ hI h (m + 8) s = kE1 P q.1 ∧ hI h (m + 9) s = kE2 P q.1 from by
    have hl : s < (bfs (kSc P) (24 * N)).length := by rw [l.2.2.1]; exact hs
    exact ⟨_, List.getElem?_eq_getElem hl, l.2.2.2.2.1 s _ (List.getElem?_eq_getElem hl)⟩)
  rw [kyL_at (k := q.1) (v := q.2) q1, q2]
  rfl
theorem LDr.c2 {P : kP} {m N : Nat} {h : HS} (l : LDr P m h N) {k : Nat} (hk : k ≤ 12) : wS (wN (hI h (m + 7)) N k) (fun t => hI h (m + 8) t &&& hI h (m + 9) t) N = gWn (kSc P) (cE P) k BEG := by
  rw [← l.cnt hk (cE P), wS_sm]
  refine smL_cg N (fun s hs => ?_)
  obtain ⟨q, q1, q2, q3⟩ := (show ∃ q : Int64 × Nat, (bfs (kSc P) (24 * N))[s]? = some q ∧ hI h (m + 8) s = kE1 P q.1 ∧ hI h (m + 9) s = kE2 P q.1 from by
    have hl : s < (bfs (kSc P) (24 * N)).length := by rw [l.2.2.1]; exact hs
    exact ⟨_, List.getElem?_eq_getElem hl, l.2.2.2.2.1 s _ (List.getElem?_eq_getElem hl)⟩)
  rw [kyL_at (k := q.1) (v := q.2) q1]
  show _ * (bitN (hI h (m + 8) s &&& hI h (m + 9) s)).toInt64 = _
  rw [q2, q3]
  rfl
theorem vOK.w5 (v : vOK V) {r : Nat} (hr : r < vNp V) : wt (vPR V r) ≤ 5 := ((v.2.1 (vA V) (Nat.le_refl _)).2.2 r hr).1
theorem bQ.l {m : Nat} {h h' : HS} {V : aV} {M : aM} {Q : Int64 → Int32 → Prop} (v : MV m h V M) {i : Int64} {st : Int32} {r' : Option Value} (hr : r' = some (.long i)) (p : pQ m h h' st) (q : Q i st) : bQ m (qL V M Q) r' h' := ⟨_, _, _, hr, v.q p, i, st, rfl, q, rfl, rfl⟩
theorem b_m_both (v : MV m h V M) (p o k : Int32) : Ev w 7 0 0 yX10_both cX10_both 4 (some .long) [.ref m, .int p, .int o, .int k] h (bQ m (qL V M (gatL (0 ≤ k ∧ k ≤ 12) 1 (twoL (vNp V) p o (qBth V k))))) := by
  obtain ⟨fw, ⟨v1, v2, v3⟩, -⟩ := id v
  refine Ev.to (e_m_both v1 p o k) (fun r' h' hp => ?_)
  rcases hp with ⟨n, hr, pq⟩ | ⟨c, n, hr, pq⟩ | ⟨c, r, q, k, hr, hq, rfl, rfl, hk, rfl, h1, N, l, hv, pq⟩
  · exact bQ.l v hr pq (Or.inl ⟨n, rfl, rfl⟩)
  · exact bQ.l v hr pq (Or.inr ⟨c, Or.inl ⟨n, rfl, rfl⟩⟩)
  · rw [v.p2 hr hq] at l
    refine bQ.l v hv pq (Or.inr ⟨c, Or.inr ⟨r, q, hr, hq, rfl, rfl, ?_, rfl⟩⟩)
    rw [l.r.c2 hk, nI_clamp (by omega), gWn_sh ⟨Nat.le_trans (v2.w5 hr) (by omega), Nat.le_trans (v2.w5 hq) (by omega), v2.2.2.1 _ v2.s4⟩]
theorem b_m_count (v : MV m h V M) (p k : Int32) : Ev w 7 0 0 yX10_count cX10_count 3 (some .long) [.ref m, .int p, .int k] h (bQ m (qL V M (gatL (0 ≤ k ∧ k ≤ 12) 1 (twoL (vNp V) p p (qBth V k))))) := by
  obtain ⟨fw, ⟨v1, v2, v3⟩, -⟩ := id v
  refine Ev.to (e_m_count v1 p k) (fun r' h' hp => ?_)
  rcases hp with ⟨n, hr, pq⟩ | ⟨c, n, hr, pq⟩ | ⟨c, r, k, hr, rfl, hk, rfl, h1, N, l, hv, pq⟩
  · exact bQ.l v hr pq (Or.inl ⟨n, rfl, rfl⟩)
  · exact bQ.l v hr pq (Or.inr ⟨c, Or.inl ⟨fun q => n q.1, rfl, rfl⟩⟩)
  · rw [v.p1 hr] at l
    refine bQ.l v hv pq (Or.inr ⟨c, Or.inr ⟨r, r, hr, hr, rfl, rfl, ?_, rfl⟩⟩)
    have s2 : kSm (vP2 V (vS V) r r) := ⟨Nat.le_trans (v2.w5 hr) (by omega), Nat.le_trans (v2.w5 hr) (by omega), v2.2.2.1 _ v2.s4⟩
    have s1 : kSm (vP1 V (vS V) (vPR V r)) := ⟨s2.1, by show wt (rPlain 0) ≤ 6; rw [wt_pl0]; omega, s2.2.2⟩
    rw [l.r.c1 hk, nI_clamp (by omega), gWn_sh s2]
    exact gWn_two s1 s2 k BEG BEG rfl rfl rfl (by rw [kBeg.1, kBeg.2.1])
end CT
