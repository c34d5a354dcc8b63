/-! The reference's table against the class's: clear, the walk, print -/
theorem allF_lt : ∀ t, t ≤ 3 → ∀ a, a < 32 → hasB (allF (nI t)) (nI a) → a < 2 ^ t := by
  intro t ht a ha h
  rcases (show t = 0 ∨ t = 1 ∨ t = 2 ∨ t = 3 by omega) with rfl | rfl | rfl | rfl
  · exact (by decide : ∀ a, a < 32 → allF (nI 0) >>> (nI a &&& 31) &&& 1 = 1 → a < 2 ^ 0) a ha h
  · exact (by decide : ∀ a, a < 32 → allF (nI 1) >>> (nI a &&& 31) &&& 1 = 1 → a < 2 ^ 1) a ha h
  · exact (by decide : ∀ a, a < 32 → allF (nI 2) >>> (nI a &&& 31) &&& 1 = 1 → a < 2 ^ 2) a ha h
  · exact (by decide : ∀ a, a < 32 → allF (nI 3) >>> (nI a &&& 31) &&& 1 = 1 → a < 2 ^ 3) a ha h
theorem tbM.no {V : aV} (hV : vOK V) {s : Nat} {R0 : Nat → Int32} {R : List (Nat × Nat)} {E : Nat → Int32} {T : Nat → Nat → Int32} (t : tbM (vP1 V s R0) R E T) {i l : Nat} (hi : i < R.length) (hl : l < 24) (c : 2 ^ vNt V ≤ l / 3 ∨ vNa V ≤ l % 3) : T i l = -1 := by
  obtain ⟨m, h, N, ⟨l1, l2, l3, l4, l5, l6⟩, t2, t3, t4⟩ := t
  obtain ⟨q, hq⟩ : ∃ q, R[i]? = some q := ⟨_, List.getElem?_eq_getElem hi⟩
  obtain ⟨-, q2, -⟩ := t4 i q hq
  obtain ⟨k, k1, k2⟩ := l4 (24 * q.1 + l) (by omega)
  have hnt := hV.1.1
  have hna := hV.1.2.1
  have scn : kSc (vP1 V s R0) k.1 l = none := by
    unfold kSc
    have e1 : (vP1 V s R0).1 = nI (vNt V) := rfl
    have e2 : (vP1 V s R0).2.1 = nI (vNa V) := rfl
    rw [e1, e2, atF_n hnt]
    by_cases c1 : nI (2 ^ vNt V) ≤ nI (l / 3)
    · rw [if_pos c1]
    · rw [if_neg c1]
      by_cases c2 : nI (vNa V) ≤ nI (l % 3)
      · rw [if_pos c2]
      · exfalso
        rcases c with c | c
        · exact c1 (nI_le c (by omega))
        · exact c2 (nI_le c (by omega))
  have g7 : hI h (m + 7) (24 * q.1 + l) = -1 := by
    rw [show (24 * q.1 + l) % 24 = l by omega] at k2
    rcases k2 with ⟨-, e⟩ | ⟨k', j, v, e, -⟩
    · exact e
    · rw [scn] at e; cases e
  have gn : rgo m h q.1 l = none := by
    unfold rgo uNx
    rw [g7, if_pos rfl, if_pos rfl]
  rcases t3 i q l hq hl with ⟨-, e⟩ | ⟨b, j, p, e, -⟩
  · exact e
  · rw [gn] at e; cases e
theorem tbM.bit {V : aV} (hV : vOK V) {s : Nat} {R0 : Nat → Int32} {R : List (Nat × Nat)} {E : Nat → Int32} {T : Nat → Nat → Int32} (t : tbM (vP1 V s R0) R E T) {i a : Nat} (hi : i < R.length) (ha : a < 32) (b : hasB (E i) (nI a)) : a < 2 ^ vNt V := by
  obtain ⟨m, h, N, ⟨l1, l2, l3, l4, l5, l6⟩, t2, t3, t4⟩ := t
  obtain ⟨q, hq⟩ : ∃ q, R[i]? = some q := ⟨_, List.getElem?_eq_getElem hi⟩
  obtain ⟨q1, q2, -⟩ := t4 i q hq
  obtain ⟨k, hk⟩ : ∃ k, (bfs (kSc (vP1 V s R0)) (24 * N))[q.1]? = some k := ⟨_, List.getElem?_eq_getElem (by omega)⟩
  rw [q1, (l5 _ k hk).1] at b
  unfold kE1 kGd at b
  rw [hasB_and ha, hasB_and ha] at b
  exact allF_lt _ hV.1.1 a ha b.2.1
theorem clC_cg {T T' : Nat → Nat → Int32} {i a : Nat} : ∀ c, (∀ k, k < c → T i (3 * a + k) = T' i (3 * a + k)) → clC T i a c = clC T' i a c
  | 0, _ => rfl
  | c + 1, h => by rw [clC, clC, clC_cg c (fun k hk => h k (by omega)), h c (by omega)]
theorem clC_z {T : Nat → Nat → Int32} {i a : Nat} : ∀ x c, (∀ k, c ≤ k → k < c + x → T i (3 * a + k) = -1) → clC T i a (c + x) = clC T i a c
  | 0, _, _ => rfl
  | x + 1, c, h => by
    show clC T i a (c + x) + (if T i (3 * a + (c + x)) = -1 then 0 else 1) = clC T i a c
    rw [clC_z x c (fun k h1 h2 => h k h1 (by omega)), if_pos (h _ (by omega) (by omega)), Nat.add_zero]
def gClr (nt na : Nat) (R : List (Nat × Nat)) (E : Nat → Int32) (T : Nat → Nat → Int32) (v st : Int32) : Prop := ((v = 1 ∧ ∀ i a, i < R.length → a < 2 ^ nt → clN (E i) T na i a ≤ 1) ∨ (v = 0 ∧ ¬ ∀ i a, i < R.length → a < 2 ^ nt → clN (E i) T na i a ≤ 1)) ∧ st = 0
theorem ag_clr {V : aV} (hV : vOK V) {r : Nat} : ag2 (tbQ V fClr r) (tmQ V (gClr (vNt V) (vNa V)) r) := ag2.tb (fun ρ R E T o t tie v st v2 st2 a b => by
  obtain ⟨n, tn, a, rfl⟩ := a
  obtain ⟨b, rfl⟩ := b
  have en := tie.n tn
  subst en
  have hnt := hV.1.1
  have hna := hV.1.2.1
  have hp2 : 2 ^ vNt V ≤ 8 := by rcases (show vNt V = 0 ∨ vNt V = 1 ∨ vNt V = 2 ∨ vNt V = 3 by omega) with e | e | e | e <;> rw [e] <;> decide
  have cl : ∀ i y, i < R.length → y < 8 → clN (ρ 1 i) (fun i k => ρ 3 (24 * i + k)) 3 i y = if y < 2 ^ vNt V then clN (E i) T (vNa V) i y else 0 := by
    intro i y hi hy
    obtain ⟨q, hq⟩ : ∃ q, R[i]? = some q := ⟨_, List.getElem?_eq_getElem hi⟩
    obtain ⟨e1, e2, e3, e4⟩ := tie.2 i q hq
    have c1 : clC (fun i k => ρ 3 (24 * i + k)) i y 3 = clC T i y 3 := clC_cg 3 (fun k hk => e4 (3 * y + k) (by omega))
    unfold clN
    rw [c1, e1]
    by_cases c : y < 2 ^ vNt V
    · rw [if_pos c]
      congr 1
      have := clC_z (T := T) (i := i) (a := y) (3 - vNa V) (vNa V) (fun k h1 h2 => t.no hV hi (by omega) (Or.inr (by omega)))
      rw [show vNa V + (3 - vNa V) = 3 by omega] at this
      exact this
    · rw [if_neg c]
      have z1 : ¬ E i >>> (nI y &&& 31) &&& 1 = 1 := fun b => c (t.bit hV hi (by omega) b)
      have z2 := clC_z (T := T) (i := i) (a := y) 3 0 (fun k h1 h2 => t.no hV hi (by omega) (Or.inl (by omega)))
      rw [if_neg z1, Nat.zero_add] at *
      rw [z2]
      rfl
  have iff : (∀ i, i < 8 * R.length → clN (ρ 1 (i / 8)) (fun i k => ρ 3 (24 * i + k)) 3 (i / 8) (i % 8) ≤ 1) ↔ ∀ i a, i < R.length → a < 2 ^ vNt V → clN (E i) T (vNa V) i a ≤ 1 := by
    constructor
    · intro q i y hi hy
      have := q (8 * i + y) (by omega)
      rw [show (8 * i + y) / 8 = i by omega, show (8 * i + y) % 8 = y by omega, cl i y hi (by omega), if_pos hy] at this
      exact this
    · intro q i hi
      rw [cl (i / 8) (i % 8) (by omega) (by omega)]
      by_cases c : i % 8 < 2 ^ vNt V
      · rw [if_pos c]; exact q _ _ (by omega) c
      · rw [if_neg c]; omega
  rw [iff] at a
  rcases a with ⟨rfl, a⟩ | ⟨rfl, a⟩ <;> rcases b with ⟨rfl, b⟩ | ⟨rfl, b⟩
  · exact ⟨rfl, rfl⟩
  · exact absurd a b
  · exact absurd b a
  · exact ⟨rfl, rfl⟩)
def qWlM (V : aV) (M : aM) (p : Int32) (v : Value) (V' : aV) (M' : aM) : Prop := (¬ inP (vNp V) p ∧ v = .int (-1) ∧ V' = V ∧ M' = mSt M 2) ∨ ∃ r, r < vNp V ∧ p = nI r ∧ ∃ R E T, tbM (vP1 V (vS V) (vPR V r)) R E T ∧ ((R.length = 0 ∧ v = .int (-1) ∧ V' = V ∧ M' = mSt M 5) ∨ (0 < R.length ∧ v = .int (nI R.length) ∧ V' = V ∧ M' = mWl (mSt M 0) (nI r, 0, 0)))
theorem ag_walk {V : aV} {M : aM} (hV : vOK V) {p : Int32} : agr (qWlk V M p) (qWlM V M p) := by
  intro v v2 V1 V2 M1 M2 h1 h2
  have np := hV.np
  rcases h1 with ⟨n1, rfl, rfl, rfl⟩ | ⟨r, r1, rfl, ρ, o, h1⟩ <;> rcases h2 with ⟨n2, rfl, rfl, rfl⟩ | ⟨r', s1, s2, R, E, T, t, h2⟩
  · exact ⟨rfl, rfl, rfl⟩
  · exact absurd (s2 ▸ inP_of (by omega) s1) n1
  · exact absurd (inP_of (by omega) r1) n2
  · have e1 : r = r' := (nI_eq (by omega) (by omega)).mp s2
    subst e1
    have tie := tb_tie o t
    have hl := tie.1.1
    have z : ρ 0 0 = nI R.length := tie.1.2.1
    rcases h1 with ⟨z1, rfl, rfl, rfl⟩ | ⟨z1, rfl, rfl, rfl⟩ <;> rcases h2 with ⟨z2, rfl, rfl, rfl⟩ | ⟨z2, rfl, rfl, rfl⟩
    · exact ⟨rfl, rfl, rfl⟩
    · rw [z] at z1
      have := (nI_eq (b := 0) (by omega) (by omega)).mp z1
      omega
    · exact absurd (by rw [z, z2]; rfl) z1
    · exact ⟨by rw [z], rfl, rfl⟩
def qStM (V : aV) (M : aM) (a c : Int32) (v : Value) (V' : aV) (M' : aM) : Prop := (¬ letP V a c ∧ v = .int (-1) ∧ V' = V ∧ M' = mSt M 2) ∨ (letP V a c ∧ ((M.2.2.1.1 = -1 ∧ v = .int (-1) ∧ V' = V ∧ M' = mSt M 5) ∨ ∃ r j y z R E T i, r < vNp V ∧ M.2.2.1.1 = nI r ∧ M.2.2.1.2.2 = nI j ∧ y < 8 ∧ z < 3 ∧ a = nI y ∧ c = nI z ∧ tbM (vP1 V (vS V) (vPR V r)) R E T ∧ j < R.length ∧ i = T j (3 * y + z) ∧ ((i = -1 ∧ v = .int (-1) ∧ V' = V ∧ M' = mSt M 5) ∨ (¬ i = -1 ∧ v = .int i ∧ V' = V ∧ M' = mWl (mSt M 0) (nI r, M.2.2.1.2.1 + 1, i)))))
theorem ag_step {V : aV} {M : aM} (hV : vOK V) {a c : Int32} : agr (qStp V M a c) (qStM V M a c) := by
  intro v v2 V1 V2 M1 M2 h1 h2
  have np := hV.np
  rcases h1 with ⟨n1, rfl, rfl, rfl⟩ | ⟨l1, h1⟩ <;> rcases h2 with ⟨n2, rfl, rfl, rfl⟩ | ⟨l2, h2⟩
  · exact ⟨rfl, rfl, rfl⟩
  · exact absurd l2 n1
  · exact absurd l1 n2
  rcases h1 with ⟨w1, rfl, rfl, rfl⟩ | ⟨r, j, y, z, ρ, i, r1, r2, r3, r4, r5, r6, r7, o, ⟨n, tn, hj⟩, ei, h1⟩ <;> rcases h2 with ⟨w2, rfl, rfl, rfl⟩ | ⟨r', j', y', z', R, E, T, i', s1, s2, s3, s4, s5, s6, s7, t, hj', ei', h2⟩
  · exact ⟨rfl, rfl, rfl⟩
  · rw [w1] at s2; exact absurd s2.symm (nI_neg1 (by omega))
  · rw [w2] at r2; exact absurd r2.symm (nI_neg1 (by omega))
  have e1 : r = r' := (nI_eq (by omega) (by omega)).mp (r2.symm.trans s2)
  subst e1
  have tie := tb_tie o t
  have hl := tie.1.1
  have en := tie.n tn
  have e2 : j = j' := (nI_eq (by omega) (by omega)).mp (r3.symm.trans s3)
  have e3 : y = y' := (nI_eq (by omega) (by omega)).mp (r6.symm.trans s6)
  have e4 : z = z' := (nI_eq (by omega) (by omega)).mp (r7.symm.trans s7)
  subst e2 e3 e4
  obtain ⟨q, hq⟩ : ∃ q, R[j]? = some q := ⟨_, List.getElem?_eq_getElem hj'⟩
  have e5 : i = i' := by rw [ei, ei', (tie.2 j q hq).2.2.2 _ (by omega)]
  subst e5
  rcases h1 with ⟨z1, rfl, rfl, rfl⟩ | ⟨z1, rfl, rfl, rfl⟩ <;> rcases h2 with ⟨z2, rfl, rfl, rfl⟩ | ⟨z2, rfl, rfl, rfl⟩
  · exact ⟨rfl, rfl, rfl⟩
  · exact absurd z1 z2
  · exact absurd z2 z1
  · exact ⟨rfl, rfl, rfl⟩
def qWdM (V : aV) (M : aM) (k : Int32) (v st : Int32) : Prop := gat (0 ≤ k ∧ k ≤ 3) 1 (fun v st => (M.2.2.1.1 = -1 ∧ v = -1 ∧ st = 5) ∨ ∃ r j R E T, r < vNp V ∧ M.2.2.1.1 = nI r ∧ M.2.2.1.2.2 = nI j ∧ tbM (vP1 V (vS V) (vPR V r)) R E T ∧ j < R.length ∧ v = (if k = 0 then nI r else if k = 1 then M.2.2.1.2.1 else if k = 2 then nI j else E j) ∧ st = 0) v st
theorem ag_wkd {V : aV} {M : aM} (hV : vOK V) {k : Int32} (wk : vWk V M) : ag2 (qWkd V M k) (qWdM V M k) := by
  have np := hV.np
  refine ag2.gat (fun _ => ?_)
  intro v st v2 st2 h1 h2
  rcases h1 with ⟨w1, rfl, rfl⟩ | ⟨r, j, r1, r2, r3, h1, rfl⟩ <;> rcases h2 with ⟨w2, rfl, rfl⟩ | ⟨r', j', R, E, T, s1, s2, s3, t, hj, rfl, rfl⟩
  · exact ⟨rfl, rfl⟩
  · rw [w1] at s2; exact absurd s2.symm (nI_neg1 (by omega))
  · rw [w2] at r2; exact absurd r2.symm (nI_neg1 (by omega))
  have e1 : r = r' := (nI_eq (by omega) (by omega)).mp (r2.symm.trans s2)
  subst e1
  refine ⟨?_, rfl⟩
  rcases h1 with ⟨rfl, rfl⟩ | ⟨rfl, rfl⟩ | ⟨rfl, rfl⟩ | ⟨rfl, ρ, n, o, tn, hjn, rfl⟩
  · rw [if_pos rfl]
  · rw [if_neg (by decide), if_pos rfl]
  · rw [if_neg (by decide), if_neg (by decide), if_pos rfl]
    exact r3.symm.trans s3
  · rw [if_neg (by decide), if_neg (by decide), if_neg (by decide)]
    have tie := tb_tie o t
    have hl := tie.1.1
    have en := tie.n tn
    have e2 : j = j' := (nI_eq (by omega) (by omega)).mp (r3.symm.trans s3)
    subst e2
    obtain ⟨q, hq⟩ : ∃ q, R[j]? = some q := ⟨_, List.getElem?_eq_getElem hj⟩
    exact (tie.2 j q hq).1
theorem pxK_cg {T T' : Nat → Nat → Int32} {i : Nat} : ∀ k, (∀ j, j < k → T i j = T' i j) → pxK T i k = pxK T' i k
  | 0, _ => rfl
  | k + 1, h => by rw [pxK, pxK, pxK_cg k (fun j hj => h j (by omega)), h k (by omega)]
theorem pxA_cg {E E' : Nat → Int32} {T T' : Nat → Nat → Int32} : ∀ n, (∀ i, i < n → E i = E' i ∧ ∀ k, k < 24 → T i k = T' i k) → pxA E T n = pxA E' T' n
  | 0, _ => rfl
  | n + 1, h => by
    rw [pxA, pxA, pxA_cg n (fun i hi => h i (by omega))]
    unfold pxR
    rw [(h n (by omega)).1, pxK_cg 24 (h n (by omega)).2]
def qPrM (V : aV) (M : aM) (p : Int32) (v : Value) (V' : aV) (M' : aM) : Prop := (¬ inP (vNp V) p ∧ v = .int (-1) ∧ V' = V ∧ M' = mSt M 2) ∨ ∃ r, r < vNp V ∧ p = nI r ∧ ∃ R E T, tbM (vP1 V (vS V) (vPR V r)) R E T ∧ ((60 < R.length ∧ v = .int (-1) ∧ V' = V ∧ M' = mSt M 3) ∨ (R.length ≤ 60 ∧ v = .int (nI (pxA E T R.length).length) ∧ V' = V ∧ M' = mOu (mSt M 0) (pxA E T R.length)))
theorem ag_print {V : aV} {M : aM} (hV : vOK V) {p : Int32} : agr (qPri V M p) (qPrM V M p) := by
  intro v v2 V1 V2 M1 M2 h1 h2
  have np := hV.np
  rcases h1 with ⟨n1, rfl, rfl, rfl⟩ | ⟨r, r1, rfl, ρ, n, o, tn, h1⟩ <;> rcases h2 with ⟨n2, rfl, rfl, rfl⟩ | ⟨r', s1, s2, R, E, T, t, h2⟩
  · exact ⟨rfl, rfl, rfl⟩
  · exact absurd (s2 ▸ inP_of (by omega) s1) n1
  · exact absurd (inP_of (by omega) r1) n2
  · have e1 : r = r' := (nI_eq (by omega) (by omega)).mp s2
    subst e1
    have tie := tb_tie o t
    have en := tie.n tn
    subst en
    have px : pxA (ρ 1) (fun i k => ρ 3 (24 * i + k)) R.length = pxA E T R.length := pxA_cg _ (fun i hi => by
      obtain ⟨q, hq⟩ : ∃ q, R[i]? = some q := ⟨_, List.getElem?_eq_getElem hi⟩
      exact ⟨(tie.2 i q hq).1, (tie.2 i q hq).2.2.2⟩)
    rw [px] at h1
    rcases h1 with ⟨z1, rfl, rfl, rfl⟩ | ⟨z1, rfl, rfl, rfl⟩ <;> rcases h2 with ⟨z2, rfl, rfl, rfl⟩ | ⟨z2, rfl, rfl, rfl⟩
    · exact ⟨rfl, rfl, rfl⟩
    · omega
    · omega
    · exact ⟨rfl, rfl, rfl⟩
