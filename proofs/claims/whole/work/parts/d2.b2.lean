/-! The reference's actions and what it is fed, in the words of the class's: drop, assume, undo, make, feed, load -/
theorem kpK_o {K ρ : Nat → Int32} {a i t : Nat} {pr as : Int32} (hi : i ≠ a) (ht : t < 2458) : kpK K ρ pr as a (2458 * i + t) = K (2458 * i + t) := by
  unfold kpK upd cpF
  have q : 2458 * i + 2458 ≤ 2458 * a ∨ 2458 * a + 2458 ≤ 2458 * i := by
    rcases Nat.lt_or_gt_of_ne hi with c | c
    · exact Or.inl (by omega)
    · exact Or.inr (by omega)
  rw [if_neg (by omega), if_neg (by omega), if_neg (by omega)]
theorem kpK_6 {K ρ : Nat → Int32} {a : Nat} {pr as : Int32} : kpK K ρ pr as a (2458 * a + 2456) = pr := by
  unfold kpK upd
  rw [if_neg (by omega), if_pos rfl]
theorem kpK_7 {K ρ : Nat → Int32} {a : Nat} {pr as : Int32} : kpK K ρ pr as a (2458 * a + 2457) = as := by
  unfold kpK upd
  rw [if_pos rfl]
theorem kpK_r {K ρ : Nat → Int32} {a t : Nat} {pr as : Int32} (ht : t < 2456) : kpK K ρ pr as a (2458 * a + t) = ρ t := by
  unfold kpK upd cpF
  rw [if_neg (by omega), if_neg (by omega), if_pos (by omega), show 2458 * a + t - 2458 * a = t by omega]
theorem mkR_ag {c a b : Nat} {X X' Y Y' : Nat → Int32} {its al : Int32} (hX : Ag X X') (hY : Ag Y Y') : Ag (mkR c X Y a b its al) (mkR c X' Y' a b its al) := by
  unfold mkR
  by_cases e0 : c = 0
  · rw [if_pos e0, if_pos e0, rSum_ag hX hY]; exact Ag.rf _
  rw [if_neg e0, if_neg e0]
  by_cases e1 : c = 1
  · rw [if_pos e1, if_pos e1, rJoin_ag hX hY]; exact Ag.rf _
  rw [if_neg e1, if_neg e1]
  by_cases e2 : c = 2
  · rw [if_pos e2, if_pos e2]; exact rStar_ag hX a al
  rw [if_neg e2, if_neg e2]
  by_cases e3 : c = 3
  · rw [if_pos e3, if_pos e3, rSum_ag (rBegins_ag hX a its) (rBegins_ag hY b _)]; exact Ag.rf _
  · rw [if_neg e3, if_neg e3]
    exact rFinish_ag (rStar_ag (rBegins_ag hX a its) a al) a _
section B2
variable {w : gD} {m : Nat} {h h' : HS} {V : aV} {M : aM}
/-- a state that was kept, from a place i0 on of rows K -/
def hpS (K : Nat → Int32) (i : Nat) (S : aH) : Prop := K (2458 * i + 2456) = nI S.1 ∧ K (2458 * i + 2457) = nI S.2.1 ∧ ∀ k, k < S.1 → tr (fun j => K (2458 * i + 307 * k + j)) = S.2.2 k
theorem hpS_cg {K K' : Nat → Int32} {i i' : Nat} {S : aH} (h8 : S.1 ≤ 8) (e : ∀ t, t < 2458 → K' (2458 * i' + t) = K (2458 * i + t)) (k : hpS K i S) : hpS K' i' S := by
  obtain ⟨k1, k2, k3⟩ := k
  refine ⟨(e _ (by omega)).trans k1, (e _ (by omega)).trans k2, fun p hp => ?_⟩
  rw [← k3 p hp]
  refine tr_ag (fun j hj => ?_)
  show K' (2458 * i' + 307 * p + j) = K (2458 * i + 307 * p + j)
  rw [show 2458 * i' + 307 * p + j = 2458 * i' + (307 * p + j) by omega, show 2458 * i + 307 * p + j = 2458 * i + (307 * p + j) by omega]
  exact e _ (by omega)
theorem MV.now (v : MV m h V M) (K : Nat → Int32) (a : Nat) : hpS (kpK K (hI h (m + 1)) (hI h m 4) (hI h m 6) a) a (vHi V (vA V)) := by
  obtain ⟨fw, ⟨v1, v2, v3⟩, v4, -⟩ := id v
  have np := v2.np
  refine ⟨kpK_6.trans v1.2.2.2.1.2, kpK_7.trans v3, fun p hp => ?_⟩
  have hp' : p < vNp V := hp
  rw [show (vHi V (vA V)).2.2 p = vPR V p from rfl, ← v4 p hp']
  refine tr_ag (fun j hj => ?_)
  show kpK K (hI h (m + 1)) (hI h m 4) (hI h m 6) a (2458 * a + 307 * p + j) = gRec (hI h (m + 1)) p j
  rw [show 2458 * a + 307 * p + j = 2458 * a + (307 * p + j) by omega, kpK_r (by omega)]
  rfl
theorem MV.ch (v : MV m h V M) {S : aH} {np as : Int32} {Rec : Nat → Nat → Int32} (c : mCh m h h' (vA V) np as Rec) (e1 : np = nI S.1) (e2 : as = nI S.2.1) (ok : vOK (vAct V S)) (hR : ∀ k, k < S.1 → tr (Rec k) = S.2.2 k) (hF : ∀ f, f < 2 → ∀ k, k < 307 → Rec (8 + f) k = gRec (hI h (m + 1)) (8 + f) k) : MV m h' (vAct V S) (mAct M) := by
  obtain ⟨fw, ⟨v1, v2, v3⟩, v4, v5, ⟨v6, v7⟩, ⟨v8, v9, va⟩, ⟨vb, vc, vd⟩, ⟨ve, vf, vg⟩, ⟨vh, vi, vj⟩, vk⟩ := id v
  obtain ⟨c1, c2, c3, c4, c5, c6, c7, c8, c9, ca, cb, cc, cd⟩ := c
  obtain ⟨m1, ⟨m2, m3⟩, ⟨m4, m5⟩, ⟨m6, m7⟩, ⟨m8, m9, ma, mb⟩, mc⟩ := v1
  have a8 : vA V ≤ 8 := v2.1.2.2.2
  have eS := vAct_S V S
  have okS := (ok.2.1 (vA (vAct V S)) (Nat.le_refl _))
  rw [eS] at okS
  have nPR : vPR (vAct V S) = S.2.2 := by show (vHi (vAct V S) (vA (vAct V S))).2.2 = S.2.2; rw [eS]
  have nNp : vNp (vAct V S) = S.1 := by show (vHi (vAct V S) (vA (vAct V S))).1 = S.1; rw [eS]
  have nS : vS (vAct V S) = S.2.1 := by show (vHi (vAct V S) (vA (vAct V S))).2.1 = S.2.1; rw [eS]
  have pr : ∀ k, k < S.1 → mPr m h' k = S.2.2 k := fun k hk => by
    have := okS.1
    rw [← hR k hk]
    exact tr_ag (fun j hj => cb k j (by omega) hj)
  have fc : ∀ f, f < 2 → ∀ k, k < 307 → gRec (hI h' (m + 1)) (8 + f) k = gRec (hI h (m + 1)) (8 + f) k := fun f hf k hk => (cb (8 + f) k (by omega) hk).trans (hF f hf k hk)
  refine ⟨fw, ⟨⟨m1.fr c1, ⟨m2, (c2 2 (by omega) (by omega) (by omega) (by omega) (by omega) (by omega) (by omega)).trans m3⟩, ⟨m4, (c2 3 (by omega) (by omega) (by omega) (by omega) (by omega) (by omega) (by omega)).trans m5⟩, ⟨by rw [nNp]; exact okS.1, by rw [nNp]; exact c5.trans e1⟩, ⟨m8, (c2 5 (by omega) (by omega) (by omega) (by omega) (by omega) (by omega) (by omega)).trans m9, fun f hf => (fc f (by have : f < vNf V := hf; omega) 0 (by omega)).trans (ma f hf), mb⟩, fun p hp => ?_⟩, ok, by rw [nS]; exact c6.trans e2⟩, fun k hk => ?_, fun f hf => ?_, ⟨?_, fun i hi => ?_⟩, ⟨(c2 10 (by omega) (by omega) (by omega) (by omega) (by omega) (by omega) (by omega)).trans v8, v9, by rw [cc]; exact va⟩, ⟨c7, (c2 12 (by omega) (by omega) (by omega) (by omega) (by omega) (by omega) (by omega)).trans vc, (c2 13 (by omega) (by omega) (by omega) (by omega) (by omega) (by omega) (by omega)).trans vd⟩, ⟨c8, (c2 15 (by omega) (by omega) (by omega) (by omega) (by omega) (by omega) (by omega)).trans vf, (c2 16 (by omega) (by omega) (by omega) (by omega) (by omega) (by omega) (by omega)).trans vg⟩, ⟨c3.trans vh, vi, by rw [cd]; exact vj⟩, Or.inl rfl⟩
  · rw [nNp] at hp
    obtain ⟨p1, p2, -⟩ := okS.2.2 p hp
    have e0 : gRec (hI h' (m + 1)) p 0 = mPr m h' p 0 := gRec_tr (by omega)
    rw [pr p hp] at e0
    exact ⟨wt (S.2.2 p), by omega, e0.trans p2⟩
  · rw [nNp] at hk
    rw [nPR]
    exact pr k hk
  · show mFc m h' f = vFR V f
    rw [← v5 f hf]
    exact tr_ag (fun k hk => fc f (by have : f < vNf V := hf; omega) k hk)
  · rw [c9]
    show nI ((if vA V = 8 then 7 else vA V) + 1) = nI (if vA V = 8 then 8 else vA V + 1)
    congr 1
    split <;> omega
  · have hi' : i < (if vA V = 8 then 8 else vA V + 1) := hi
    have hist : vHi (vAct V S) i = (if vA V = 8 then (if i < 8 then vHi V (i + 1) else S) else (if i ≤ vA V then vHi V i else S)) := rfl
    show hpS (hI h' (m + 2)) i (vHi (vAct V S) i)
    rw [hist, ca]
    by_cases e8 : vA V = 8
    · rw [if_pos e8] at hi'
      rw [if_pos e8, if_pos hi', if_pos e8, if_pos e8]
      by_cases e7 : i = 7
      · rw [e7]
        have := v.now (shF (hI h (m + 2)) 17206) 7
        rw [e8] at this
        exact this
      · refine hpS_cg (v2.2.1 (i + 1) (by omega)).1 (fun t ht => ?_) (v7 (i + 1) (by omega))
        rw [kpK_o e7 ht]
        unfold shF
        rw [if_pos (by omega), show 2458 * i + t + 2458 = 2458 * (i + 1) + t by omega]
    · rw [if_neg e8] at hi'
      rw [if_neg e8, if_neg e8, if_neg e8, if_pos (show i ≤ vA V by omega)]
      by_cases e7 : i = vA V
      · rw [e7]
        exact v.now (hI h (m + 2)) (vA V)
      · exact hpS_cg (v2.2.1 i (by omega)).1 (fun t ht => kpK_o e7 ht) (v7 i (by omega))
theorem pcf4 : ∀ s, s < 4 → nI (pcf s s) = bcF (nI s) := by decide
theorem xor4 : ∀ s, s < 4 → ∀ f, f < 2 → s ^^^ 2 ^ f < 4 := by decide
theorem b_m_drop (v : MV m h V M) (p : Int32) : Ev w 2 0 0 yX10_drop cX10_drop 3 (some .int) [.ref m, .int p] h (bQ m (qDro V M p)) := by
  obtain ⟨fw, ⟨v1, v2, v3⟩, v4, v5, v6, -⟩ := id v
  refine Ev.to (e_m_drop v1 v2.1.2.2.2 v6.1 p) (fun r' h' hp => ?_)
  rcases hp with ⟨n, hr, q⟩ | ⟨r, hr, rfl, hv, c⟩
  · exact ⟨_, _, _, hr, v.q q, Or.inl ⟨n, rfl, rfl, rfl⟩⟩
  · have h5 := (v2.2.1 (vA V) (Nat.le_refl _))
    have np := v2.np
    have ok : vOK (vAct V (vNp V - 1, vS V, fun k => if k < r then vPR V k else vPR V (k + 1))) := vAct_ok v2 (by show vNp V - 1 ≤ 8; omega) h5.2.1 (fun k hk => by
      have hk' : k < vNp V - 1 := hk
      show pOK (vNt V) (if k < r then vPR V k else vPR V (k + 1))
      split
      · exact h5.2.2 k (by have : k < vNp V := by omega
                           exact this)
      · exact h5.2.2 (k + 1) (by have : k + 1 < vNp V := by omega
                                 exact this))
    refine ⟨_, _, _, hv, v.ch (S := (vNp V - 1, vS V, fun k => if k < r then vPR V k else vPR V (k + 1))) c rfl v3 ok (fun k hk => ?_) (fun f hf k hk => ?_), Or.inr ⟨r, hr, rfl, rfl, rfl, rfl⟩⟩
    · have hk' : k < vNp V - 1 := hk
      show tr (fun j => if r ≤ k ∧ k + 1 < vNp V then gRec (hI h (m + 1)) (k + 1) j else gRec (hI h (m + 1)) k j) = if k < r then vPR V k else vPR V (k + 1)
      by_cases c : k < r
      · rw [if_pos c, ← v4 k (by omega)]
        exact tr_ag (fun j _ => if_neg (by omega))
      · rw [if_neg c, ← v4 (k + 1) (by omega)]
        exact tr_ag (fun j _ => if_pos (by omega))
    · exact if_neg (by omega)
theorem b_m_assume (v : MV m h V M) (p y : Int32) : Ev w 2 0 0 yX10_assume cX10_assume 3 (some .int) [.ref m, .int p, .int y] h (bQ m (qAss V M p y)) := by
  obtain ⟨fw, ⟨v1, v2, v3⟩, v4, v5, v6, -⟩ := id v
  have nf := v2.nf
  refine Ev.to (e_m_assume v1 v2.1.2.2.2 v6.1 v2.s4 v3 p y) (fun r' h' hp => ?_)
  rcases hp with ⟨n, hr, q⟩ | ⟨f, hf, rfl, ⟨e, hv, q⟩ | ⟨e, hv, c⟩⟩
  · exact ⟨_, _, _, hr, v.q q, Or.inl ⟨n, rfl, rfl, rfl⟩⟩
  · exact ⟨_, _, _, hv, v.q q, Or.inr ⟨f, hf, rfl, Or.inl ⟨e, rfl, rfl, rfl⟩⟩⟩
  · have h5 := (v2.2.1 (vA V) (Nat.le_refl _))
    have l4 := xor4 _ v2.s4 f (by omega)
    have ok : vOK (vAct V (vNp V, vS V ^^^ 2 ^ f, vPR V)) := vAct_ok v2 h5.1 l4 h5.2.2
    rw [pcf4 _ l4] at hv
    exact ⟨_, _, _, hv, v.ch (S := (vNp V, vS V ^^^ 2 ^ f, vPR V)) c rfl rfl ok (fun k hk => v4 k hk) (fun f hf k hk => rfl), Or.inr ⟨f, hf, rfl, Or.inr ⟨e, rfl, rfl, rfl⟩⟩⟩
theorem b_m_make (v : MV m h V M) (kd p o test : Int32) : Ev w 5 0 0 yX10_make cX10_make 7 (some .int) [.ref m, .int kd, .int p, .int o, .int test] h (bQ m (qMak V M kd p o test)) := by
  obtain ⟨fw, ⟨v1, v2, v3⟩, v4, v5, v6, -⟩ := id v
  refine Ev.to (e_m_make v1 v2.1.2.2.2 v6.1 kd p o test) (fun r' h' hp => ?_)
  rcases hp with ⟨n, hr, q⟩ | ⟨c, hc, rfl, hp⟩
  · exact ⟨_, _, _, hr, v.q q, Or.inl ⟨n, rfl, rfl, rfl⟩⟩
  rcases hp with ⟨n, hr, q⟩ | ⟨r, q, wr, wq, D, hr, hq, rfl, rfl, ht, er, eq, lr, lq, eD, hp⟩
  · exact ⟨_, _, _, hr, v.q q, Or.inr ⟨c, hc, rfl, Or.inl ⟨n, rfl, rfl, rfl⟩⟩⟩
  · have h5 := (v2.2.1 (vA V) (Nat.le_refl _))
    obtain ⟨a1, a2, a3, d1, ld1, ed1'⟩ := h5.2.2 r hr
    obtain ⟨b1', b2, b3, d2, ld2, ed2'⟩ := h5.2.2 q hq
    have ed1 : vPR V r 306 = nI d1 := ed1'
    have ed2 : vPR V q 306 = nI d2 := ed2'
    have ewr : wr = wt (vPR V r) := (nI_eq (by omega) (by have : wt (vPR V r) ≤ 5 := a1
                                                          omega)).mp (er.symm.trans (v.w0 hr))
    have ewq : wq = wt (vPR V q) := (nI_eq (by omega) (by have : wt (vPR V q) ≤ 5 := b1'
                                                          omega)).mp (eq.symm.trans (v.w0 hq))
    subst ewr ewq
    have g6 : ∀ k, k < vNp V → gRec (hI h (m + 1)) k 306 = vPR V k 306 := fun k hk => by rw [← v4 k hk, gRec_tr (by omega)]
    have eL : D = mLay V c r q := by
      rw [eD, g6 r hr, g6 q hq]
      rfl
    subst eL
    clear eD
    rcases hp with ⟨no, hv, pq⟩ | ⟨no, hv, ch⟩
    · exact ⟨_, _, _, hv, v.q pq, Or.inr ⟨c, hc, rfl, Or.inr ⟨r, q, hr, hq, rfl, rfl, ht, Or.inl ⟨no, rfl, rfl, rfl⟩⟩⟩⟩
    · have np := v2.np
      have np8 : vNp V < 8 := by
        have : vNp V ≠ 8 := fun e => no (Or.inl e)
        omega
      have eW2 : wt (vPR V r) + mk2 c 0 (wt (vPR V q)) = mkW c (wt (vPR V r)) (wt (vPR V q)) := by
        unfold mk2 mkW
        by_cases e : c = 2 ∨ c = 4
        · rw [if_pos e, if_pos e]; rfl
        · rw [if_neg e, if_neg e]
      have hw5 : mkW c (wt (vPR V r)) (wt (vPR V q)) ≤ 5 := by
        rw [← eW2]
        exact Nat.le_of_not_lt (fun e => no (Or.inr (Or.inl e)))
      have eLn := mLay_n (c := c) ed1 ed2 ld1 ld2
      generalize hDn : 1 + (if c = 2 ∨ c = 4 then d1 else if d1 < d2 then d2 else d1) = D at eLn
      have hD7 : D ≤ 7 := by
        rw [← hDn]
        split
        · omega
        · split <;> omega
      have hD6 : D ≤ 6 := by
        have : D ≠ 7 := fun e => no (Or.inr (Or.inr (by rw [eLn, e]; rfl)))
        omega
      obtain ⟨ok1, ok2, ok3⟩ := mRec_ok (test := test) v2 hc hr hq hw5 eLn hD6
      have ok : vOK (vAct V (vNp V + 1, vS V, fun k => if k = vNp V then mRec V c r q test (mLay V c r q) else vPR V k)) := vAct_ok v2 (by show vNp V + 1 ≤ 8; omega) h5.2.1 (fun k hk => by
        have hk' : k < vNp V + 1 := hk
        show pOK (vNt V) (if k = vNp V then mRec V c r q test (mLay V c r q) else vPR V k)
        by_cases e : k = vNp V
        · rw [if_pos e]; exact ok1
        · rw [if_neg e]; exact h5.2.2 k (show k < vNp V by omega))
      refine ⟨_, _, _, hv, v.ch (S := (vNp V + 1, vS V, fun k => if k = vNp V then mRec V c r q test (mLay V c r q) else vPR V k)) ch rfl v3 ok (fun k hk => ?_) (fun f hf k hk => ?_), Or.inr ⟨c, hc, rfl, Or.inr ⟨r, q, hr, hq, rfl, rfl, ht, Or.inr ⟨no, rfl, rfl, rfl⟩⟩⟩⟩
      · have hk' : k < vNp V + 1 := hk
        show tr (fun j => if k = vNp V then (if j = 306 then mLay V c r q else mkR c (gRec (hI h (m + 1)) r) (gRec (hI h (m + 1)) q) (wt (vPR V r)) (wt (vPR V q)) (holdF test (2 ^ vNt V)) (allF (nI (vNt V))) j) else gRec (hI h (m + 1)) k j) = if k = vNp V then mRec V c r q test (mLay V c r q) else vPR V k
        by_cases e : k = vNp V
        · rw [if_pos e]
          unfold mRec
          refine tr_ag (fun j hj => ?_)
          show (if k = vNp V then _ else _) = _
          rw [if_pos e]
          by_cases e6 : j = 306
          · rw [if_pos e6, if_pos e6]
          · rw [if_neg e6, if_neg e6]
            have gr : Ag (gRec (hI h (m + 1)) r) (vPR V r) := fun i hi => by rw [← v4 r hr, gRec_tr hi]
            have gq : Ag (gRec (hI h (m + 1)) q) (vPR V q) := fun i hi => by rw [← v4 q hq, gRec_tr hi]
            exact mkR_ag gr gq j hj
        · rw [if_neg e, ← v4 k (by omega)]
          exact tr_ag (fun j hj => if_neg e)
      · exact if_neg (by omega)
end B2
