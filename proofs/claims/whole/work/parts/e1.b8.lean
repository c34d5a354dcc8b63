/-! The reference's right, weakest, strongest and keeps in these words -/
section B8
variable {w : gD} {m : Nat} {h h' : HS} {V : aV} {M : aM}
theorem MV.lay1 (v : MV m h V M) {r N : Nat} {h1 : HS} (hr : r < vNp V) (hp : layP m (hs92 m h) (vNf V) (hI h m 6) r 92 h1) (hL : LD (kOf m (hs92 m h) (vNf V) (hI h m 6) r 92) m h1 N) : LDr (vP1 V (vS V) (vPR V r)) m h1 N ∧ mKp m h h1 := by
  obtain ⟨fw, ⟨v1, v2, v3⟩, -⟩ := id v
  obtain ⟨wr, lr, hwr⟩ := v1.2.2.2.2.2 r hr
  have np := v2.np
  obtain ⟨N2, l, k⟩ := lay_1 v1.2.2.2.2.1 (by omega) lr hwr hp
  have g1 := hL.gok
  have g2 := l.1.gok
  have e : N = N2 := (nI_eq (by have := g1.1; omega) (by have := g2.1; omega)).mp (g1.2.1.symm.trans g2.2.1)
  subst e
  rw [v.p1 hr] at l
  exact ⟨l.r, k⟩
theorem b_m_right (v : MV m h V M) (s p to : Int32) : Ev w 7 0 0 yX10_right cX10_right 4 (some .int) [.ref m, .int s, .int p, .int to] h (bQ m (qQ V M (gat (atP V s ∧ atP V to) 1 (one (vNp V) p (smQ V (sRig s to)))))) := by
  obtain ⟨fw, ⟨v1, v2, v3⟩, -⟩ := id v
  refine Ev.to (e_m_right v1 s p to) (fun r' h' hp => ?_)
  rcases hp with ⟨n, hr, rfl⟩ | ⟨c, n, hr, rfl⟩ | ⟨c, r, hr, rfl, h1, N, MT, LN, lp, ld, hv, rfl⟩
  · exact bQ.q v hr ((mKp.rf m h).q 1) (Or.inl ⟨n, rfl, rfl⟩)
  · exact bQ.q v hr ((mKp.rf m h).q 2) (Or.inr ⟨c, Or.inl ⟨n, rfl, rfl⟩⟩)
  · obtain ⟨l, k⟩ := v.lay1 hr lp ld
    have pq := (k.tr (mKp_B2 m h1 MT LN)).q 0
    rcases hv with ⟨a, hv⟩ | ⟨a, hv⟩
    · exact bQ.q v hv pq (Or.inr ⟨c, Or.inr ⟨r, hr, rfl, m, h1, N, l, Or.inl ⟨a, rfl⟩, rfl⟩⟩)
    · exact bQ.q v hv pq (Or.inr ⟨c, Or.inr ⟨r, hr, rfl, m, h1, N, l, Or.inr ⟨a, rfl⟩, rfl⟩⟩)
theorem b_m_weakest (v : MV m h V M) (p to : Int32) : Ev w 7 0 0 yX10_weakest cX10_weakest 3 (some .int) [.ref m, .int p, .int to] h (bQ m (qQ V M (gat (atP V to) 1 (one (vNp V) p (smQ V (sWea (allF (nI (vNt V))) to (2 ^ vNt V))))))) := by
  obtain ⟨fw, ⟨v1, v2, v3⟩, -⟩ := id v
  refine Ev.to (e_m_weakest v1 p to) (fun r' h' hp => ?_)
  rcases hp with ⟨n, hr, rfl⟩ | ⟨c, n, hr, rfl⟩ | ⟨c, r, hr, rfl, h1, N, MT, LN, lp, ld, hv, rfl⟩
  · exact bQ.q v hr ((mKp.rf m h).q 1) (Or.inl ⟨n, rfl, rfl⟩)
  · exact bQ.q v hr ((mKp.rf m h).q 2) (Or.inr ⟨c, Or.inl ⟨n, rfl, rfl⟩⟩)
  · obtain ⟨l, k⟩ := v.lay1 hr lp ld
    exact bQ.q v hv ((k.tr (mKp_B2 m h1 MT LN)).q 0) (Or.inr ⟨c, Or.inr ⟨r, hr, rfl, m, h1, N, l, rfl, rfl⟩⟩)
theorem b_m_strongest (v : MV m h V M) (a p : Int32) : Ev w 7 0 0 yX10_strongest cX10_strongest 3 (some .int) [.ref m, .int a, .int p] h (bQ m (qQ V M (gat (atP V a) 1 (one (vNp V) p (smQ V (sStr a)))))) := by
  obtain ⟨fw, ⟨v1, v2, v3⟩, -⟩ := id v
  refine Ev.to (e_m_strongest v1 a p) (fun r' h' hp => ?_)
  rcases hp with ⟨n, hr, pq⟩ | ⟨c, n, hr, pq⟩ | ⟨c, r, hr, rfl, h1, N, L, l, hL, hv, pq⟩
  · exact bQ.q v hr pq (Or.inl ⟨n, rfl, rfl⟩)
  · exact bQ.q v hr pq (Or.inr ⟨c, Or.inl ⟨n, rfl, rfl⟩⟩)
  · rw [v.p1 hr] at l
    exact bQ.q v hv pq (Or.inr ⟨c, Or.inr ⟨r, hr, rfl, m, h1, N, l.r, ⟨L, hL, rfl⟩, rfl⟩⟩)
theorem b_m_keeps (v : MV m h V M) (p a : Int32) : Ev w 7 0 0 yX10_keeps cX10_keeps 5 (some .int) [.ref m, .int p, .int a] h (bQ m (qQ V M (gat (atP V a) 1 (one (vNp V) p (smQ V (sKee a (2 ^ vNt V))))))) := by
  obtain ⟨fw, ⟨v1, v2, v3⟩, -⟩ := id v
  refine Ev.to (e_m_keeps v1 p a) (fun r' h' hp => ?_)
  rcases hp with ⟨n, hr, pq⟩ | ⟨c, n, hr, pq⟩ | ⟨c, r, hr, rfl, h1, N, i, l, e, hv, pq⟩
  · exact bQ.q v hr pq (Or.inl ⟨n, rfl, rfl⟩)
  · exact bQ.q v hr pq (Or.inr ⟨c, Or.inl ⟨n, rfl, rfl⟩⟩)
  · rw [v.p1 hr] at l
    exact bQ.q v hv pq (Or.inr ⟨c, Or.inr ⟨r, hr, rfl, m, h1, N, l.r, ⟨i, e, rfl⟩, rfl⟩⟩)
end B8
