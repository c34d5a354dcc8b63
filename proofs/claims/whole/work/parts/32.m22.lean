/-! laysRests whole -/
theorem LD.gok {P : kP} {m : Nat} {h : HS} {N : Nat} (l : LD P m h N) : GOk m h N := by
  obtain ⟨l1, l2, l3, l4, l5, l6⟩ := l
  refine ⟨l1, by rw [l3.2.1, l4], fun e he => ?_⟩
  obtain ⟨q, -, q2⟩ := l5 e he
  rcases q2 with ⟨-, q2⟩ | ⟨k, j, v, -, q2, q3⟩
  · exact Or.inl q2
  · have := (List.getElem?_eq_some_iff.mp q2).1
    exact Or.inr ⟨j, by omega, q3⟩
theorem LU.u01 {m : Nat} {h : HS} {N : Nat} (l : LU m h N) : ∀ s, s < N → hI h (m + 13) s = 0 ∨ hI h (m + 13) s = 1 := fun s hs => by
  rcases l s hs with q | q
  · exact Or.inr q.1
  · exact Or.inl q.1
theorem allF_256 {t : Nat} (ht : t ≤ 3) : allF (nI t) &&& 256 = 0 := by
  rcases (show t = 0 ∨ t = 1 ∨ t = 2 ∨ t = 3 by omega) with rfl | rfl | rfl | rfl <;> decide
theorem kE1_m1 {P : kP} {t : Nat} (ht : t ≤ 3) (hP : P.1 = nI t) (key : Int64) : ¬ kE1 P key = -1 := by
  intro h
  have h2 : kE1 P key &&& 256 = 0 := by
    unfold kE1 kGd
    rw [hP, Int32.and_assoc, Int32.and_assoc, Int32.and_comm _ 256, ← Int32.and_assoc (allF (nI t)), allF_256 ht, Int32.zero_and, Int32.and_zero]
  rw [h] at h2
  exact absurd h2 (by decide)
/-- the heap once a program's record 92 was made plain -/
def hs92 (m : Nat) (h : HS) : HS := sF h (m + 1) (pRec (hI h (m + 1)) 92 (rPlain 0))
/-- behind laysRests: h1 behind laysOne, N states, R the rests -/
def rsP (m : Nat) (h : HS) (nf r : Nat) (h1 : HS) (N : Nat) (R : List (Nat × Nat)) (C1 RO : Nat → Int32) (h' : HS) : Prop :=
  LD (kOf m (hs92 m h) nf (hI h m 6) r 92) m h1 N ∧ LU m h1 N ∧ Fr3 h h1 ∧ hI h1 (m + 1) = fbR (hI h m 6) (hI (hs92 m h) (m + 1)) nf ∧ (∀ b j, ¬ layW m b j → hI h1 b j = hI h b j) ∧ (∀ b j, b ≠ m + 5 → hL h1 b j = hL h b j) ∧
  ∃ rp T CN RS RF, rfS m h1 N rp C1 ∧ rI N rp.length (hI h1 (m + 13)) C1 RO RS RF R ∧ (hI h1 (m + 13) 0 = 0 → R = []) ∧ (¬ hI h1 (m + 13) 0 = 0 → R = rbfs (rgo m h1) (Bis m h1) (24 * R.length)) ∧ h' = hR5 m (hC3 m h1 T CN C1) RO RS RF R.length
section M22
variable {w : gD} {m : Nat} {h : HS}
theorem e_m_laysRests (hm : mSh m h) {r nf t : Nat} {fw : Nat → Nat} (hF : mFa m h nf fw) (ht : t ≤ 3) (hte : hI h m 2 = nI t) (hr : r < 8) {wr : Nat} (lr : wr ≤ 6) (hwr : gRec (hI h (m + 1)) r 0 = nI wr) :
    Ev w 7 0 0 yX10_laysRests cX10_laysRests 6 none [.ref m, .int (nI r)] h (fun r' h' => r' = none ∧ ∃ h1 N R C1 RO, rsP m h nf r h1 N R C1 RO h') := by
  refine g_start (by decide) (Nat.le_of_ble_eq_true rfl) [(0, _), (1, _)] rfl (fun z hfl C => ?_)
  refine g_aload_n C (gd DX10_laysRests_0 0 rfl) 0 rfl rfl ?_
  refine g_iload_n C (gd DX10_laysRests_0 1 rfl) 1 rfl rfl ?_
  refine g_callV (ci := 10) C [_] mX10_laysOne lm_TestJudgeModel_396 (by exact hm.1) rfl rfl (e_m_laysOne hm hF hr lr hwr) hfl (by decide) (by decide) (by omega) (by omega) rfl rfl (Nat.le_of_ble_eq_true rfl) (gd DX10_laysRests_0 2 rfl) (fun r h2 hp => ?_)
  obtain ⟨rfl, N, hL, hU, hf, hrc, hb, hbL⟩ := hp
  have g := hL.gok
  have hm2 : mSh m h2 := mSh.fr (h := h) hm hf
  have hE : ∀ s, s < N → ¬ hI h2 (m + 8) s = -1 := fun s hs => by
    have hlen := hL.2.2.2.1
    rw [(hL.2.2.2.2.2 s _ (List.getElem?_eq_getElem (by omega))).1]
    exact kE1_m1 ht (by show hI (sF h (m + 1) _) m 2 = _; rw [hI_sF_ne (by omega)]; exact hte) _
  show GW z w 6 _ 0 0 _ _ [] _
  refine rests_a hfl C hm2 g hU.u01 hE _ (fun rp T CN C1 hrf => ?_)
  refine rests_b hfl C (h0 := h2) (by exact hm2) (g.congr (by rw [hC3_ne (by omega) (by omega) (by omega)]) (hC3_ne (by omega) (by omega) (by omega))) g hL.2.1 (hC3_ne (by omega) (by omega) (by omega)) (hC3_ne (by omega) (by omega) (by omega)) hC3_20 hrf _ _ (fun RO RS RF R h3 h4 h5 => ?_)
  refine ⟨h2, N, R, C1, RO, hL, hU, hf, hrc, fun b j hn => ?_, hbL, rp, T, CN, RS, RF, hrf, h3, h4, h5, rfl⟩
  rw [hb b j hn, hI_sF_ne (fun e => hn (Or.inl e))]
end M22
