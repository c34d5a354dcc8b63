/-! reading in the reference: if, while, bases; all of it -/
/-- three records, open and free while a base is read -/
def rdS (m : Nat) (h : HS) (tx : Nat → Nat) (n f j : Nat) (A B D : Nat → Int32) (x y : Nat) (h' : HS) : Prop := rdF m f h h' ∧ mTk m h' tx n j ∧ (Ag (gRec (hI h' (m + 1)) f) A ∧ Ag (gRec (hI h' (m + 1)) (f + 1)) B ∧ Ag (gRec (hI h' (m + 1)) (f + 2)) D) ∧ hI h' m 26 = nI x ∧ hI h' m 25 = nI y
section RS
variable {m : Nat} {h h' : HS} {tx : Nat → Nat} {n f j x y : Nat} {A B D : Nat → Int32}
theorem rdS.rc0 (s : rdS m h tx n f j A B D x y h') (R : Nat → Int32) : rdS m h tx n f j R B D x y (hRc m h' f R) := ⟨s.1.tr (rdF.rc (Nat.le_refl f)), s.2.1.rc, ⟨hRc_at, (hRc_o (by omega)).tr s.2.2.1.2.1, (hRc_o (by omega)).tr s.2.2.1.2.2⟩, by rw [hRc_m]; exact s.2.2.2.1, by rw [hRc_m]; exact s.2.2.2.2⟩
theorem rdS.rc1 (s : rdS m h tx n f j A B D x y h') (R : Nat → Int32) : rdS m h tx n f j A R D x y (hRc m h' (f + 1) R) := ⟨s.1.tr (rdF.rc (by omega)), s.2.1.rc, ⟨(hRc_o (by omega)).tr s.2.2.1.1, hRc_at, (hRc_o (by omega)).tr s.2.2.1.2.2⟩, by rw [hRc_m]; exact s.2.2.2.1, by rw [hRc_m]; exact s.2.2.2.2⟩
theorem rdS.rc2 (s : rdS m h tx n f j A B D x y h') (R : Nat → Int32) : rdS m h tx n f j A B R x y (hRc m h' (f + 2) R) := ⟨s.1.tr (rdF.rc (by omega)), s.2.1.rc, ⟨(hRc_o (by omega)).tr s.2.2.1.1, (hRc_o (by omega)).tr s.2.2.1.2.1, hRc_at⟩, by rw [hRc_m]; exact s.2.2.2.1, by rw [hRc_m]; exact s.2.2.2.2⟩
theorem rdS.o (s : rdS m h tx n f j A B D x y h') (v : Nat) : rdS m h tx n f j A B D v y (sI h' m 26 (nI v)) := ⟨s.1.tr (rdF.i (by omega) (by omega)), s.2.1.i (by omega), by rw [sR_rec, sR_rec, sR_rec]; exact s.2.2.1, by rw [hI_sI, if_pos ⟨rfl, rfl⟩], by rw [hI_sI, if_neg (by omega)]; exact s.2.2.2.2⟩
theorem rdS.fr (s : rdS m h tx n f j A B D x y h') (v : Nat) : rdS m h tx n f j A B D x v (sI h' m 25 (nI v)) := ⟨s.1.tr (rdF.i (by omega) (by omega)), s.2.1.i (by omega), by rw [sR_rec, sR_rec, sR_rec]; exact s.2.2.1, by rw [hI_sI, if_neg (by omega)]; exact s.2.2.2.1, by rw [hI_sI, if_pos ⟨rfl, rfl⟩]⟩
theorem rdS.a (s : rdS m h tx n f j A B D x y h') {A' : Nat → Int32} (e : Ag A A') : rdS m h tx n f j A' B D x y h' := ⟨s.1, s.2.1, ⟨s.2.2.1.1.tr e, s.2.2.1.2⟩, s.2.2.2⟩
theorem rdS.b (s : rdS m h tx n f j A B D x y h') {B' : Nat → Int32} (e : Ag B B') : rdS m h tx n f j A B' D x y h' := ⟨s.1, s.2.1, ⟨s.2.2.1.1, s.2.2.1.2.1.tr e, s.2.2.1.2.2⟩, s.2.2.2⟩
theorem rdS.d (s : rdS m h tx n f j A B D x y h') {D' : Nat → Int32} (e : Ag D D') : rdS m h tx n f j A B D' x y h' := ⟨s.1, s.2.1, ⟨s.2.2.1.1, s.2.2.1.2.1, s.2.2.1.2.2.tr e⟩, s.2.2.2⟩
theorem rdS.ok (s : rdS m h tx n f j A B D x (f + 1) h') {a : Nat} : rdP m h tx n f x (.inr (j, (a, A))) (some (.int 1)) h' := ⟨s.1, rfl, s.2.1, s.2.2.2.1, s.2.2.2.2, s.2.2.1.1⟩
end RS
section M54
variable {w : gD} {m : Nat} {tx : Nat → Nat} {n c nt na np : Nat} {W : Nat → Nat} {PR : Nat → pR}
theorem rd_bad {h h1 : HS} {f o k j : Nat} (fr : rdF m f h h1) : rdP m h tx n f o (.inl (k, j)) (some (.int 0)) (sI (sI h1 m 23 (nI k)) m 24 (nI (plT tx n j))) := by
  refine ⟨(fr.g.tr (rdG.i (by omega) (by omega))).tr (rdG.i (by omega) (by omega)), rfl, ?_, ?_⟩
  · rw [hI_sI, if_neg (by omega), hI_sI, if_pos ⟨rfl, rfl⟩]
  · rw [hI_sI, if_pos ⟨rfl, rfl⟩]
section Nd
variable {h : HS} {j : Nat}
theorem e_t_needs (si : gSI w) (hm : mSh m h) (T : mTk m h tx n j) (p : Prop) [Decidable p] : Ev w 7 0 0 yX10_needs cX10_needs 2 (some .boolean) [.ref m, .int (b1 p)] h (fun r' h' => (p ∧ r' = some (.int 1) ∧ nxF m h h' ∧ mTk m h' tx n (j + 1)) ∨ (¬ p ∧ r' = some (.int 0) ∧ h' = sI (sI h m 23 (nI (if cdT tx n j = 1 then 1 else 2))) m 24 (nI (plT tx n j)))) := by
  refine g_start (by decide) (Nat.le_of_ble_eq_true rfl) [(0, _), (1, _)] rfl (fun z hfl C => ?_)
  by_cases e : p
  · rw [b1_t e]
    refine g_iload_n C (gd DX10_needs_0 0 rfl) 1 rfl rfl ?_
    refine g_if_eq C 11 (gd DX10_needs_0 1 rfl) (by decide) (fun c1 => ?_) (fun c1 => ?_)
    · exact absurd c1 (by decide)
    · refine g_aload_n C (gd DX10_needs_0 2 rfl) 0 rfl rfl ?_
      refine g_callV (ci := 10) C [] mX10_goes lm_TestJudgeModel_215 (by exact hm.1) rfl rfl (e_t_goes si hm T) hfl (by first | decide | omega) (by decide) (by omega) (by omega) rfl rfl (Nat.le_of_ble_eq_true rfl) (gd DX10_needs_0 3 rfl) (fun r h2 hp => ?_)
      obtain ⟨rfl, a1, a2⟩ := hp
      show GW z w 2 _ 0 0 _ _ [.int 1] _
      refine g_goto (tgt := 16) C (gd DX10_needs_0 4 rfl) (by decide) ?_
      exact g_zret C (by decide) (by omega) (by omega) (Or.inl ⟨e, rfl, a1, a2⟩) (gd DX10_needs_0 8 rfl)
  · rw [b1_f e]
    refine g_iload_n C (gd DX10_needs_0 0 rfl) 1 rfl rfl ?_
    refine g_if_eq C 11 (gd DX10_needs_0 1 rfl) (by decide) (fun c1 => ?_) (fun c1 => ?_)
    · refine g_aload_n C (gd DX10_needs_0 5 rfl) 0 rfl rfl ?_
      refine g_iconst (v := 2) C (gd DX10_needs_0 6 rfl) (by decide) ?_
      refine g_cV1 (ci := 10) C [_] mX10_bad lm_TestJudgeModel_219 (by exact hm.1) rfl rfl (e_t_bad hm T 2) hfl (by first | decide | omega) (by decide) (by omega) (by omega) rfl rfl (Nat.le_of_ble_eq_true rfl) (gd DX10_needs_0 7 rfl) ?_
      exact g_zret C (by decide) (by omega) (by omega) (Or.inr ⟨e, rfl, rfl⟩) (gd DX10_needs_0 8 rfl)
    · exact absurd rfl c1
end Nd
theorem rd_if (si : gSI w) (hc : ∀ j, j < c → cdT tx n j ≠ 0 → j + 1 < c) (hc5 : c ≤ 501) {F : Nat} (hS : cRS w m tx n c nt na np W PR F) {h : HS} {o f j : Nat} {acc : pR} {r : pRz} (hm : mSh m h) (N : rdN m h nt na np W PR) (T : mTk m h tx n j) (ho : hI h m 26 = nI o) (ho4 : o ≤ 4) (hf : hI h m 25 = nI f) (h22 : 22 ≤ f) (hcap : f + 5 + 4 * (4 - o) < 102) (hj : j < c) (hF : 8 * (c - j) < F + 1) (hcd : cdT tx n j = 294) (hz : pz (envT tx n nt na np W PR) (F + 1) 0 o j acc = some r) : Ev w (9 + 5 * (4 - o)) 0 0 yX10_readIf cX10_readIf 3 (some .boolean) [.ref m] h (rdP m h tx n f o r) := by
  refine g_start (by decide) (Nat.le_of_ble_eq_true rfl) [(0, _)] rfl (fun z hfl C => ?_)
  have no : ∀ h', rdP m h tx n f o r (some (.int 0)) h' → GW z w 3 (gQ z w 0 0 (fun r' h'' => rdP m h tx n f o r r' h'')) 0 0 27 [(0, .ref m), (1, .int (nI f))] [] h' := by
    intro h' q
    refine g_iconst (v := 0) C (gd DX10_readIf_0 13 rfl) (by decide) ?_
    exact g_zret C (by decide) (by omega) (by omega) q (gd DX10_readIf_0 14 rfl)
  have hj1 := hc j hj (by omega)
  refine g_aload_n C (gd DX10_readIf_0 0 rfl) 0 rfl rfl ?_
  refine g_geti (ci := 10) (k := 25) C rfl (by decide) rfl lf_TestJudgeModel_234 hm.1 (gd DX10_readIf_0 1 rfl) ?_
  rw [hf]
  refine g_istore_n (lv' := [(0, _), (1, _)]) C (gd DX10_readIf_0 2 rfl) [1, 0] rfl (by decide) rfl ?_
  refine g_aload_n C (gd DX10_readIf_0 3 rfl) 0 rfl rfl ?_
  refine g_callV (ci := 10) C [] mX10_opens lm_TestJudgeModel_279 (by exact hm.1) rfl rfl (e_t_opens si hm T ho ho4) hfl (by first | decide | omega) (by decide) (by omega) (by omega) rfl rfl (Nat.le_of_ble_eq_true rfl) (gd DX10_readIf_0 4 rfl) (fun r h2 hp => ?_)
  rcases hp with ⟨e4, rfl, rfl⟩ | ⟨e4, rfl, h1, a1, a2, rfl⟩
  · rw [pz_o4 (Or.inr (Or.inr (Or.inl hcd))) e4] at hz
    cases some_inj_r hz
    show GW z w 3 _ 0 0 _ _ [.int 0] _
    refine g_if_eq C 27 (gd DX10_readIf_0 5 rfl) (by decide) (fun c9 => ?_) (fun c9 => ?_)
    · exact no _ (rd_bad (rdF.rf m f h))
    · exact absurd rfl c9
  rw [pz_if hcd e4] at hz
  have fr1 : rdF m f h (sI h1 m 26 (nI (o + 1))) := (rdF.nx a1).tr (rdF.i (by omega) (by omega))
  have o1 : hI (sI h1 m 26 (nI (o + 1))) m 26 = nI (o + 1) := by rw [hI_sI, if_pos ⟨rfl, rfl⟩]
  have f1 : hI (sI h1 m 26 (nI (o + 1))) m 25 = nI f := by rw [hI_sI, if_neg (by omega), a1.2.1 m 25 (by omega)]; exact hf
  have T1 : mTk m (sI h1 m 26 (nI (o + 1))) tx n (j + 1) := a2.i (by omega)
  generalize sI h1 m 26 (nI (o + 1)) = g1 at fr1 o1 f1 T1 ⊢
  have hm1 := fr1.sh hm
  have N1 := N.fr fr1 h22
  obtain ⟨r1, hr1, ok1⟩ := pz_tot (E := envT tx n nt na np W PR) hc N.nm F 4 (o + 1) (j + 1) acc (by omega) hj1 (show 8 * (c - (j + 1)) + 3 < F by omega) (fun q => by omega)
  rw [hr1] at hz
  show GW z w 3 _ 0 0 _ _ [.int 1] _
  refine g_if_eq C 27 (gd DX10_readIf_0 5 rfl) (by decide) (fun c9 => ?_) (fun c9 => ?_)
  · exact absurd c9 (by decide)
  refine g_aload_n C (gd DX10_readIf_0 6 rfl) 0 rfl rfl ?_
  refine g_callV (ci := 10) C [] mX10_readSum lm_TestJudgeModel_285 (by exact hm1.1) rfl rfl (hS g1 (o + 1) f (j + 1) acc r1 hm1 N1 T1 o1 (by omega) f1 h22 (by omega) hj1 (by omega) hr1) hfl (by first | decide | omega) (by decide) (by omega) (by omega) rfl rfl (Nat.le_of_ble_eq_true rfl) (gd DX10_readIf_0 7 rfl) (fun r g2 hp => ?_)
  rcases r1 with x | ⟨j1, t⟩
  · obtain ⟨q1, rfl, q2, q3⟩ := hp
    cases some_inj_r (show some (Sum.inl x) = some r from hz)
    show GW z w 3 _ 0 0 _ _ [.int 0] _
    refine g_if_eq C 27 (gd DX10_readIf_0 8 rfl) (by decide) (fun c16 => ?_) (fun c16 => ?_)
    · exact no _ ⟨fr1.g.tr q1, rfl, q2, q3⟩
    · exact absurd rfl c16
  obtain ⟨q1, rfl, T2, o2, f2, g2a⟩ := hp
  obtain ⟨x1, x2, x3, x4, x5⟩ := ok1
  have x3' := x3 (Or.inr (Or.inr (Or.inl rfl)))
  rw [if_neg (by omega)] at x5
  dsimp only at x1 x2 x3' x4 x5 T2 g2a
  have fr2 := fr1.tr q1
  have hm2 := fr2.sh hm
  have N2 := N.fr fr2 h22
  change (if t.1 ≠ 0 then _ else _) = some r at hz
  show GW z w 3 _ 0 0 _ _ [.int 1] _
  refine g_if_eq C 27 (gd DX10_readIf_0 8 rfl) (by decide) (fun c16 => ?_) (fun c16 => ?_)
  · exact absurd c16 (by decide)
  refine g_aload_n C (gd DX10_readIf_0 9 rfl) 0 rfl rfl ?_
  refine g_iload_n C (gd DX10_readIf_0 10 rfl) 1 rfl rfl ?_
  refine g_cV1 (ci := 10) C [_] mX10_isPlain lm_TestJudgeModel_282 (by exact hm2.1) rfl rfl (e_t_plain hm2 T2 (t := f) (a := t.1) (by omega) (by rw [g2a 0 (by omega)]; exact x4.1) (by omega)) hfl (by first | decide | omega) (by decide) (by omega) (by omega) rfl rfl (Nat.le_of_ble_eq_true rfl) (gd DX10_readIf_0 11 rfl) ?_
  by_cases et : t.1 = 0
  rotate_left
  · rw [b1_f et, if_neg et]
    rw [if_pos et] at hz
    cases some_inj_r hz
    refine g_if_ne C 29 (gd DX10_readIf_0 12 rfl) (by decide) (fun c24 => ?_) (fun c24 => ?_)
    · exact absurd rfl c24
    · exact no _ (rd_bad (k := 5) fr2)
  rw [b1_t et, if_pos et]
  rw [if_neg (fun q => q et)] at hz
  change (if cdT tx n j1 ≠ 663726 then _ else _) = some r at hz
  refine g_if_ne C 29 (gd DX10_readIf_0 12 rfl) (by decide) (fun c24 => ?_) (fun c24 => ?_)
  rotate_left
  · exact absurd c24 (by decide)
  refine g_aload_n C (gd DX10_readIf_0 15 rfl) 0 rfl rfl ?_
  refine g_aload_n C (gd DX10_readIf_0 16 rfl) 0 rfl rfl ?_
  refine g_iconst (v := 5) C (gd DX10_readIf_0 17 rfl) (by decide) ?_
  refine g_cV1 (ci := 10) C [_] mX10_isWord lm_TestJudgeModel_252 (by exact hm2.1) rfl rfl (e_t_word hm2 T2 (i := 5) (c := 663726) (by decide) rfl) hfl (by first | decide | omega) (by decide) (by omega) (by omega) rfl rfl (Nat.le_of_ble_eq_true rfl) (gd DX10_readIf_0 18 rfl) ?_
  refine g_callV (ci := 10) C [_] mX10_needs lm_TestJudgeModel_288 (by exact hm2.1) rfl rfl (e_t_needs si hm2 T2 (cdT tx n j1 = 663726)) hfl (by first | decide | omega) (by decide) (by omega) (by omega) rfl rfl (Nat.le_of_ble_eq_true rfl) (gd DX10_readIf_0 19 rfl) (fun r g3 hp => ?_)
  rcases hp with ⟨ec, rfl, b1, T3⟩ | ⟨ec, rfl, rfl⟩
  rotate_left
  · rw [if_pos ec] at hz
    cases some_inj_r hz
    show GW z w 3 _ 0 0 _ _ [.int 0] _
    refine g_if_eq C 48 (gd DX10_readIf_0 20 rfl) (by decide) (fun c38 => ?_) (fun c38 => ?_)
    · refine g_iconst (v := 0) C (gd DX10_readIf_0 24 rfl) (by decide) ?_
      exact g_zret C (by decide) (by omega) (by omega) (rd_bad fr2) (gd DX10_readIf_0 25 rfl)
    · exact absurd rfl c38
  rw [if_neg (fun q => q ec)] at hz
  have hj2 := hc j1 x2 (by omega)
  have fr3 := fr2.tr (rdF.nx b1)
  have hm3 := fr3.sh hm
  have N3 := N.fr fr3 h22
  have o3 : hI g3 m 26 = nI (o + 1) := by rw [b1.2.1 m 26 (by omega)]; exact o2
  have f3 : hI g3 m 25 = nI (f + 1) := by rw [b1.2.1 m 25 (by omega)]; exact f2
  have g3a : Ag (gRec (hI g3 (m + 1)) f) t.2 := by rw [show hI g3 (m + 1) = hI g2 (m + 1) from funext fun k => b1.2.1 (m + 1) k (by omega)]; exact g2a
  obtain ⟨r2, hr2, ok2⟩ := pz_tot (E := envT tx n nt na np W PR) hc N.nm F 4 (o + 1) (j1 + 1) acc (by omega) hj2 (show 8 * (c - (j1 + 1)) + 3 < F by omega) (fun q => by omega)
  rw [hr2] at hz
  show GW z w 3 _ 0 0 _ _ [.int 1] _
  refine g_if_eq C 48 (gd DX10_readIf_0 20 rfl) (by decide) (fun c38 => ?_) (fun c38 => ?_)
  · exact absurd c38 (by decide)
  refine g_aload_n C (gd DX10_readIf_0 21 rfl) 0 rfl rfl ?_
  refine g_callV (ci := 10) C [] mX10_readSum lm_TestJudgeModel_285 (by exact hm3.1) rfl rfl (hS g3 (o + 1) (f + 1) (j1 + 1) acc r2 hm3 N3 T3 o3 (by omega) f3 (by omega) (by omega) hj2 (by omega) hr2) hfl (by first | decide | omega) (by decide) (by omega) (by omega) rfl rfl (Nat.le_of_ble_eq_true rfl) (gd DX10_readIf_0 22 rfl) (fun r g4 hp => ?_)
  rcases r2 with x | ⟨j2, u⟩
  · obtain ⟨q1, rfl, q2, q3⟩ := hp
    cases some_inj_r (show some (Sum.inl x) = some r from hz)
    show GW z w 3 _ 0 0 _ _ [.int 0] _
    refine g_if_ne C 50 (gd DX10_readIf_0 23 rfl) (by decide) (fun c45 => ?_) (fun c45 => ?_)
    · exact absurd rfl c45
    · refine g_iconst (v := 0) C (gd DX10_readIf_0 24 rfl) (by decide) ?_
      exact g_zret C (by decide) (by omega) (by omega) ⟨fr3.g.tr (q1.le (by omega)), rfl, q2, q3⟩ (gd DX10_readIf_0 25 rfl)
  obtain ⟨q4, rfl, T4, o4, f4, g4b⟩ := hp
  obtain ⟨y1, y2, y3, y4, y5⟩ := ok2
  have y3' := y3 (Or.inr (Or.inr (Or.inl rfl)))
  rw [if_neg (by omega)] at y5
  dsimp only at y1 y2 y3' y4 y5 T4 g4b
  have fr4 := fr3.tr (q4.le (by omega : f ≤ f + 1))
  have hm4 := fr4.sh hm
  have N4 := N.fr fr4 h22
  have g4a : Ag (gRec (hI g4 (m + 1)) f) t.2 := (q4.rec (by omega)).tr g3a
  change (if cdT tx n j2 ≠ 176741 then _ else _) = some r at hz
  show GW z w 3 _ 0 0 _ _ [.int 1] _
  refine g_if_ne C 50 (gd DX10_readIf_0 23 rfl) (by decide) (fun c45 => ?_) (fun c45 => ?_)
  rotate_left
  · exact absurd c45 (by decide)
  refine g_aload_n C (gd DX10_readIf_0 26 rfl) 0 rfl rfl ?_
  refine g_aload_n C (gd DX10_readIf_0 27 rfl) 0 rfl rfl ?_
  refine g_bipush (v := 6) C (gd DX10_readIf_0 28 rfl) (by decide) ?_
  refine g_cV1 (ci := 10) C [_] mX10_isWord lm_TestJudgeModel_252 (by exact hm4.1) rfl rfl (e_t_word hm4 T4 (i := 6) (c := 176741) (by decide) rfl) hfl (by first | decide | omega) (by decide) (by omega) (by omega) rfl rfl (Nat.le_of_ble_eq_true rfl) (gd DX10_readIf_0 29 rfl) ?_
  refine g_callV (ci := 10) C [_] mX10_needs lm_TestJudgeModel_288 (by exact hm4.1) rfl rfl (e_t_needs si hm4 T4 (cdT tx n j2 = 176741)) hfl (by first | decide | omega) (by decide) (by omega) (by omega) rfl rfl (Nat.le_of_ble_eq_true rfl) (gd DX10_readIf_0 30 rfl) (fun r g5 hp => ?_)
  rcases hp with ⟨ec2, rfl, b2, T5⟩ | ⟨ec2, rfl, rfl⟩
  rotate_left
  · rw [if_pos ec2] at hz
    cases some_inj_r hz
    show GW z w 3 _ 0 0 _ _ [.int 0] _
    refine g_if_eq C 70 (gd DX10_readIf_0 31 rfl) (by decide) (fun c60 => ?_) (fun c60 => ?_)
    · refine g_iconst (v := 0) C (gd DX10_readIf_0 35 rfl) (by decide) ?_
      exact g_zret C (by decide) (by omega) (by omega) (rd_bad fr4) (gd DX10_readIf_0 36 rfl)
    · exact absurd rfl c60
  rw [if_neg (fun q => q ec2)] at hz
  have hj3 := hc j2 y2 (by omega)
  have fr5 := fr4.tr (rdF.nx b2)
  have hm5 := fr5.sh hm
  have N5 := N.fr fr5 h22
  have o5 : hI g5 m 26 = nI (o + 1) := by rw [b2.2.1 m 26 (by omega)]; exact o4
  have f5 : hI g5 m 25 = nI (f + 2) := by rw [b2.2.1 m 25 (by omega)]; exact f4
  have g5a : Ag (gRec (hI g5 (m + 1)) f) t.2 := by rw [show hI g5 (m + 1) = hI g4 (m + 1) from funext fun k => b2.2.1 (m + 1) k (by omega)]; exact g4a
  have g5b : Ag (gRec (hI g5 (m + 1)) (f + 1)) u.2 := by rw [show hI g5 (m + 1) = hI g4 (m + 1) from funext fun k => b2.2.1 (m + 1) k (by omega)]; exact g4b
  obtain ⟨r3, hr3, ok3⟩ := pz_tot (E := envT tx n nt na np W PR) hc N.nm F 4 (o + 1) (j2 + 1) acc (by omega) hj3 (show 8 * (c - (j2 + 1)) + 3 < F by omega) (fun q => by omega)
  rw [hr3] at hz
  show GW z w 3 _ 0 0 _ _ [.int 1] _
  refine g_if_eq C 70 (gd DX10_readIf_0 31 rfl) (by decide) (fun c60 => ?_) (fun c60 => ?_)
  · exact absurd c60 (by decide)
  refine g_aload_n C (gd DX10_readIf_0 32 rfl) 0 rfl rfl ?_
  refine g_callV (ci := 10) C [] mX10_readSum lm_TestJudgeModel_285 (by exact hm5.1) rfl rfl (hS g5 (o + 1) (f + 2) (j2 + 1) acc r3 hm5 N5 T5 o5 (by omega) f5 (by omega) (by omega) hj3 (by omega) hr3) hfl (by first | decide | omega) (by decide) (by omega) (by omega) rfl rfl (Nat.le_of_ble_eq_true rfl) (gd DX10_readIf_0 33 rfl) (fun r g6 hp => ?_)
  rcases r3 with x | ⟨j3, v⟩
  · obtain ⟨q1, rfl, q2, q3⟩ := hp
    cases some_inj_r (show some (Sum.inl x) = some r from hz)
    show GW z w 3 _ 0 0 _ _ [.int 0] _
    refine g_if_ne C 72 (gd DX10_readIf_0 34 rfl) (by decide) (fun c67 => ?_) (fun c67 => ?_)
    · exact absurd rfl c67
    · refine g_iconst (v := 0) C (gd DX10_readIf_0 35 rfl) (by decide) ?_
      exact g_zret C (by decide) (by omega) (by omega) ⟨fr5.g.tr (q1.le (by omega)), rfl, q2, q3⟩ (gd DX10_readIf_0 36 rfl)
  obtain ⟨q6, rfl, T6, o6, f6, g6d⟩ := hp
  obtain ⟨z1, z2, z3, z4, z5⟩ := ok3
  have z3' := z3 (Or.inr (Or.inr (Or.inl rfl)))
  rw [if_neg (by omega)] at z5
  dsimp only at z1 z2 z3' z4 z5 T6 g6d
  have fr6 := fr5.tr (q6.le (by omega : f ≤ f + 2))
  have hm6 := fr6.sh hm
  have N6 := N.fr fr6 h22
  have g6a : Ag (gRec (hI g6 (m + 1)) f) t.2 := (q6.rec (by omega)).tr g5a
  have g6b : Ag (gRec (hI g6 (m + 1)) (f + 1)) u.2 := (q6.rec (by omega)).tr g5b
  change (if cdT tx n j3 ≠ 5572 then _ else _) = some r at hz
  show GW z w 3 _ 0 0 _ _ [.int 1] _
  refine g_if_ne C 72 (gd DX10_readIf_0 34 rfl) (by decide) (fun c67 => ?_) (fun c67 => ?_)
  rotate_left
  · exact absurd c67 (by decide)
  refine g_aload_n C (gd DX10_readIf_0 37 rfl) 0 rfl rfl ?_
  refine g_aload_n C (gd DX10_readIf_0 38 rfl) 0 rfl rfl ?_
  refine g_bipush (v := 9) C (gd DX10_readIf_0 39 rfl) (by decide) ?_
  refine g_cV1 (ci := 10) C [_] mX10_isWord lm_TestJudgeModel_252 (by exact hm6.1) rfl rfl (e_t_word hm6 T6 (i := 9) (c := 5572) (by decide) rfl) hfl (by first | decide | omega) (by decide) (by omega) (by omega) rfl rfl (Nat.le_of_ble_eq_true rfl) (gd DX10_readIf_0 40 rfl) ?_
  refine g_callV (ci := 10) C [_] mX10_needs lm_TestJudgeModel_288 (by exact hm6.1) rfl rfl (e_t_needs si hm6 T6 (cdT tx n j3 = 5572)) hfl (by first | decide | omega) (by decide) (by omega) (by omega) rfl rfl (Nat.le_of_ble_eq_true rfl) (gd DX10_readIf_0 41 rfl) (fun r g7 hp => ?_)
  rcases hp with ⟨ec3, rfl, b3, T7⟩ | ⟨ec3, rfl, rfl⟩
  rotate_left
  · rw [if_pos ec3] at hz
    cases some_inj_r hz
    show GW z w 3 _ 0 0 _ _ [.int 0] _
    refine g_if_ne C 87 (gd DX10_readIf_0 42 rfl) (by decide) (fun c82 => ?_) (fun c82 => ?_)
    · exact absurd rfl c82
    · refine g_iconst (v := 0) C (gd DX10_readIf_0 43 rfl) (by decide) ?_
      exact g_zret C (by decide) (by omega) (by omega) (rd_bad fr6) (gd DX10_readIf_0 44 rfl)
  rw [if_neg (fun q => q ec3)] at hz
  cases some_inj_r hz
  have er : hI g7 (m + 1) = hI g6 (m + 1) := funext fun k => b3.2.1 (m + 1) k (by omega)
  have s7 : rdS m h tx n f (j3 + 1) t.2 u.2 v.2 (o + 1) (f + 3) g7 := ⟨fr6.tr (rdF.nx b3), T7, by rw [er]; exact ⟨g6a, g6b, g6d⟩, by rw [b3.2.1 m 26 (by omega)]; exact o6, by rw [b3.2.1 m 25 (by omega)]; exact f6⟩
  have hm7 := s7.1.sh hm
  show GW z w 3 _ 0 0 _ _ [.int 1] _
  refine g_if_ne C 87 (gd DX10_readIf_0 42 rfl) (by decide) (fun c82 => ?_) (fun c82 => ?_)
  rotate_left
  · exact absurd c82 (by decide)
  refine g_aload_n C (gd DX10_readIf_0 45 rfl) 0 rfl rfl ?_
  refine g_dup C (gd DX10_readIf_0 46 rfl) rfl ?_
  refine g_geti (ci := 10) (k := 26) C rfl (by decide) rfl lf_TestJudgeModel_273 hm7.1 (gd DX10_readIf_0 47 rfl) ?_
  rw [s7.2.2.2.1]
  refine g_iconst (v := 1) C (gd DX10_readIf_0 48 rfl) (by decide) ?_
  refine g_isub C (gd DX10_readIf_0 49 rfl) ?_
  rw [show nI (o + 1) - 1 = nI o from nx_sub (a := o + 1) (b := 1) rfl rfl (by omega)]
  refine g_puti (ci := 10) (k := 26) C rfl (by decide) rfl lf_TestJudgeModel_273 hm7.1 (Or.inl rfl) rfl (gd DX10_readIf_0 50 rfl) ?_
  have s8 := s7.o o
  generalize sI g7 m 26 (nI o) = g8 at s8 ⊢
  have hm8 := s8.1.sh hm
  have N8 := N.fr s8.1 h22
  refine g_aload_n C (gd DX10_readIf_0 51 rfl) 0 rfl rfl ?_
  refine g_iload_n C (gd DX10_readIf_0 52 rfl) 1 rfl rfl ?_
  refine g_iconst (v := 1) C (gd DX10_readIf_0 53 rfl) (by decide) ?_
  refine g_cV1 (ci := 10) C [_, _] mX10_at lm_TestJudgeModel_131 (by exact hm8.1) rfl rfl (e_m_at hm8 (j := 307 * f + 1) (r_ix f 1) (by omega)) hfl (by first | decide | omega) (by decide) (by omega) (by omega) rfl rfl (Nat.le_of_ble_eq_true rfl) (gd DX10_readIf_0 54 rfl) ?_
  rw [show hI g8 (m + 1) (307 * f + 1) = t.2 1 from s8.2.2.1.1 1 (by omega)]
  refine g_istore_n (lv' := [(0, _), (1, _), (2, _)]) C (gd DX10_readIf_0 55 rfl) [1, 2, 0] rfl (by decide) rfl ?_
  refine g_aload_n C (gd DX10_readIf_0 56 rfl) 0 rfl rfl ?_
  refine g_iload_n C (gd DX10_readIf_0 57 rfl) 1 rfl rfl ?_
  refine g_iconst (v := 1) C (gd DX10_readIf_0 58 rfl) (by decide) ?_
  refine g_iadd C (gd DX10_readIf_0 59 rfl) ?_
  rw [show nI f + 1 = nI (f + 1) from nx_add (b := 1) rfl rfl]
  refine g_iload_n C (gd DX10_readIf_1 0 rfl) 2 rfl rfl ?_
  refine g_cV0 (v := .null) (ci := 10) C [_, _] mX10_begins lm_TestJudgeModel_304 (by exact hm8.1) rfl rfl (e_v_begins hm8 (t := f + 1) (a := u.1) (by omega) (by rw [s8.2.2.1.2.1 0 (by omega)]; exact y4.1) (by omega) _) hfl (by first | decide | omega) (by decide) (by omega) (by omega) rfl rfl (Nat.le_of_ble_eq_true rfl) (gd DX10_readIf_1 1 rfl) ?_
  have s9 := (s8.rc1 (rBegins (gRec (hI g8 (m + 1)) (f + 1)) u.1 (t.2 1))).b (rBegins_ag s8.2.2.1.2.1 _ _)
  generalize hRc m g8 (f + 1) (rBegins (gRec (hI g8 (m + 1)) (f + 1)) u.1 (t.2 1)) = g9 at s9 ⊢
  have hm9 := s9.1.sh hm
  have N9 := N.fr s9.1 h22
  refine g_aload_n C (gd DX10_readIf_1 2 rfl) 0 rfl rfl ?_
  refine g_iload_n C (gd DX10_readIf_1 3 rfl) 1 rfl rfl ?_
  refine g_iconst (v := 2) C (gd DX10_readIf_1 4 rfl) (by decide) ?_
  refine g_iadd C (gd DX10_readIf_1 5 rfl) ?_
  rw [show nI f + 2 = nI (f + 2) from nx_add (b := 2) rfl rfl]
  refine g_aload_n C (gd DX10_readIf_1 6 rfl) 0 rfl rfl ?_
  refine g_cV1 (ci := 10) C [] mX10_all lm_TestJudgeModel_267 (by exact hm9.1) rfl rfl (e_m_all hm9) hfl (by first | decide | omega) (by decide) (by omega) (by omega) rfl rfl (Nat.le_of_ble_eq_true rfl) (gd DX10_readIf_1 7 rfl) ?_
  rw [N9.2.1.1]
  refine g_iload_n C (gd DX10_readIf_1 8 rfl) 2 rfl rfl ?_
  refine g_iconst (v := -1) C (gd DX10_readIf_1 9 rfl) (by decide) ?_
  refine g_ixor C (gd DX10_readIf_1 10 rfl) ?_
  refine g_iand C (gd DX10_readIf_1 11 rfl) ?_
  refine g_cV0 (v := .null) (ci := 10) C [_, _] mX10_begins lm_TestJudgeModel_304 (by exact hm9.1) rfl rfl (e_v_begins hm9 (t := f + 2) (a := v.1) (by omega) (by rw [s9.2.2.1.2.2 0 (by omega)]; exact z4.1) (by omega) _) hfl (by first | decide | omega) (by decide) (by omega) (by omega) rfl rfl (Nat.le_of_ble_eq_true rfl) (gd DX10_readIf_1 12 rfl) ?_
  have s10 := (s9.rc2 (rBegins (gRec (hI g9 (m + 1)) (f + 2)) v.1 (allF (nI nt) &&& (t.2 1 ^^^ -1)))).d (rBegins_ag s9.2.2.1.2.2 _ _)
  generalize hRc m g9 (f + 2) (rBegins (gRec (hI g9 (m + 1)) (f + 2)) v.1 (allF (nI nt) &&& (t.2 1 ^^^ -1))) = g10 at s10 ⊢
  have hm10 := s10.1.sh hm
  refine g_aload_n C (gd DX10_readIf_1 13 rfl) 0 rfl rfl ?_
  refine g_iload_n C (gd DX10_readIf_1 14 rfl) 1 rfl rfl ?_
  refine g_iconst (v := 1) C (gd DX10_readIf_1 15 rfl) (by decide) ?_
  refine g_iadd C (gd DX10_readIf_1 16 rfl) ?_
  rw [show nI f + 1 = nI (f + 1) from nx_add (b := 1) rfl rfl]
  refine g_iload_n C (gd DX10_readIf_1 17 rfl) 1 rfl rfl ?_
  refine g_iconst (v := 2) C (gd DX10_readIf_1 18 rfl) (by decide) ?_
  refine g_iadd C (gd DX10_readIf_1 19 rfl) ?_
  rw [show nI f + 2 = nI (f + 2) from nx_add (b := 2) rfl rfl]
  refine g_iload_n C (gd DX10_readIf_1 20 rfl) 1 rfl rfl ?_
  refine g_cV0 (v := .null) (ci := 10) C [_, _, _] mX10_sums lm_TestJudgeModel_243 (by exact hm10.1) rfl rfl (e_m_sums hm10 (x := f + 1) (y := f + 2) (t := f) (a := u.1) (b := v.1) (by omega) (by omega) (by omega) (by omega) (by omega) (by rw [s10.2.2.1.2.1 0 (by omega)]; exact rBegins_0.trans y4.1) (by rw [s10.2.2.1.2.2 0 (by omega)]; exact rBegins_0.trans z4.1) (by omega)) hfl (by first | decide | omega) (by decide) (by omega) (by omega) rfl rfl (Nat.le_of_ble_eq_true rfl) (gd DX10_readIf_1 21 rfl) ?_
  rw [rSum_ag s10.2.2.1.2.1 s10.2.2.1.2.2]
  have s11 := s10.rc0 (rSum (rBegins u.2 u.1 (t.2 1)) (rBegins v.2 v.1 (allF (nI nt) &&& (t.2 1 ^^^ -1))) u.1 v.1)
  generalize hg : sF g10 (m + 1) (pRec (hI g10 (m + 1)) f (rSum (rBegins u.2 u.1 (t.2 1)) (rBegins v.2 v.1 (allF (nI nt) &&& (t.2 1 ^^^ -1))) u.1 v.1)) = g11
  have e11 : hRc m g10 f (rSum (rBegins u.2 u.1 (t.2 1)) (rBegins v.2 v.1 (allF (nI nt) &&& (t.2 1 ^^^ -1))) u.1 v.1) = g11 := hg
  rw [e11] at s11
  clear hg e11
  have hm11 := s11.1.sh hm
  refine g_aload_n C (gd DX10_readIf_1 22 rfl) 0 rfl rfl ?_
  refine g_iload_n C (gd DX10_readIf_1 23 rfl) 1 rfl rfl ?_
  refine g_iconst (v := 1) C (gd DX10_readIf_1 24 rfl) (by decide) ?_
  refine g_iadd C (gd DX10_readIf_1 25 rfl) ?_
  rw [show nI f + 1 = nI (f + 1) from nx_add (b := 1) rfl rfl]
  refine g_puti (ci := 10) (k := 25) C rfl (by decide) rfl lf_TestJudgeModel_234 hm11.1 (Or.inl rfl) rfl (gd DX10_readIf_1 26 rfl) ?_
  refine g_iconst (v := 1) C (gd DX10_readIf_1 27 rfl) (by decide) ?_
  exact g_zret C (by decide) (by omega) (by omega) (s11.fr (f + 1)).ok (gd DX10_readIf_1 28 rfl)
end M54
