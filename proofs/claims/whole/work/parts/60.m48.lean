/-! greatest: the machine -/
theorem cP_up {p : Nat → Prop} {a : Nat} : ∀ d, (∀ e, a ≤ e → e < a + d → ¬ p e) → cP p a = cP p (a + d) := by
  intro d
  induction d with
  | zero => intro _; rfl
  | succ d ih =>
    intro h
    rw [ih (fun e h1 h2 => h e h1 (by omega)), show a + (d + 1) = (a + d) + 1 by omega, cP_f (h (a + d) (by omega) (by omega))]
theorem or9 {a b : Int32} (h : b = 0) (q : a ||| b = 0) : a = 0 := by rw [h, Int32.or_zero] at q; exact q
section M48
variable {w : gD} {m : Nat} {h : HS}
theorem e_m_greatest {nt na np nf : Nat} {fw : Nat → Nat} (ok : mOK m h nt na np nf fw) (p : Int32) :
    Ev w 7 0 0 yX10_greatest cX10_greatest 9 (some .int) [.ref m, .int p] h (fun r' h' => (¬ (0 ≤ p ∧ p ≤ nI np - 1) ∧ r' = some (.int (-1)) ∧ pQ m h h' 2) ∨ ∃ r, r < np ∧ p = nI r ∧ ∃ h1 N, LDU (P1 m h nf r) m h1 N ∧ ((((∀ L, ¬ lenP m h1 N L) ∨ ∀ B, ∃ L, B ≤ L ∧ lenP m h1 N L) ∧ r' = some (.int (-1)) ∧ pQ m h h' 5) ∨ ∃ L, lenP m h1 N L ∧ (∀ L', lenP m h1 N L' → L' ≤ L) ∧ r' = some (.int (nI L)) ∧ pQ m h h' 0)) := by
  obtain ⟨hm, hnt, hna, hnp, hF, hw⟩ := ok
  refine g_start (by decide) (Nat.le_of_ble_eq_true rfl) [(0, _), (1, _)] rfl (fun z hfl C => ?_)
  refine g_aload_n C (gd DX10_greatest_0 0 rfl) 0 rfl rfl ?_
  refine g_iload_n C (gd DX10_greatest_0 1 rfl) 1 rfl rfl ?_
  refine g_cV1 (ci := 10) C [_] mX10_isProgram lm_TestJudgeModel_116 (by exact hm.1) rfl rfl (e_m_isProgram hm _) hfl (by decide) (by decide) (by omega) (by omega) rfl rfl (Nat.le_of_ble_eq_true rfl) (gd DX10_greatest_0 2 rfl) ?_
  rw [hnp.2]
  by_cases hp : 0 ≤ p ∧ p ≤ nI np - 1
  rotate_left
  · rw [b1_f hp]
    refine g_if_ne C 14 (gd DX10_greatest_0 3 rfl) (by decide) (fun c5 => ?_) (fun c5 => ?_)
    · exact absurd rfl c5
    · refine g_aload_n C (gd DX10_greatest_0 4 rfl) 0 rfl rfl ?_
      refine g_iconst (v := 2) C (gd DX10_greatest_0 5 rfl) (by decide) ?_
      refine g_cV1 (ci := 10) C [_] mX10_refuse lm_TestJudgeModel_331 (by exact hm.1) rfl rfl (e_m_refuse hm _) hfl (by decide) (by decide) (by omega) (by omega) rfl rfl (Nat.le_of_ble_eq_true rfl) (gd DX10_greatest_0 6 rfl) ?_
      exact g_iret C (by omega) (by omega) (Or.inl ⟨hp, rfl, (mKp.rf m h).q 2⟩) (gd DX10_greatest_0 7 rfl)
  rw [b1_t hp]
  refine g_if_ne C 14 (gd DX10_greatest_0 3 rfl) (by decide) (fun c5 => ?_) (fun c5 => ?_)
  rotate_left
  · exact absurd c5 (by decide)
  obtain ⟨r, hr, rfl⟩ := below_of (by omega) hp
  obtain ⟨wr, lr, hwr⟩ := hw r hr
  refine g_aload_n C (gd DX10_greatest_0 8 rfl) 0 rfl rfl ?_
  refine g_iload_n C (gd DX10_greatest_0 9 rfl) 1 rfl rfl ?_
  refine g_callV (ci := 10) C [_] mX10_laysOne lm_TestJudgeModel_396 (by exact hm.1) rfl rfl (e_m_laysOne hm hF (by omega : r < 8) lr hwr) hfl (by decide) (by decide) (by omega) (by omega) rfl rfl (Nat.le_of_ble_eq_true rfl) (gd DX10_greatest_0 10 rfl) (fun r h2 hp => ?_)
  obtain ⟨rfl, hl⟩ := hp
  obtain ⟨N, hL, hk⟩ := lay_1 hF (by omega : r < 8) lr hwr hl
  have g := hL.1.gok
  have hg1 := g.1
  have hN0 := hL.1.2.1
  have u1 := hL.2.u01
  have h9 := P1_9 hL.1
  have hm2 : mSh m h2 := hm.fr hk.1
  show GW z w 9 _ 0 0 _ _ [] _
  refine g_aload_n C (gd DX10_greatest_0 11 rfl) 0 rfl rfl ?_
  refine g_getr (ci := 10) (k := 41) C rfl (by decide) rfl lf_TestJudgeModel_59 hm2.1 (hm2.2 41 13 15 16500 rfl).1 (gd DX10_greatest_0 12 rfl) ?_
  refine g_iconst (v := 0) C (gd DX10_greatest_0 13 rfl) (by decide) ?_
  refine g_zaj (j := 0) C (hm2.2 41 13 15 16500 rfl).2.1 (hm2.2 41 13 15 16500 rfl).2.2 (by decide) rfl (by omega) (gd DX10_greatest_0 14 rfl) ?_
  refine g_if_ne C 34 (gd DX10_greatest_0 15 rfl) (by decide) (fun c25 => ?_) (fun c25 => ?_)
  rotate_left
  · have e0 : hI h2 (m + 13) 0 = 0 := (u1 0 hN0).elim id (fun q => absurd (q.symm.trans (show hI h2 (m + 13) 0 = 0 from c25)) (by decide))
    refine g_aload_n C (gd DX10_greatest_0 16 rfl) 0 rfl rfl ?_
    refine g_iconst (v := 5) C (gd DX10_greatest_0 17 rfl) (by decide) ?_
    refine g_cV1 (ci := 10) C [_] mX10_refuse lm_TestJudgeModel_331 (by exact hm2.1) rfl rfl (e_m_refuse hm2 _) hfl (by decide) (by decide) (by omega) (by omega) rfl rfl (Nat.le_of_ble_eq_true rfl) (gd DX10_greatest_0 18 rfl) ?_
    refine g_iret C (by omega) (by omega) ?_ (gd DX10_greatest_0 19 rfl)
    refine Or.inr ⟨r, hr, rfl, _, N, hL, Or.inl ⟨Or.inl (fun L hp => ?_), rfl, hk.q 5⟩⟩
    obtain ⟨v, hv, hp1, hp2⟩ := hp
    have us := rp_us g (en := fun s => hI h2 (m + 8) s ||| hI h2 (m + 9) s) L v hv hp1 ⟨0, fun q => hp2 (or9 (h9 v hv) q)⟩
    have := (gU_us hL.2 h9).mpr ⟨hN0, us⟩
    rw [gU, e0] at this
    exact absurd this.2 (by decide)
  have eU0 : gU m h2 N 0 := ⟨hN0, (u1 0 hN0).elim (fun q => absurd q c25) id⟩
  have hmG : ∀ I F L, mSh m (gH m h2 I F L) := fun I F L => hm2
  have e42 : ∀ I F L, hI (gH m h2 I F L) m 42 = nI N := fun I F L => by rw [gH_ne (by omega) (by omega) (by omega)]; exact g.2.1
  generalize hU : gU m h2 N = U at *
  generalize hG : gG m h2 N = G at *
  have hGs : ∀ e v, e < 24 * N → G e v → U v ∧ hI h2 (m + 7) e = nI v := fun e v he hg => by rw [← hG] at hg; rw [← hU]; exact gG_1 g u1 he hg
  have hGN : ∀ e v, G e v → v < N := fun e v hg => by rw [← hG] at hg; exact hg.1
  have hUN : ∀ v, U v → v < N := fun v hv => by rw [← hU] at hv; exact hv.1
  have hGf : ∀ e a b, G e a → G e b → a = b := fun e a b x y => by rw [← hG] at x y; exact gG_f hg1 x y
  have hpr : ∀ v, v < N → U v → v ≠ 0 → ∃ e, e < 24 * N ∧ e / 24 < v ∧ U (e / 24) ∧ G e v := by
    intro v hv hu h0
    obtain ⟨e, he, hlt, ee⟩ := hL.1.par hv (by omega)
    rw [← hU] at hu
    refine ⟨e, he, hlt, ?_, by rw [← hG]; exact gG_2 g hu ee⟩
    rw [← hU]
    exact (gU_us hL.2 h9).mpr ⟨by omega, Us_step (k := e % 24) (by omega) (by omega) (by rw [show 24 * (e / 24) + e % 24 = e by omega]; exact ee) ((gU_us hL.2 h9).mp hu).2⟩
  have hreach : ∀ b v, v < b → v < N → U v → ∃ L, pt N U G L v := by
    intro b
    induction b with
    | zero => intro v hv; omega
    | succ b ih =>
      intro v hv hvN hu
      by_cases c : v = 0
      · exact ⟨0, c⟩
      · obtain ⟨e, he, hlt, hue, hge⟩ := hpr v hvN hu c
        obtain ⟨L, hp⟩ := ih (e / 24) (by omega) (by omega) hue
        exact ⟨L + 1, e, he, hue, hge, hp⟩
  have hptl : ∀ L v, pt N U G L v → U v → ∃ L', L ≤ L' ∧ lenP m h2 N L' := by
    intro L v hp hu
    have hrp : rp N (hI h2 (m + 7)) L v := by rw [← hU, ← hG] at hp; exact pt_rp g u1 L v hp
    rw [← hU] at hu
    obtain ⟨hvN, d, hd⟩ := (gU_us hL.2 h9).mp hu
    exact rp_end g h9 d L v hvN hrp hd
  generalize hQ : (gQ z w 0 0 _) = Q
  have l323 : ∀ I F Ln ln into far n b, KS N G U (Dk ln n 0) I F Ln ln into far n → KB (fun v => ¬ hI h2 (m + 8) v = 0) far ln n b → GW z w 9 Q 0 0 323 [(0, .ref m), (1, .int (nI r)), (2, .int (nI (cP U N))), (3, .int (nI n)), (4, .int (nI b)), (5, .int (nI n))] [] (gH m h2 I F Ln) := by
    intro I F Ln ln into far n b k kb
    have hlen := k.len
    have hc := cP_bd (p := U) N
    have hd : ∀ e, e < 24 * N → (∃ j, j < n ∧ ln j = e / 24) → Dk ln n 0 e := fun e _ q => Or.inl q
    have hmX := hmG I F Ln
    refine g_iload_n C (gd DX10_greatest_3 1 rfl) 3 rfl rfl ?_
    refine g_iload_n C (gd DX10_greatest_3 2 rfl) 2 rfl rfl ?_
    refine g_icmp_ge C 336 (gd DX10_greatest_3 3 rfl) (by decide) (fun c325 => ?_) (fun c325 => ?_)
    · have hge := ge_t (a := n) (b := cP U N) c325 (by omega) (by omega)
      obtain ⟨a1, a2⟩ := k.1.all hd (by rw [hlen.1]; exact hge) hGN hUN
      refine g_aload_n C (gd DX10_greatest_3 8 rfl) 0 rfl rfl ?_
      refine g_iload C (gd DX10_greatest_3 9 rfl) 4 rfl ?_
      refine g_cV1 (ci := 10) C [_] mX10_gives lm_TestJudgeModel_349 (by exact hmX.1) rfl rfl (e_m_gives hmX _) hfl (by decide) (by decide) (by omega) (by omega) rfl rfl (Nat.le_of_ble_eq_true rfl) (gd DX10_greatest_3 10 rfl) ?_
      rw [← hQ]
      refine g_iret C (by omega) (by omega) ?_ (gd DX10_greatest_3 11 rfl)
      have hall := cP_all (fun e _ q => (k.1.1 e q).1) (by rw [hlen.1]; exact hge)
      have hup : ∀ L', lenP m h2 N L' → L' ≤ b := by
        intro L' hp
        obtain ⟨v, hv, hp1, hp2⟩ := hp
        have huv : gU m h2 N v := (gU_us hL.2 h9).mpr ⟨hv, 0, fun q => hp2 (or9 (h9 v hv) q)⟩
        have hpt := rp_pt g hL.2 h9 L' v huv hp1
        rw [hU, hG] at hpt
        rw [hU] at huv
        obtain ⟨j, hj, ej⟩ := hall v hv huv
        have x1 := a2 L' v hpt
        have x2 := kb.2 j hj (by rw [ej]; exact hp2)
        rw [ej] at x2
        omega
      refine Or.inr ⟨r, hr, rfl, _, N, hL, Or.inr ⟨b, ?_, hup, rfl, (hk.tr mKp_gH).q 0⟩⟩
      rcases kb.1 with q | ⟨j, hj, q1, q2⟩
      · obtain ⟨L', -, hp⟩ := hptl 0 0 rfl eU0
        have := hup L' hp
        rw [show b = L' by omega]
        exact hp
      · have hu := (k.1.1 (ln j) ⟨j, hj, rfl⟩).1
        have hp := a1 (ln j) hu
        rw [← hU, ← hG] at hp
        rw [← q2]
        exact ⟨ln j, hUN _ hu, pt_rp g u1 _ _ hp, q1⟩
    · have hlt := ge_f (a := n) (b := cP U N) c325 (by omega) (by omega)
      refine g_aload_n C (gd DX10_greatest_3 4 rfl) 0 rfl rfl ?_
      refine g_iconst (v := 5) C (gd DX10_greatest_3 5 rfl) (by decide) ?_
      refine g_cV1 (ci := 10) C [_] mX10_refuse lm_TestJudgeModel_331 (by exact hmX.1) rfl rfl (e_m_refuse hmX _) hfl (by decide) (by decide) (by omega) (by omega) rfl rfl (Nat.le_of_ble_eq_true rfl) (gd DX10_greatest_3 6 rfl) ?_
      refine g_goto (tgt := 342) C (gd DX10_greatest_3 7 rfl) (by decide) ?_
      rw [← hQ]
      refine g_iret C (by omega) (by omega) ?_ (gd DX10_greatest_3 11 rfl)
      refine Or.inr ⟨r, hr, rfl, _, N, hL, Or.inl ⟨Or.inr (fun B => ?_), rfl, (hk.tr mKp_gH).q 5⟩⟩
      obtain ⟨L, v, h1, hv, hu, hp⟩ := k.1.some hd (by rw [hlen.1]; exact hlt) (fun v hv hu => hreach (v + 1) v (by omega) hv hu) B
      obtain ⟨L', h2', hp'⟩ := hptl L v hp hu
      exact ⟨L', by omega, hp'⟩
  have l177 : ∀ y i I F Ln ln into far n b, i + y = N → i ≤ n → b ≤ N → (∀ v, v < N → far v ≤ i) → KS N G U (Dk ln i 0) I F Ln ln into far n → KB (fun v => ¬ hI h2 (m + 8) v = 0) far ln i b → GW z w 9 Q 0 0 177 [(0, .ref m), (1, .int (nI r)), (2, .int (nI (cP U N))), (3, .int (nI n)), (4, .int (nI b)), (5, .int (nI i))] [] (gH m h2 I F Ln) := by
    intro y
    induction y with
    | zero =>
      intro i I F Ln ln into far n b hiy hin hb hfar k kb
      have hlen := k.len
      have hmX := hmG I F Ln
      refine g_iload C (gd DX10_greatest_1 46 rfl) 5 rfl ?_
      refine g_iload_n C (gd DX10_greatest_1 47 rfl) 3 rfl rfl ?_
      refine g_icmp_ge C 323 (gd DX10_greatest_1 48 rfl) (by decide) (fun c180 => ?_) (fun c180 => ?_)
      · have e : i = n := by omega
        subst e
        exact l323 I F Ln ln into far _ b k kb
      · exact absurd (nI_le (a := n) (b := i) (by omega) (by omega)) c180
    | succ y ih =>
      intro i I F Ln ln into far n b hiy hin hb hfar k kb
      have hlen := k.len
      have hmX := hmG I F Ln
      refine g_iload C (gd DX10_greatest_1 46 rfl) 5 rfl ?_
      refine g_iload_n C (gd DX10_greatest_1 47 rfl) 3 rfl rfl ?_
      refine g_icmp_ge C 323 (gd DX10_greatest_1 48 rfl) (by decide) (fun c180 => ?_) (fun c180 => ?_)
      · have e : i = n := by have := ge_t (a := i) (b := n) c180 (by omega) (by omega); omega
        subst e
        exact l323 I F Ln ln into far _ b k kb
      have hi : i < n := ge_f (a := i) (b := n) c180 (by omega) (by omega)
      obtain ⟨huU, huN⟩ := k.1.1 (ln i) ⟨i, hi, rfl⟩
      generalize hu : ln i = u at *
      have inner : ∀ y2 kk I F Ln ln into far n b2, kk + y2 = 24 → i < n → ln i = u → b2 ≤ N → far u ≤ i → (∀ v, v < N → far v ≤ i + 1) → KS N G U (Dk ln i kk) I F Ln ln into far n → KB (fun v => ¬ hI h2 (m + 8) v = 0) far ln (i + 1) b2 → GW z w 9 Q 0 0 224 [(0, .ref m), (1, .int (nI r)), (2, .int (nI (cP U N))), (3, .int (nI n)), (4, .int (nI b2)), (5, .int (nI i)), (6, .int (nI u)), (7, .int (nI kk))] [] (gH m h2 I F Ln) := by
        intro y2
        induction y2 with
        | zero =>
          intro kk I F Ln ln into far n b2 hkk hi2 hlu hb2 hfu hfar2 k kb
          have hlen := k.len
          have e24 : kk = 24 := by omega
          subst e24
          have hmX := hmG I F Ln
          refine g_iload C (gd DX10_greatest_2 10 rfl) 7 rfl ?_
          refine g_bipush (v := 24) C (gd DX10_greatest_2 11 rfl) (by decide) ?_
          refine g_icmp_ge C 317 (gd DX10_greatest_2 12 rfl) (by decide) (fun c228 => ?_) (fun c228 => ?_)
          · refine g_iinc (lv' := [(0, _), (1, _), (2, _), (3, _), (4, _), (5, _), (6, _), (7, _)]) C (gd DX10_greatest_2 59 rfl) 5 [1, 2, 3, 4, 5, 0, 6, 7] rfl rfl (by decide) rfl ?_
            refine g_goto (tgt := 177) C (gd DX10_greatest_3 0 rfl) (by decide) ?_
            refine GW.sub [0, 1, 2, 3, 4, 5] rfl (Nat.le_refl _) (Nat.le_refl _) (lv' := [(0, _), (1, _), (2, _), (3, _), (4, _), (5, _)]) ?_
            refine GW.sub [0, 1, 2, 3, 4, 5] rfl (Nat.le_refl _) (Nat.le_refl _) ?_
            exact GW.cast (by rw [inc1]; rfl) rfl rfl (ih (i + 1) I F Ln ln into far n b2 (by omega) (by omega) hb2 hfar2 k.next kb)
          · exact absurd (by decide) c228
        | succ y2 ih2 =>
          intro kk I F Ln ln into far n b2 hkk hi2 hlu hb2 hfu hfar2 k kb
          have hlen := k.len
          have hmX := hmG I F Ln
          have gX : GOk m (gH m h2 I F Ln) N := g.congr (by rw [gH_ne (by omega) (by omega) (by omega)]) (by rw [gH_ne (by omega) (by omega) (by omega)])
          refine g_iload C (gd DX10_greatest_2 10 rfl) 7 rfl ?_
          refine g_bipush (v := 24) C (gd DX10_greatest_2 11 rfl) (by decide) ?_
          refine g_icmp_ge C 317 (gd DX10_greatest_2 12 rfl) (by decide) (fun c228 => ?_) (fun c228 => ?_)
          · exact absurd c228 (nI_ge (a := kk) (b := 24) (by omega) (by omega))
          refine g_aload_n C (gd DX10_greatest_2 13 rfl) 0 rfl rfl ?_
          refine g_iload C (gd DX10_greatest_2 14 rfl) 6 rfl ?_
          refine g_iload C (gd DX10_greatest_2 15 rfl) 7 rfl ?_
          refine g_cV1 (ci := 10) C [_, _] mX10_usefulNext lm_TestJudgeModel_399 (by exact hmX.1) rfl rfl (e_m_usefulNext hmX hg1 huN (by omega : kk < 24) gX.2.2) hfl (by decide) (by decide) (by omega) (by omega) rfl rfl (Nat.le_of_ble_eq_true rfl) (gd DX10_greatest_2 16 rfl) ?_
          rw [gH_u]
          rcases uNx_cases g huN (show kk < 24 by omega) with q | ⟨v, hv, q1, q2, q3⟩
          · rw [q]
            refine g_istore (lv' := [(0, _), (1, _), (2, _), (3, _), (4, _), (5, _), (6, _), (7, _), (8, _)]) C (gd DX10_greatest_2 17 rfl) [1, 2, 3, 4, 5, 6, 7, 8, 0] (by decide) rfl ?_
            refine g_iload C (gd DX10_greatest_2 18 rfl) 8 rfl ?_
            refine g_iconst (v := -1) C (gd DX10_greatest_2 19 rfl) (by decide) ?_
            refine g_icmp_ne C 250 (gd DX10_greatest_2 20 rfl) (by decide) (fun c244 => ?_) (fun c244 => ?_)
            · exact absurd rfl c244
            refine g_goto (tgt := 311) C (gd DX10_greatest_2 21 rfl) (by decide) ?_
            refine g_iinc (lv' := [(0, _), (1, _), (2, _), (3, _), (4, _), (5, _), (6, _), (7, _), (8, _)]) C (gd DX10_greatest_2 57 rfl) 7 [1, 2, 3, 4, 5, 6, 7, 0, 8] rfl rfl (by decide) rfl ?_
            refine g_goto (tgt := 224) C (gd DX10_greatest_2 58 rfl) (by decide) ?_
            refine GW.sub [0, 1, 2, 3, 4, 5, 6, 7] rfl (Nat.le_refl _) (Nat.le_refl _) (lv' := [(0, _), (1, _), (2, _), (3, _), (4, _), (5, _), (6, _), (7, _)]) ?_
            refine GW.sub [0, 1, 2, 3, 4, 5, 6, 7] rfl (Nat.le_refl _) (Nat.le_refl _) ?_
            refine GW.cast (by rw [inc1]; rfl) rfl rfl (ih2 (kk + 1) I F Ln ln into far n b2 (by omega) hi2 hlu hb2 hfu hfar2 (k.skip hi2 (by omega) (fun v hg => ?_)) kb)
            rw [hlu, ← hG] at hg
            rw [hg.2] at q
            exact nI_m1 (by have := hg.1; omega) q
          · rw [q1]
            have hGv : G (24 * ln i + kk) v := by rw [hlu, ← hG]; exact ⟨hv, q1⟩
            have hUv : U v := (hGs _ v (by rw [hlu]; omega) hGv).1
            have hfv := hfar2 v hv
            obtain ⟨s1, s2, s3, s4, s5⟩ := k.step hi2 (by omega) hGv hv hUv hGf (X := if far v < far u + 1 then far u + 1 else far v) (by rw [hlu])
            have hvu : ¬ u = v := fun q => s3 i hi2 (by rw [hlu]; exact q)
            generalize hX : (if far v < far u + 1 then far u + 1 else far v) = X at *
            have hX1 : X ≤ i + 1 := by rw [← hX]; split <;> omega
            have hfu' : updN far v X u ≤ i := by rw [updN_ne hvu]; exact hfu
            have hfar' : ∀ x, x < N → updN far v X x ≤ i + 1 := fun x hx => by
              by_cases c : x = v
              · rw [c, updN_eq]; exact hX1
              · rw [updN_ne c]; exact hfar2 x hx
            have hkb' : KB (fun v => ¬ hI h2 (m + 8) v = 0) (updN far v X) ln (i + 1) b2 := by
              refine ⟨kb.1.elim Or.inl (fun ⟨j, hj, x1, x2⟩ => Or.inr ⟨j, hj, x1, by rw [updN_ne (s3 j (by omega))]; exact x2⟩), fun j hj x1 => by rw [updN_ne (s3 j (by omega))]; exact kb.2 j hj x1⟩
            refine g_istore (lv' := [(0, _), (1, _), (2, _), (3, _), (4, _), (5, _), (6, _), (7, _), (8, _)]) C (gd DX10_greatest_2 17 rfl) [1, 2, 3, 4, 5, 6, 7, 8, 0] (by decide) rfl ?_
            refine g_iload C (gd DX10_greatest_2 18 rfl) 8 rfl ?_
            refine g_iconst (v := -1) C (gd DX10_greatest_2 19 rfl) (by decide) ?_
            refine g_icmp_ne C 250 (gd DX10_greatest_2 20 rfl) (by decide) (fun c244 => ?_) (fun c244 => ?_)
            rotate_left
            · exact absurd c244 (nI_m1 (by omega))
            refine g_aload_n C (gd DX10_greatest_2 22 rfl) 0 rfl rfl ?_
            refine g_getr (ci := 10) (k := 47) C rfl (by decide) rfl lf_TestJudgeModel_75 hmX.1 (hmX.2 47 18 12 16500 rfl).1 (gd DX10_greatest_2 23 rfl) ?_
            refine g_iload C (gd DX10_greatest_2 24 rfl) 8 rfl ?_
            refine g_aload_n C (gd DX10_greatest_2 25 rfl) 0 rfl rfl ?_
            refine g_getr (ci := 10) (k := 47) C rfl (by decide) rfl lf_TestJudgeModel_75 hmX.1 (hmX.2 47 18 12 16500 rfl).1 (gd DX10_greatest_2 26 rfl) ?_
            refine g_iload C (gd DX10_greatest_2 27 rfl) 8 rfl ?_
            refine g_iaj (j := v) C (hmX.2 47 18 12 16500 rfl).2.1 (hmX.2 47 18 12 16500 rfl).2.2 (by decide) rfl (by omega) (gd DX10_greatest_2 28 rfl) ?_
            refine g_aload_n C (gd DX10_greatest_2 29 rfl) 0 rfl rfl ?_
            refine g_getr (ci := 10) (k := 47) C rfl (by decide) rfl lf_TestJudgeModel_75 hmX.1 (hmX.2 47 18 12 16500 rfl).1 (gd DX10_greatest_2 30 rfl) ?_
            refine g_iload C (gd DX10_greatest_2 31 rfl) 6 rfl ?_
            refine g_iaj (j := u) C (hmX.2 47 18 12 16500 rfl).2.1 (hmX.2 47 18 12 16500 rfl).2.2 (by decide) rfl (by omega) (gd DX10_greatest_2 32 rfl) ?_
            refine g_iconst (v := 1) C (gd DX10_greatest_2 33 rfl) (by decide) ?_
            refine g_iadd C (gd DX10_greatest_2 34 rfl) ?_
            rw [gH_18, k.2.2.1 v hv, k.2.2.1 u huN, show nI (far u) + 1 = nI (far u + 1) from inc1 _]
            refine g_max C lm_TestJudgeModel_416 (by omega) (by omega) (by omega) (Nat.le_of_ble_eq_true rfl) (gd DX10_greatest_2 35 rfl) ?_
            rw [mx_n (by omega) (by omega), hX]
            refine g_isj (j := v) C (hmX.2 47 18 12 16500 rfl).2.1 (hmX.2 47 18 12 16500 rfl).2.2 (by decide) rfl (by omega) (gd DX10_greatest_2 36 rfl) ?_
            rw [gH_s18]
            have hmY := hmG I (upd F v (nI X)) Ln
            refine g_aload_n C (gd DX10_greatest_2 37 rfl) 0 rfl rfl ?_
            refine g_getr (ci := 10) (k := 46) C rfl (by decide) rfl lf_TestJudgeModel_72 hmY.1 (hmY.2 46 17 12 16500 rfl).1 (gd DX10_greatest_2 38 rfl) ?_
            refine g_iload C (gd DX10_greatest_2 39 rfl) 8 rfl ?_
            refine g_dup2 C (gd DX10_greatest_2 40 rfl) rfl rfl ?_
            refine g_iaj (j := v) C (hmY.2 46 17 12 16500 rfl).2.1 (hmY.2 46 17 12 16500 rfl).2.2 (by decide) rfl (by omega) (gd DX10_greatest_2 41 rfl) ?_
            refine g_iconst (v := 1) C (gd DX10_greatest_2 42 rfl) (by decide) ?_
            refine g_isub C (gd DX10_greatest_2 43 rfl) ?_
            rw [gH_17, k.2.1 v hv, show nI (into v) - 1 = nI (into v - 1) from nx_sub (b := 1) rfl rfl (by omega)]
            refine g_isj (j := v) C (hmY.2 46 17 12 16500 rfl).2.1 (hmY.2 46 17 12 16500 rfl).2.2 (by decide) rfl (by omega) (gd DX10_greatest_2 44 rfl) ?_
            rw [gH_s17]
            have hmZ := hmG (upd I v (nI (into v - 1))) (upd F v (nI X)) Ln
            refine g_aload_n C (gd DX10_greatest_2 45 rfl) 0 rfl rfl ?_
            refine g_getr (ci := 10) (k := 46) C rfl (by decide) rfl lf_TestJudgeModel_72 hmZ.1 (hmZ.2 46 17 12 16500 rfl).1 (gd DX10_greatest_2 46 rfl) ?_
            refine g_iload C (gd DX10_greatest_2 47 rfl) 8 rfl ?_
            refine g_iaj (j := v) C (hmZ.2 46 17 12 16500 rfl).2.1 (hmZ.2 46 17 12 16500 rfl).2.2 (by decide) rfl (by omega) (gd DX10_greatest_2 48 rfl) ?_
            rw [gH_17, show upd I v (nI (into v - 1)) v = nI (into v - 1) from if_pos rfl]
            refine g_if_le C 300 (gd DX10_greatest_2 49 rfl) (by decide) (fun c294 => ?_) (fun c294 => ?_)
            · have e1 : into v = 1 := by
                have := (Int32.le_iff_toInt_le.mp c294)
                rw [nI_toInt (by omega)] at this
                have z0 : (0 : Int32).toInt = 0 := rfl
                omega
              obtain ⟨t1, t2⟩ := s4 e1
              refine g_aload_n C (gd DX10_greatest_2 51 rfl) 0 rfl rfl ?_
              refine g_getr (ci := 10) (k := 48) C rfl (by decide) rfl lf_TestJudgeModel_78 hmZ.1 (hmZ.2 48 19 12 16500 rfl).1 (gd DX10_greatest_2 52 rfl) ?_
              refine g_iload_n C (gd DX10_greatest_2 53 rfl) 3 rfl rfl ?_
              refine g_iload C (gd DX10_greatest_2 54 rfl) 8 rfl ?_
              refine g_isj (j := n) C (hmZ.2 48 19 12 16500 rfl).2.1 (hmZ.2 48 19 12 16500 rfl).2.2 (by decide) rfl (by omega) (gd DX10_greatest_2 55 rfl) ?_
              rw [gH_s19]
              have hmW := hmG (upd I v (nI (into v - 1))) (upd F v (nI X)) (upd Ln n (nI v))
              refine g_iinc (lv' := [(0, _), (1, _), (2, _), (3, _), (4, _), (5, _), (6, _), (7, _), (8, _)]) C (gd DX10_greatest_2 56 rfl) 3 [1, 2, 3, 0, 4, 5, 6, 7, 8] rfl rfl (by decide) rfl ?_
              refine g_iinc (lv' := [(0, _), (1, _), (2, _), (3, _), (4, _), (5, _), (6, _), (7, _), (8, _)]) C (gd DX10_greatest_2 57 rfl) 7 [1, 2, 3, 4, 5, 6, 7, 0, 8] rfl rfl (by decide) rfl ?_
              refine g_goto (tgt := 224) C (gd DX10_greatest_2 58 rfl) (by decide) ?_
              refine GW.sub [0, 1, 2, 3, 4, 5, 6, 7] rfl (Nat.le_refl _) (Nat.le_refl _) (lv' := [(0, _), (1, _), (2, _), (3, _), (4, _), (5, _), (6, _), (7, _)]) ?_
              refine GW.sub [0, 1, 2, 3, 4, 5, 6, 7] rfl (Nat.le_refl _) (Nat.le_refl _) ?_
              refine GW.cast (by rw [inc1, inc1]; rfl) rfl rfl (ih2 (kk + 1) _ _ _ (updN ln n v) _ _ (n + 1) b2 (by omega) (by omega) (by rw [updN_ne (by omega)]; exact hlu) hb2 hfu' hfar' t2 ?_)
              refine ⟨hkb'.1.elim Or.inl (fun ⟨j, hj, x1, x2⟩ => Or.inr ⟨j, hj, by rw [updN_ne (by omega)]; exact x1, by rw [updN_ne (j := j) (i := n) (by omega)]; exact x2⟩), fun j hj x1 => ?_⟩
              rw [updN_ne (j := j) (i := n) (by omega)] at x1 ⊢
              exact hkb'.2 j hj x1
            · have e1 : ¬ into v = 1 := fun q => c294 (by rw [q]; decide)
              refine g_goto (tgt := 311) C (gd DX10_greatest_2 50 rfl) (by decide) ?_
              refine g_iinc (lv' := [(0, _), (1, _), (2, _), (3, _), (4, _), (5, _), (6, _), (7, _), (8, _)]) C (gd DX10_greatest_2 57 rfl) 7 [1, 2, 3, 4, 5, 6, 7, 0, 8] rfl rfl (by decide) rfl ?_
              refine g_goto (tgt := 224) C (gd DX10_greatest_2 58 rfl) (by decide) ?_
              refine GW.sub [0, 1, 2, 3, 4, 5, 6, 7] rfl (Nat.le_refl _) (Nat.le_refl _) (lv' := [(0, _), (1, _), (2, _), (3, _), (4, _), (5, _), (6, _), (7, _)]) ?_
              refine GW.sub [0, 1, 2, 3, 4, 5, 6, 7] rfl (Nat.le_refl _) (Nat.le_refl _) ?_
              exact GW.cast (by rw [inc1]; rfl) rfl rfl (ih2 (kk + 1) _ _ _ ln _ _ n b2 (by omega) hi2 hlu hb2 hfu' hfar' (s5 e1) hkb')
      have hfu := hfar u huN
      refine g_aload_n C (gd DX10_greatest_1 49 rfl) 0 rfl rfl ?_
      refine g_getr (ci := 10) (k := 48) C rfl (by decide) rfl lf_TestJudgeModel_78 hmX.1 (hmX.2 48 19 12 16500 rfl).1 (gd DX10_greatest_1 50 rfl) ?_
      refine g_iload C (gd DX10_greatest_1 51 rfl) 5 rfl ?_
      refine g_iaj (j := i) C (hmX.2 48 19 12 16500 rfl).2.1 (hmX.2 48 19 12 16500 rfl).2.2 (by decide) rfl (by omega) (gd DX10_greatest_1 52 rfl) ?_
      rw [gH_19, k.2.2.2.1 i hi, hu]
      refine g_istore (lv' := [(0, _), (1, _), (2, _), (3, _), (4, _), (5, _), (6, _)]) C (gd DX10_greatest_1 53 rfl) [1, 2, 3, 4, 5, 6, 0] (by decide) rfl ?_
      refine g_aload_n C (gd DX10_greatest_1 54 rfl) 0 rfl rfl ?_
      refine g_getr (ci := 10) (k := 36) C rfl (by decide) rfl lf_TestJudgeModel_44 hmX.1 (hmX.2 36 8 12 16500 rfl).1 (gd DX10_greatest_1 55 rfl) ?_
      refine g_iload C (gd DX10_greatest_1 56 rfl) 6 rfl ?_
      refine g_iaj (j := u) C (hmX.2 36 8 12 16500 rfl).2.1 (hmX.2 36 8 12 16500 rfl).2.2 (by decide) rfl (by omega) (gd DX10_greatest_1 57 rfl) ?_
      rw [gH_ne (by omega) (by omega) (by omega)]
      have l224 : ∀ b2, b2 ≤ N → KB (fun v => ¬ hI h2 (m + 8) v = 0) far ln (i + 1) b2 → GW z w 9 Q 0 0 219 [(0, .ref m), (1, .int (nI r)), (2, .int (nI (cP U N))), (3, .int (nI n)), (4, .int (nI b)), (5, .int (nI i)), (6, .int (nI u))] [.int (nI b2)] (gH m h2 I F Ln) := by
        intro b2 hb2 kb2
        refine g_istore (lv' := [(0, _), (1, _), (2, _), (3, _), (4, _), (5, _), (6, _)]) C (gd DX10_greatest_2 7 rfl) [1, 2, 3, 4, 0, 5, 6] (by decide) rfl ?_
        refine g_iconst (v := 0) C (gd DX10_greatest_2 8 rfl) (by decide) ?_
        refine g_istore (lv' := [(0, _), (1, _), (2, _), (3, _), (4, _), (5, _), (6, _), (7, _)]) C (gd DX10_greatest_2 9 rfl) [1, 2, 3, 4, 5, 6, 7, 0] (by decide) rfl ?_
        exact inner 24 0 I F Ln ln into far n b2 (by omega) hi hu hb2 hfu (fun v hv => by have := hfar v hv; omega) k kb2
      refine g_if_eq C 217 (gd DX10_greatest_1 58 rfl) (by decide) (fun c199 => ?_) (fun c199 => ?_)
      · refine g_iload C (gd DX10_greatest_2 6 rfl) 4 rfl ?_
        refine l224 b hb ⟨kb.1.elim Or.inl (fun ⟨j, hj, x⟩ => Or.inr ⟨j, by omega, x⟩), fun j hj x => ?_⟩
        by_cases c : j = i
        · rw [c, hu] at x; exact absurd c199 x
        · exact kb.2 j (by omega) x
      · refine g_iload C (gd DX10_greatest_1 59 rfl) 4 rfl ?_
        refine g_aload_n C (gd DX10_greatest_2 0 rfl) 0 rfl rfl ?_
        refine g_getr (ci := 10) (k := 47) C rfl (by decide) rfl lf_TestJudgeModel_75 hmX.1 (hmX.2 47 18 12 16500 rfl).1 (gd DX10_greatest_2 1 rfl) ?_
        refine g_iload C (gd DX10_greatest_2 2 rfl) 6 rfl ?_
        refine g_iaj (j := u) C (hmX.2 47 18 12 16500 rfl).2.1 (hmX.2 47 18 12 16500 rfl).2.2 (by decide) rfl (by omega) (gd DX10_greatest_2 3 rfl) ?_
        rw [gH_18, k.2.2.1 u huN]
        refine g_max C lm_TestJudgeModel_416 (by omega) (by omega) (by omega) (Nat.le_of_ble_eq_true rfl) (gd DX10_greatest_2 4 rfl) ?_
        rw [mx_n (by omega) (by omega)]
        refine g_goto (tgt := 219) C (gd DX10_greatest_2 5 rfl) (by decide) ?_
        refine l224 _ (by split <;> omega) ⟨?_, fun j hj x => ?_⟩
        · by_cases c : b < far u
          · rw [if_pos c]; exact Or.inr ⟨i, by omega, by rw [hu]; exact c199, by rw [hu]⟩
          · rw [if_neg c]; exact kb.1.elim Or.inl (fun ⟨j, hj, x⟩ => Or.inr ⟨j, by omega, x⟩)
        · by_cases c : j = i
          · rw [c, hu]; split <;> omega
          · have := kb.2 j (by omega) x
            split <;> omega
  have l151 : ∀ I F Ln, (∀ v, v < N → I v = nI (cP (fun e => U (e / 24) ∧ G e v) (24 * N))) → (∀ v, v < N → F v = 0) → GW z w 9 Q 0 0 151 [(0, .ref m), (1, .int (nI r)), (2, .int (nI (cP U N))), (3, .int (nI N))] [] (gH m h2 I F Ln) := by
    intro I F Ln hI1 hF1
    have hki := KI.first (N := N) (G := G) (U := U) (into := fun v => cP (fun e => U (e / 24) ∧ G e v) (24 * N)) hN0 eU0 (fun _ _ => rfl) (fun v hv hu h0 => by obtain ⟨e, he, -, q1, q2⟩ := hpr v hv hu h0; exact ⟨e, he, q1, q2⟩)
    have hbd := cP_bd (p := fun e => U (e / 24) ∧ G e 0) (24 * N)
    have hD0 : ∀ ln, Dk ln 0 0 = fun _ => False := fun ln => funext fun e => propext ⟨fun q => q.elim (fun ⟨j, hj, _⟩ => by omega) (fun q => by omega), False.elim⟩
    have hmX := hmG I F Ln
    refine g_iconst (v := 0) C (gd DX10_greatest_1 28 rfl) (by decide) ?_
    refine g_istore_n (lv' := [(0, _), (1, _), (2, _), (3, _)]) C (gd DX10_greatest_1 29 rfl) [1, 2, 3, 0] rfl (by decide) rfl ?_
    refine g_iconst (v := 0) C (gd DX10_greatest_1 30 rfl) (by decide) ?_
    refine g_istore (lv' := [(0, _), (1, _), (2, _), (3, _), (4, _)]) C (gd DX10_greatest_1 31 rfl) [1, 2, 3, 4, 0] (by decide) rfl ?_
    refine g_aload_n C (gd DX10_greatest_1 32 rfl) 0 rfl rfl ?_
    refine g_getr (ci := 10) (k := 46) C rfl (by decide) rfl lf_TestJudgeModel_72 hmX.1 (hmX.2 46 17 12 16500 rfl).1 (gd DX10_greatest_1 33 rfl) ?_
    refine g_iconst (v := 0) C (gd DX10_greatest_1 34 rfl) (by decide) ?_
    refine g_iaj (j := 0) C (hmX.2 46 17 12 16500 rfl).2.1 (hmX.2 46 17 12 16500 rfl).2.2 (by decide) rfl (by omega) (gd DX10_greatest_1 35 rfl) ?_
    rw [gH_17, hI1 0 hN0]
    refine g_if_ne C 174 (gd DX10_greatest_1 36 rfl) (by decide) (fun c162 => ?_) (fun c162 => ?_)
    · have hne : ¬ cP (fun e => U (e / 24) ∧ G e 0) (24 * N) = 0 := fun q => c162 (by rw [q]; rfl)
      refine g_iconst (v := 0) C (gd DX10_greatest_1 44 rfl) (by decide) ?_
      refine g_istore (lv' := [(0, _), (1, _), (2, _), (3, _), (4, _), (5, _)]) C (gd DX10_greatest_1 45 rfl) [1, 2, 3, 4, 5, 0] (by decide) rfl ?_
      refine l177 N 0 I F Ln (fun _ => 0) _ (fun _ => 0) 0 0 (by omega) (by omega) (by omega) (fun _ _ => Nat.le_refl _) ⟨?_, hI1, hF1, fun j hj => by omega, fun i j hi => by omega⟩ ⟨Or.inl rfl, fun j hj => by omega⟩
      rw [hD0]
      have e : (fun v => ∃ j, j < 0 ∧ (fun _ => 0) j = v) = fun v => v = 0 ∧ cP (fun e => U (e / 24) ∧ G e 0) (24 * N) = 0 := funext fun v => propext ⟨fun ⟨j, hj, _⟩ => by omega, fun q => absurd q.2 hne⟩
      rw [e]
      exact hki
    · have h0 : cP (fun e => U (e / 24) ∧ G e 0) (24 * N) = 0 := Classical.byContradiction (fun q => absurd c162 (nI_ne0 (by omega) (by omega)))
      refine g_aload_n C (gd DX10_greatest_1 37 rfl) 0 rfl rfl ?_
      refine g_getr (ci := 10) (k := 48) C rfl (by decide) rfl lf_TestJudgeModel_78 hmX.1 (hmX.2 48 19 12 16500 rfl).1 (gd DX10_greatest_1 38 rfl) ?_
      refine g_iconst (v := 0) C (gd DX10_greatest_1 39 rfl) (by decide) ?_
      refine g_iconst (v := 0) C (gd DX10_greatest_1 40 rfl) (by decide) ?_
      refine g_isj (j := 0) C (hmX.2 48 19 12 16500 rfl).2.1 (hmX.2 48 19 12 16500 rfl).2.2 (by decide) rfl (by omega) (gd DX10_greatest_1 41 rfl) ?_
      rw [gH_s19]
      have hmY := hmG I F (upd Ln 0 0)
      refine g_iconst (v := 1) C (gd DX10_greatest_1 42 rfl) (by decide) ?_
      refine g_istore_n (lv' := [(0, _), (1, _), (2, _), (3, _), (4, _)]) C (gd DX10_greatest_1 43 rfl) [1, 2, 3, 0, 4] rfl (by decide) rfl ?_
      refine g_iconst (v := 0) C (gd DX10_greatest_1 44 rfl) (by decide) ?_
      refine g_istore (lv' := [(0, _), (1, _), (2, _), (3, _), (4, _), (5, _)]) C (gd DX10_greatest_1 45 rfl) [1, 2, 3, 4, 5, 0] (by decide) rfl ?_
      refine l177 N 0 I F (upd Ln 0 0) (fun _ => 0) _ (fun _ => 0) 1 0 (by omega) (by omega) (by omega) (fun _ _ => Nat.le_refl _) ⟨?_, hI1, hF1, fun j hj => by rw [show j = 0 by omega]; rfl, fun i j hi hj _ => by omega⟩ ⟨Or.inl rfl, fun j hj => by omega⟩
      rw [hD0]
      have e : (fun v => ∃ j, j < 1 ∧ (fun _ => 0) j = v) = fun v => v = 0 ∧ cP (fun e => U (e / 24) ∧ G e 0) (24 * N) = 0 := funext fun v => propext ⟨fun ⟨j, _, q⟩ => ⟨q.symm, h0⟩, fun q => ⟨0, by omega, q.1.symm⟩⟩
      rw [e]
      exact hki
  have l85 : ∀ y s I F Ln, s + y = N → (∀ v, v < N → I v = nI (cP (fun e => U (e / 24) ∧ G e v) (24 * s))) → (∀ v, v < N → F v = 0) → GW z w 9 Q 0 0 85 [(0, .ref m), (1, .int (nI r)), (2, .int (nI (cP U N))), (3, .int (nI s))] [] (gH m h2 I F Ln) := by
    intro y
    induction y with
    | zero =>
      intro s I F Ln hs hI1 hF1
      have e : s = N := by omega
      subst e
      have hmX := hmG I F Ln
      refine g_iload_n C (gd DX10_greatest_0 53 rfl) 3 rfl rfl ?_
      refine g_aload_n C (gd DX10_greatest_0 54 rfl) 0 rfl rfl ?_
      refine g_geti (ci := 10) (k := 42) C rfl (by decide) rfl lf_TestJudgeModel_357 hmX.1 (gd DX10_greatest_0 55 rfl) ?_
      rw [e42]
      refine g_icmp_ge C 151 (gd DX10_greatest_0 56 rfl) (by decide) (fun c90 => ?_) (fun c90 => ?_)
      · exact l151 I F Ln hI1 hF1
      · exact absurd (Int32.le_refl _) c90
    | succ y ih =>
      intro s I F Ln hs hI1 hF1
      have hmX := hmG I F Ln
      have l145 : ∀ kk I, (∀ v, v < N → I v = nI (cP (fun e => U (e / 24) ∧ G e v) (24 * (s + 1)))) → GW z w 9 Q 0 0 145 [(0, .ref m), (1, .int (nI r)), (2, .int (nI (cP U N))), (3, .int (nI s)), (4, .int (nI kk))] [] (gH m h2 I F Ln) := by
        intro kk I hI1
        have hmX := hmG I F Ln
        refine g_iinc (lv' := [(0, _), (1, _), (2, _), (3, _), (4, _)]) C (gd DX10_greatest_1 26 rfl) 3 [1, 2, 3, 0, 4] rfl rfl (by decide) rfl ?_
        refine g_goto (tgt := 85) C (gd DX10_greatest_1 27 rfl) (by decide) ?_
        refine GW.sub [0, 1, 2, 3] rfl (Nat.le_refl _) (Nat.le_refl _) (lv' := [(0, _), (1, _), (2, _), (3, _)]) ?_
        refine GW.sub [0, 1, 2, 3] rfl (Nat.le_refl _) (Nat.le_refl _) ?_
        exact GW.cast (by rw [inc1]; rfl) rfl rfl (ih (s + 1) I F Ln (by omega) hI1 hF1)
      have inner : ∀ y2 kk I, kk + y2 = 24 → (∀ v, v < N → I v = nI (cP (fun e => U (e / 24) ∧ G e v) (24 * s + kk))) → GW z w 9 Q 0 0 96 [(0, .ref m), (1, .int (nI r)), (2, .int (nI (cP U N))), (3, .int (nI s)), (4, .int (nI kk))] [] (gH m h2 I F Ln) := by
        intro y2
        induction y2 with
        | zero =>
          intro kk I hkk hI1
          have e24 : kk = 24 := by omega
          subst e24
          have hmX := hmG I F Ln
          refine g_iload C (gd DX10_greatest_0 59 rfl) 4 rfl ?_
          refine g_bipush (v := 24) C (gd DX10_greatest_1 0 rfl) (by decide) ?_
          refine g_icmp_ge C 145 (gd DX10_greatest_1 1 rfl) (by decide) (fun c100 => ?_) (fun c100 => ?_)
          · exact l145 24 I (fun v hv => by rw [hI1 v hv, show 24 * (s + 1) = 24 * s + 24 by omega])
          · exact absurd (by decide) c100
        | succ y2 ih2 =>
          intro kk I hkk hI1
          have hmX := hmG I F Ln
          have gX : GOk m (gH m h2 I F Ln) N := g.congr (by rw [gH_ne (by omega) (by omega) (by omega)]) (by rw [gH_ne (by omega) (by omega) (by omega)])
          refine g_iload C (gd DX10_greatest_0 59 rfl) 4 rfl ?_
          refine g_bipush (v := 24) C (gd DX10_greatest_1 0 rfl) (by decide) ?_
          refine g_icmp_ge C 145 (gd DX10_greatest_1 1 rfl) (by decide) (fun c100 => ?_) (fun c100 => ?_)
          · exact absurd c100 (nI_ge (a := kk) (b := 24) (by omega) (by omega))
          refine g_aload_n C (gd DX10_greatest_1 2 rfl) 0 rfl rfl ?_
          refine g_getr (ci := 10) (k := 41) C rfl (by decide) rfl lf_TestJudgeModel_59 hmX.1 (hmX.2 41 13 15 16500 rfl).1 (gd DX10_greatest_1 3 rfl) ?_
          refine g_iload_n C (gd DX10_greatest_1 4 rfl) 3 rfl rfl ?_
          refine g_zaj (j := s) C (hmX.2 41 13 15 16500 rfl).2.1 (hmX.2 41 13 15 16500 rfl).2.2 (by decide) rfl (by omega) (gd DX10_greatest_1 5 rfl) ?_
          rw [gH_ne (by omega) (by omega) (by omega)]
          refine g_if_eq C 145 (gd DX10_greatest_1 6 rfl) (by decide) (fun c109 => ?_) (fun c109 => ?_)
          · refine l145 kk I (fun v hv => ?_)
            have hnu : ¬ U s := fun q => by rw [← hU] at q; rw [q.2] at c109; exact absurd c109 (by decide)
            rw [hI1 v hv, cP_up (a := 24 * s + kk) (24 - kk) (fun e h1 h2 q => hnu (by rw [show e / 24 = s by omega] at q; exact q.1)), show 24 * s + kk + (24 - kk) = 24 * (s + 1) by omega]
          have hus : U s := by rw [← hU]; exact ⟨by omega, (u1 s (by omega)).elim (fun q => absurd q c109) id⟩
          refine g_aload_n C (gd DX10_greatest_1 7 rfl) 0 rfl rfl ?_
          refine g_iload_n C (gd DX10_greatest_1 8 rfl) 3 rfl rfl ?_
          refine g_iload C (gd DX10_greatest_1 9 rfl) 4 rfl ?_
          refine g_cV1 (ci := 10) C [_, _] mX10_usefulNext lm_TestJudgeModel_399 (by exact hmX.1) rfl rfl (e_m_usefulNext hmX hg1 (show s < N by omega) (by omega : kk < 24) gX.2.2) hfl (by decide) (by decide) (by omega) (by omega) rfl rfl (Nat.le_of_ble_eq_true rfl) (gd DX10_greatest_1 10 rfl) ?_
          rw [gH_u]
          rcases uNx_cases g (show s < N by omega) (show kk < 24 by omega) with q | ⟨v, hv, q1, q2, q3⟩
          · rw [q]
            refine g_iconst (v := -1) C (gd DX10_greatest_1 11 rfl) (by decide) ?_
            refine g_icmp_eq C 139 (gd DX10_greatest_1 12 rfl) (by decide) (fun c120 => ?_) (fun c120 => ?_)
            rotate_left
            · exact absurd rfl c120
            refine g_iinc (lv' := [(0, _), (1, _), (2, _), (3, _), (4, _)]) C (gd DX10_greatest_1 24 rfl) 4 [1, 2, 3, 4, 0] rfl rfl (by decide) rfl ?_
            refine g_goto (tgt := 96) C (gd DX10_greatest_1 25 rfl) (by decide) ?_
            refine GW.cast (by rw [inc1]) rfl rfl (ih2 (kk + 1) I (by omega) (fun v hv => ?_))
            rw [hI1 v hv, show 24 * s + (kk + 1) = 24 * s + kk + 1 by omega, cP_f (fun x => ?_)]
            have x2 := x.2
            rw [← hG] at x2
            rw [x2.2] at q
            exact nI_m1 (by have := x2.1; omega) q
          · rw [q1]
            have hGv : G (24 * s + kk) v := by rw [← hG]; exact ⟨hv, q1⟩
            have hbd := cP_bd (p := fun e => U (e / 24) ∧ G e v) (24 * s + kk)
            refine g_iconst (v := -1) C (gd DX10_greatest_1 11 rfl) (by decide) ?_
            refine g_icmp_eq C 139 (gd DX10_greatest_1 12 rfl) (by decide) (fun c120 => ?_) (fun c120 => ?_)
            · exact absurd c120 (nI_m1 (by omega))
            refine g_aload_n C (gd DX10_greatest_1 13 rfl) 0 rfl rfl ?_
            refine g_getr (ci := 10) (k := 46) C rfl (by decide) rfl lf_TestJudgeModel_72 hmX.1 (hmX.2 46 17 12 16500 rfl).1 (gd DX10_greatest_1 14 rfl) ?_
            refine g_aload_n C (gd DX10_greatest_1 15 rfl) 0 rfl rfl ?_
            refine g_iload_n C (gd DX10_greatest_1 16 rfl) 3 rfl rfl ?_
            refine g_iload C (gd DX10_greatest_1 17 rfl) 4 rfl ?_
            refine g_cV1 (ci := 10) C [_, _] mX10_usefulNext lm_TestJudgeModel_399 (by exact hmX.1) rfl rfl (e_m_usefulNext hmX hg1 (show s < N by omega) (by omega : kk < 24) gX.2.2) hfl (by decide) (by decide) (by omega) (by omega) rfl rfl (Nat.le_of_ble_eq_true rfl) (gd DX10_greatest_1 18 rfl) ?_
            rw [gH_u, q1]
            refine g_dup2 C (gd DX10_greatest_1 19 rfl) rfl rfl ?_
            refine g_iaj (j := v) C (hmX.2 46 17 12 16500 rfl).2.1 (hmX.2 46 17 12 16500 rfl).2.2 (by decide) rfl (by omega) (gd DX10_greatest_1 20 rfl) ?_
            refine g_iconst (v := 1) C (gd DX10_greatest_1 21 rfl) (by decide) ?_
            refine g_iadd C (gd DX10_greatest_1 22 rfl) ?_
            rw [gH_17, hI1 v hv, show nI (cP (fun e => U (e / 24) ∧ G e v) (24 * s + kk)) + 1 = nI (cP (fun e => U (e / 24) ∧ G e v) (24 * s + kk) + 1) from inc1 _]
            refine g_isj (j := v) C (hmX.2 46 17 12 16500 rfl).2.1 (hmX.2 46 17 12 16500 rfl).2.2 (by decide) rfl (by omega) (gd DX10_greatest_1 23 rfl) ?_
            rw [gH_s17]
            have hmY := hmG (upd I v (nI (cP (fun e => U (e / 24) ∧ G e v) (24 * s + kk) + 1))) F Ln
            refine g_iinc (lv' := [(0, _), (1, _), (2, _), (3, _), (4, _)]) C (gd DX10_greatest_1 24 rfl) 4 [1, 2, 3, 4, 0] rfl rfl (by decide) rfl ?_
            refine g_goto (tgt := 96) C (gd DX10_greatest_1 25 rfl) (by decide) ?_
            refine GW.cast (by rw [inc1]) rfl rfl (ih2 (kk + 1) _ (by omega) (fun x hx => ?_))
            rw [show 24 * s + (kk + 1) = 24 * s + kk + 1 by omega]
            unfold upd
            by_cases c : x = v
            · rw [if_pos c, c, cP_t ⟨by rw [show (24 * s + kk) / 24 = s by omega]; exact hus, hGv⟩]
            · rw [if_neg c, cP_f (fun q => c (hGf _ _ _ q.2 hGv)), hI1 x hx]
      refine g_iload_n C (gd DX10_greatest_0 53 rfl) 3 rfl rfl ?_
      refine g_aload_n C (gd DX10_greatest_0 54 rfl) 0 rfl rfl ?_
      refine g_geti (ci := 10) (k := 42) C rfl (by decide) rfl lf_TestJudgeModel_357 hmX.1 (gd DX10_greatest_0 55 rfl) ?_
      rw [e42]
      refine g_icmp_ge C 151 (gd DX10_greatest_0 56 rfl) (by decide) (fun c90 => ?_) (fun c90 => ?_)
      · exact absurd c90 (nI_ge (a := s) (b := N) (by omega) (by omega))
      refine g_iconst (v := 0) C (gd DX10_greatest_0 57 rfl) (by decide) ?_
      refine g_istore (lv' := [(0, _), (1, _), (2, _), (3, _), (4, _)]) C (gd DX10_greatest_0 58 rfl) [1, 2, 3, 4, 0] (by decide) rfl ?_
      exact inner 24 0 I (by omega) hI1
  have l38 : ∀ y s I F Ln, s + y = N → (∀ v, v < s → I v = 0 ∧ F v = 0) → GW z w 9 Q 0 0 38 [(0, .ref m), (1, .int (nI r)), (2, .int (nI (cP U s))), (3, .int (nI s))] [] (gH m h2 I F Ln) := by
    intro y
    induction y with
    | zero =>
      intro s I F Ln hs hI1
      have e : s = N := by omega
      subst e
      have hmX := hmG I F Ln
      refine g_iload_n C (gd DX10_greatest_0 24 rfl) 3 rfl rfl ?_
      refine g_aload_n C (gd DX10_greatest_0 25 rfl) 0 rfl rfl ?_
      refine g_geti (ci := 10) (k := 42) C rfl (by decide) rfl lf_TestJudgeModel_357 hmX.1 (gd DX10_greatest_0 26 rfl) ?_
      rw [e42]
      refine g_icmp_ge C 83 (gd DX10_greatest_0 27 rfl) (by decide) (fun c43 => ?_) (fun c43 => ?_)
      · refine g_iconst (v := 0) C (gd DX10_greatest_0 51 rfl) (by decide) ?_
        refine g_istore_n (lv' := [(0, _), (1, _), (2, _), (3, _)]) C (gd DX10_greatest_0 52 rfl) [1, 2, 3, 0] rfl (by decide) rfl ?_
        exact l85 s 0 I F Ln (by omega) (fun v hv => (hI1 v hv).1) (fun v hv => (hI1 v hv).2)
      · exact absurd (Int32.le_refl _) c43
    | succ y ih =>
      intro s I F Ln hs hI1
      have hmX := hmG I F Ln
      refine g_iload_n C (gd DX10_greatest_0 24 rfl) 3 rfl rfl ?_
      refine g_aload_n C (gd DX10_greatest_0 25 rfl) 0 rfl rfl ?_
      refine g_geti (ci := 10) (k := 42) C rfl (by decide) rfl lf_TestJudgeModel_357 hmX.1 (gd DX10_greatest_0 26 rfl) ?_
      rw [e42]
      refine g_icmp_ge C 83 (gd DX10_greatest_0 27 rfl) (by decide) (fun c43 => ?_) (fun c43 => ?_)
      · exact absurd c43 (nI_ge (a := s) (b := N) (by omega) (by omega))
      refine g_aload_n C (gd DX10_greatest_0 28 rfl) 0 rfl rfl ?_
      refine g_getr (ci := 10) (k := 46) C rfl (by decide) rfl lf_TestJudgeModel_72 hmX.1 (hmX.2 46 17 12 16500 rfl).1 (gd DX10_greatest_0 29 rfl) ?_
      refine g_iload_n C (gd DX10_greatest_0 30 rfl) 3 rfl rfl ?_
      refine g_iconst (v := 0) C (gd DX10_greatest_0 31 rfl) (by decide) ?_
      refine g_isj (j := s) C (hmX.2 46 17 12 16500 rfl).2.1 (hmX.2 46 17 12 16500 rfl).2.2 (by decide) rfl (by omega) (gd DX10_greatest_0 32 rfl) ?_
      rw [gH_s17]
      have hmY := hmG (upd I s 0) F Ln
      refine g_aload_n C (gd DX10_greatest_0 33 rfl) 0 rfl rfl ?_
      refine g_getr (ci := 10) (k := 47) C rfl (by decide) rfl lf_TestJudgeModel_75 hmY.1 (hmY.2 47 18 12 16500 rfl).1 (gd DX10_greatest_0 34 rfl) ?_
      refine g_iload_n C (gd DX10_greatest_0 35 rfl) 3 rfl rfl ?_
      refine g_iconst (v := 0) C (gd DX10_greatest_0 36 rfl) (by decide) ?_
      refine g_isj (j := s) C (hmY.2 47 18 12 16500 rfl).2.1 (hmY.2 47 18 12 16500 rfl).2.2 (by decide) rfl (by omega) (gd DX10_greatest_0 37 rfl) ?_
      rw [gH_s18]
      have hmZ := hmG (upd I s 0) (upd F s 0) Ln
      have hnx : ∀ v, v < s + 1 → upd I s 0 v = 0 ∧ upd F s 0 v = 0 := fun v hv => by
        unfold upd
        by_cases c : v = s
        · rw [if_pos c, if_pos c]; exact ⟨rfl, rfl⟩
        · rw [if_neg c, if_neg c]; exact hI1 v (by omega)
      refine g_iload_n C (gd DX10_greatest_0 38 rfl) 2 rfl rfl ?_
      refine g_aload_n C (gd DX10_greatest_0 39 rfl) 0 rfl rfl ?_
      refine g_getr (ci := 10) (k := 41) C rfl (by decide) rfl lf_TestJudgeModel_59 hmZ.1 (hmZ.2 41 13 15 16500 rfl).1 (gd DX10_greatest_0 40 rfl) ?_
      refine g_iload_n C (gd DX10_greatest_0 41 rfl) 3 rfl rfl ?_
      refine g_zaj (j := s) C (hmZ.2 41 13 15 16500 rfl).2.1 (hmZ.2 41 13 15 16500 rfl).2.2 (by decide) rfl (by omega) (gd DX10_greatest_0 42 rfl) ?_
      rw [gH_ne (by omega) (by omega) (by omega)]
      refine g_if_eq C 74 (gd DX10_greatest_0 43 rfl) (by decide) (fun c67 => ?_) (fun c67 => ?_)
      · have hnu : ¬ U s := fun q => by rw [← hU] at q; rw [q.2] at c67; exact absurd c67 (by decide)
        refine g_iconst (v := 0) C (gd DX10_greatest_0 46 rfl) (by decide) ?_
        refine g_iadd C (gd DX10_greatest_0 47 rfl) ?_
        refine g_istore_n (lv' := [(0, _), (1, _), (2, _), (3, _)]) C (gd DX10_greatest_0 48 rfl) [1, 2, 0, 3] rfl (by decide) rfl ?_
        refine g_iinc (lv' := [(0, _), (1, _), (2, _), (3, _)]) C (gd DX10_greatest_0 49 rfl) 3 [1, 2, 3, 0] rfl rfl (by decide) rfl ?_
        refine g_goto (tgt := 38) C (gd DX10_greatest_0 50 rfl) (by decide) ?_
        exact GW.cast (by rw [inc1, cP_f hnu, Int32.add_zero]) rfl rfl (ih (s + 1) _ _ Ln (by omega) hnx)
      · have hus : U s := by rw [← hU]; exact ⟨by omega, (u1 s (by omega)).elim (fun q => absurd q c67) id⟩
        refine g_iconst (v := 1) C (gd DX10_greatest_0 44 rfl) (by decide) ?_
        refine g_goto (tgt := 75) C (gd DX10_greatest_0 45 rfl) (by decide) ?_
        refine g_iadd C (gd DX10_greatest_0 47 rfl) ?_
        refine g_istore_n (lv' := [(0, _), (1, _), (2, _), (3, _)]) C (gd DX10_greatest_0 48 rfl) [1, 2, 0, 3] rfl (by decide) rfl ?_
        refine g_iinc (lv' := [(0, _), (1, _), (2, _), (3, _)]) C (gd DX10_greatest_0 49 rfl) 3 [1, 2, 3, 0] rfl rfl (by decide) rfl ?_
        refine g_goto (tgt := 38) C (gd DX10_greatest_0 50 rfl) (by decide) ?_
        exact GW.cast (by rw [inc1, cP_t hus, show nI (cP U s) + 1 = nI (cP U s + 1) from inc1 _]) rfl rfl (ih (s + 1) _ _ Ln (by omega) hnx)
  refine g_iconst (v := 0) C (gd DX10_greatest_0 20 rfl) (by decide) ?_
  refine g_istore_n (lv' := [(0, _), (1, _), (2, _)]) C (gd DX10_greatest_0 21 rfl) [1, 2, 0] rfl (by decide) rfl ?_
  refine g_iconst (v := 0) C (gd DX10_greatest_0 22 rfl) (by decide) ?_
  refine g_istore_n (lv' := [(0, _), (1, _), (2, _), (3, _)]) C (gd DX10_greatest_0 23 rfl) [1, 2, 3, 0] rfl (by decide) rfl ?_
  exact GW.cast rfl rfl gH_self.symm (l38 N 0 _ _ _ (by omega) (fun v hv => by omega))
end M48
