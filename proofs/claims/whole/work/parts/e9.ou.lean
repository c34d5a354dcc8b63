/-! The class's out where it answers; the reference's out -/
section OU
variable {w : gD} {x W m : Nat} {h : HS} {V : aV} {RC : Nat → Nat → Int32} {M : aM}
theorem e_x_out (K : K0 x W h V RC) (hM : kvM x h M) {j : Nat} (hj : j < M.2.2.2.1) : EvF w 0 0 0 yX9_out cX9_out 2 (some .int) [.ref x, .int (nI j)] h (some (.int (M.2.2.2.2 j))) h := by
  refine g_start (by decide) (Nat.le_of_ble_eq_true rfl) [(0, _), (1, _)] rfl (fun z hfl C => ?_)
  have hx := K.1
  obtain ⟨-, -, -, m1, m2, m3⟩ := hM
  have hp : hK h (x + 47) = 2 ∧ hR h (x + 47) 0 = some (x + 48) ∧ hK h (x + 48) = 14 ∧ hN h (x + 48) = 7620 := hx.2.2.2.2.2.2.2.1.2
  refine g_iload_n C (gd DX9_out_0 0 rfl) 1 rfl rfl ?_
  refine g_if_lt C 15 (gd DX9_out_0 1 rfl) (by decide) (fun c1 => ?_) (fun c1 => ?_)
  · exact absurd c1 (nI_nn (by omega))
  refine g_iload_n C (gd DX9_out_0 2 rfl) 1 rfl rfl ?_
  refine g_aload_n C (gd DX9_out_0 3 rfl) 0 rfl rfl ?_
  refine g_getr (ci := 9) (k := 10) C rfl (by decide) rfl lf_TestJudge_64 hx.1 hx.2.2.2.2.2.2.2.1.1 (gd DX9_out_0 4 rfl) ?_
  refine g_geti (ci := 1) (k := 1) C rfl (by decide) rfl lf_TestJudge_311 hp.1 (gd DX9_out_0 5 rfl) ?_
  rw [m1]
  refine g_icmp_lt C 23 (gd DX9_out_0 6 rfl) (by decide) (fun c2 => ?_) (fun c2 => ?_)
  rotate_left
  · exact absurd (nI_lt hj (by omega)) c2
  refine g_aload_n C (gd DX9_out_0 11 rfl) 0 rfl rfl ?_
  refine g_getr (ci := 9) (k := 10) C rfl (by decide) rfl lf_TestJudge_64 hx.1 hx.2.2.2.2.2.2.2.1.1 (gd DX9_out_0 12 rfl) ?_
  refine g_getr (ci := 1) (k := 0) C rfl (by decide) rfl lf_TestJudge_319 hp.1 hp.2.1 (gd DX9_out_0 13 rfl) ?_
  refine g_iload_n C (gd DX9_out_0 14 rfl) 1 rfl rfl ?_
  refine g_baj (j := j) C hp.2.2.1 hp.2.2.2 (by decide) rfl (by omega) (gd DX9_out_0 15 rfl) ?_
  rw [m3 j hj]
  exact g_iret C (by omega) (by omega) ⟨rfl, rfl⟩ (gd DX9_out_0 16 rfl)
theorem MV.t1 {h' : HS} (v : MV m h V M) (k : mKp m h h') (p2 : hI h' m 11 = M.2.1.1) : MV m h' V M := by
  obtain ⟨fw, ⟨v1, v2, v3⟩, v4, v5, ⟨v6, v7⟩, ⟨v8, v9, va⟩, ⟨vb, vc, vd⟩, ⟨ve, vf, vg⟩, ⟨vh, vi, vj⟩, vk⟩ := v
  have ok := v1.kp k
  have hnp : vNp V ≤ 8 := v1.2.2.2.1.1
  have hnf : vNf V ≤ 2 := v1.2.2.2.2.1.1
  have pr : ∀ r, r < 11 → mPr m h' r = mPr m h r := fun r hr => mPr_kp k hr
  have fc : ∀ f, f < 3 → mFc m h' f = mFc m h f := fun f hf => mFc_kp k hf
  obtain ⟨k1, k2, k3, k4, k5, k6, k7⟩ := k
  refine ⟨fw, ⟨ok, v2, by rw [k2 6 (by omega) (by omega) (by omega)]; exact v3⟩, fun i hi => (pr i (by omega)).trans (v4 i hi), fun f hf => (fc f (by omega)).trans (v5 f hf), ⟨by rw [k2 7 (by omega) (by omega) (by omega)]; exact v6, fun i hi => ?_⟩, ⟨by rw [k2 10 (by omega) (by omega) (by omega)]; exact v8, v9, by rw [k6]; exact va⟩, ⟨p2, by rw [k2 12 (by omega) (by omega) (by omega)]; exact vc, by rw [k2 13 (by omega) (by omega) (by omega)]; exact vd⟩, ⟨by rw [k2 14 (by omega) (by omega) (by omega)]; exact ve, by rw [k2 15 (by omega) (by omega) (by omega)]; exact vf, by rw [k2 16 (by omega) (by omega) (by omega)]; exact vg⟩, ⟨by rw [k3]; exact vh, vi, by rw [k7]; exact vj⟩, vk⟩
  unfold kpT
  rw [k5]
  exact v7 i hi
/-- the reference's: what it answers, whether it throws -/
theorem b_m_out (v : MV m h V M) (k : Int32) : Ev w 0 0 0 yX10_out cX10_out 2 (some .int) [.ref m, .int k] h (fun r' h' => r' = some (.int (if 0 ≤ k ∧ k < nI M.2.2.2.1 then M.2.2.2.2 k.toNatClampNeg else 0)) ∧ MV m h' V M ∧ hI h' m 1 = (if 0 ≤ k ∧ k < nI M.2.2.2.1 then 0 else 1)) := by
  obtain ⟨fw, ⟨v1, v2, v3⟩, v4, v5, v6, v8, ⟨s1, s2, s3⟩, vw, ⟨o1, o2, o3⟩, -⟩ := id v
  refine Ev.to (e_m_out v1.1 (n := M.2.2.2.1) (by omega) o1 k) (fun r' h' hp => ?_)
  obtain ⟨rfl, rfl⟩ := hp
  refine ⟨?_, ?_, by rw [hI_sI, if_pos ⟨rfl, rfl⟩]⟩
  · by_cases c : 0 ≤ k ∧ k < nI M.2.2.2.1
    · rw [if_pos c, if_pos c]
      obtain ⟨j, hj, rfl⟩ := nI_of (Int32.not_lt.mpr c.1)
      have lj : j < M.2.2.2.1 := by
        rcases Nat.lt_or_ge j M.2.2.2.1 with q | q
        · exact q
        · exact absurd (nI_le q hj) (Int32.not_le.mpr c.2)
      rw [nI_clamp (by omega), o3 j lj]
    · rw [if_neg c, if_neg c]
  · have k1 : mKp m h (sI h m 1 (if 0 ≤ k ∧ k < nI M.2.2.2.1 then 0 else 1)) := by
      refine mKp.of ⟨rfl, rfl, rfl, rfl⟩ (fun b j h1 h2 h3 h4 => ?_) (fun r k _ _ => ?_)
      · rw [hI_sI, if_neg (by omega)]
      · unfold gRec
        rw [hI_sI, if_neg (by omega)]
    exact v.t1 k1 (by rw [hI_sI, if_neg (by omega)]; exact s1)
theorem e_m_thr (v : MV m h V M) : EvF w 0 0 0 yX10_thrown cX10_thrown 1 (some .int) [.ref m] h (some (.int (hI h m 1))) h := by
  obtain ⟨fw, ⟨v1, -⟩, -⟩ := v
  exact e_m_thrown v1.1
end OU
