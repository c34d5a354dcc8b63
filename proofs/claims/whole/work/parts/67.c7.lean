/-! Search: the calls look, goOnBy, goOn -/
theorem gst_to {sc : Int64 → Nat → Option Int64} {key : Int64} {i : Nat} {L : List (Int64 × Nat)} {BH : Nat → Int32} : ∀ d k, k + d ≤ 24 → (∀ t, k ≤ t → t < k + d → sc key t = none) → bhI sc key (gst sc key i L k) BH k → gst sc key i L (k + d) = gst sc key i L k ∧ bhI sc key (gst sc key i L (k + d)) BH (k + d) := by
  intro d
  induction d with
  | zero => intro k _ _ hb; exact ⟨rfl, hb⟩
  | succ d ih =>
    intro k hk hn hb
    obtain ⟨e, b⟩ := ih k (by omega) (fun t h1 h2 => hn t h1 (by omega)) hb
    have hno := hn (k + d) (by omega) (by omega)
    rw [show k + (d + 1) = k + d + 1 by omega, gst_n hno]
    exact ⟨e, b.n hno⟩
section C7
variable {w : gD} {s : Nat} {h : HS}
theorem e_s_look (hs : sSh s h) {P : kP} (rd : sRd P s h) {nt na : Nat} {L : List (Int64 × Nat)} (ok : kOk P L) {F BH NU SI CA : Nat → Int32} (fl : sFl P nt na F) (q : sQ L F NU SI CA) {i v : Nat} {key : Int64} (hi : L[i]? = some (key, v)) (hl : L.length ≤ 16385) :
    EvF w 1 0 0 yX5_look cX5_look 4 none [.ref s, .int (nI i)] (hS s h F BH NU SI CA) none (hS s h (lkS P key F) BH NU SI CA) := by
  refine g_start (by decide) (Nat.le_of_ble_eq_true rfl) [(0, _), (1, _)] rfl (fun z hfl C => ?_)
  have hil := (List.getElem?_eq_some_iff.mp hi).1
  have hkw : kW P key := ok.1 i _ hi
  have hlt := hkw.lt rd.1
  have last : ∀ x2 x3, GW z w 4 (gQ z w 0 0 (fun r' h'' => r' = none ∧ h'' = hS s h (lkS P key F) BH NU SI CA)) 0 0 90 [(0, .ref s), (1, .int (nI i)), (2, .int x2), (3, .int x3)] [.int (if key = BEG then 0 else nI (kCode key) >>> ((12 : Int32) &&& 31) &&& 3), .int 64, .ref s] (hS s h (upd (upd F 9 (kS1 key)) 10 (kS2 key)) BH NU SI CA) := by
    intro x2 x3
    have e3 : 64 ||| (if key = BEG then 0 else nI (kCode key) >>> ((12 : Int32) &&& 31) &&& 3) = kS3 key := by
      rcases look_sets rd.1 hkw with ⟨y1, y2⟩ | ⟨y1, y2, y3, y4, y5⟩
      · rw [if_pos y1, kS3, if_pos y1]; rfl
      · rw [if_neg y1, y5]
    refine g_ior C (gd DX5_look_0 51 rfl) ?_
    refine g_puti (ci := 5) (k := 11) C rfl (by decide) rfl lf_TestJudge_Search_50 hs.1 (Or.inl rfl) rfl (gd DX5_look_0 52 rfl) ?_
    refine g_aload_n C (gd DX5_look_0 53 rfl) 0 rfl rfl ?_
    refine g_iconst (v := 1) C (gd DX5_look_0 54 rfl) (by decide) ?_
    refine g_aload_n C (gd DX5_look_0 55 rfl) 0 rfl rfl ?_
    refine g_geti (ci := 5) (k := 8) C rfl (by decide) rfl lf_TestJudge_Search_41 hs.1 (gd DX5_look_0 56 rfl) ?_
    rw [e3, hS_i0, hS_0]
    rw [show upd (upd (upd F 9 (kS1 key)) 10 (kS2 key)) 11 (kS3 key) 8 = nI (2 ^ nt) from fl.2.2.2.2.2]
    refine g_ishl C (gd DX5_look_0 57 rfl) ?_
    refine g_iconst (v := 1) C (gd DX5_look_0 58 rfl) (by decide) ?_
    refine g_isub C (gd DX5_look_0 59 rfl) ?_
    refine g_aload_n C (gd DX5_look_1 0 rfl) 0 rfl rfl ?_
    refine g_getr (ci := 5) (k := 6) C rfl (by decide) rfl lf_TestJudge_Search_35 hs.1 hs.2.2.2.2.1.1 (gd DX5_look_1 1 rfl) ?_
    refine g_aload_n C (gd DX5_look_1 2 rfl) 0 rfl rfl ?_
    refine g_geti (ci := 5) (k := 11) C rfl (by decide) rfl lf_TestJudge_Search_50 hs.1 (gd DX5_look_1 3 rfl) ?_
    rw [hS_0]
    rw [show upd (upd (upd F 9 (kS1 key)) 10 (kS2 key)) 11 (kS3 key) 11 = kS3 key from rfl]
    refine g_cV1 (ci := 4) C [_] mX4_endsOf lm_TestJudge_Search_100 (by exact hs.2.2.2.2.1.2.1) rfl rfl (e_r_endsOf (h := hS s h _ BH NU SI CA) (by exact hs.2.2.2.2.1.2) _) hfl (by decide) (by decide) (by omega) (by omega) rfl rfl (Nat.le_of_ble_eq_true rfl) (gd DX5_look_1 4 rfl) ?_
    rw [show hI (hS s h (upd (upd (upd F 9 (kS1 key)) 10 (kS2 key)) 11 (kS3 key)) BH NU SI CA) (s + 10 + 2) = hI h (s + 12) from hS_ne (by omega)]
    refine g_iconst (v := -1) C (gd DX5_look_1 5 rfl) (by decide) ?_
    refine g_ixor C (gd DX5_look_1 6 rfl) ?_
    refine g_iand C (gd DX5_look_1 7 rfl) ?_
    rw [look_gd rd fl.1 fl.2.2.1 hkw]
    refine g_puti (ci := 5) (k := 12) C rfl (by decide) rfl lf_TestJudge_Search_53 hs.1 (Or.inl rfl) rfl (gd DX5_look_1 8 rfl) ?_
    refine g_aload_n C (gd DX5_look_1 9 rfl) 0 rfl rfl ?_
    refine g_aload_n C (gd DX5_look_1 10 rfl) 0 rfl rfl ?_
    refine g_getr (ci := 5) (k := 4) C rfl (by decide) rfl lf_TestJudge_Search_28 hs.1 hs.2.2.1.1 (gd DX5_look_1 11 rfl) ?_
    refine g_aload_n C (gd DX5_look_1 12 rfl) 0 rfl rfl ?_
    refine g_geti (ci := 5) (k := 9) C rfl (by decide) rfl lf_TestJudge_Search_44 hs.1 (gd DX5_look_1 13 rfl) ?_
    rw [hS_i0, hS_0]
    rw [show upd (upd (upd (upd F 9 (kS1 key)) 10 (kS2 key)) 11 (kS3 key)) 12 (kGd P key) 9 = kS1 key from rfl]
    refine g_cV1 (ci := 4) C [_] mX4_endsOf lm_TestJudge_Search_100 (by exact hs.2.2.1.2.1) rfl rfl (e_r_endsOf (h := hS s h _ BH NU SI CA) (by exact hs.2.2.1.2) _) hfl (by decide) (by decide) (by omega) (by omega) rfl rfl (Nat.le_of_ble_eq_true rfl) (gd DX5_look_1 14 rfl) ?_
    rw [show hI (hS s h (upd (upd (upd (upd F 9 (kS1 key)) 10 (kS2 key)) 11 (kS3 key)) 12 (kGd P key)) BH NU SI CA) (s + 2 + 2) = hI h (s + 4) from hS_ne (by omega)]
    refine g_aload_n C (gd DX5_look_1 15 rfl) 0 rfl rfl ?_
    refine g_geti (ci := 5) (k := 12) C rfl (by decide) rfl lf_TestJudge_Search_53 hs.1 (gd DX5_look_1 16 rfl) ?_
    rw [hS_0]
    rw [show upd (upd (upd (upd F 9 (kS1 key)) 10 (kS2 key)) 11 (kS3 key)) 12 (kGd P key) 12 = kGd P key from rfl]
    refine g_iand C (gd DX5_look_1 17 rfl) ?_
    rw [look_e1 rd hkw]
    refine g_puti (ci := 5) (k := 1) C rfl (by decide) rfl lf_TestJudge_Search_17 hs.1 (Or.inl rfl) rfl (gd DX5_look_1 18 rfl) ?_
    refine g_aload_n C (gd DX5_look_1 19 rfl) 0 rfl rfl ?_
    refine g_aload_n C (gd DX5_look_1 20 rfl) 0 rfl rfl ?_
    refine g_getr (ci := 5) (k := 5) C rfl (by decide) rfl lf_TestJudge_Search_32 hs.1 hs.2.2.2.1.1 (gd DX5_look_1 21 rfl) ?_
    refine g_aload_n C (gd DX5_look_1 22 rfl) 0 rfl rfl ?_
    refine g_geti (ci := 5) (k := 10) C rfl (by decide) rfl lf_TestJudge_Search_47 hs.1 (gd DX5_look_1 23 rfl) ?_
    rw [hS_i0, hS_0]
    rw [show upd (upd (upd (upd (upd F 9 (kS1 key)) 10 (kS2 key)) 11 (kS3 key)) 12 (kGd P key)) 1 (kE1 P key) 10 = kS2 key from rfl]
    refine g_cV1 (ci := 4) C [_] mX4_endsOf lm_TestJudge_Search_100 (by exact hs.2.2.2.1.2.1) rfl rfl (e_r_endsOf (h := hS s h _ BH NU SI CA) (by exact hs.2.2.2.1.2) _) hfl (by decide) (by decide) (by omega) (by omega) rfl rfl (Nat.le_of_ble_eq_true rfl) (gd DX5_look_1 24 rfl) ?_
    rw [show hI (hS s h (upd (upd (upd (upd (upd F 9 (kS1 key)) 10 (kS2 key)) 11 (kS3 key)) 12 (kGd P key)) 1 (kE1 P key)) BH NU SI CA) (s + 6 + 2) = hI h (s + 8) from hS_ne (by omega)]
    refine g_aload_n C (gd DX5_look_1 25 rfl) 0 rfl rfl ?_
    refine g_geti (ci := 5) (k := 12) C rfl (by decide) rfl lf_TestJudge_Search_53 hs.1 (gd DX5_look_1 26 rfl) ?_
    rw [hS_0]
    rw [show upd (upd (upd (upd (upd F 9 (kS1 key)) 10 (kS2 key)) 11 (kS3 key)) 12 (kGd P key)) 1 (kE1 P key) 12 = kGd P key from rfl]
    refine g_iand C (gd DX5_look_1 27 rfl) ?_
    rw [look_e2 rd hkw]
    refine g_puti (ci := 5) (k := 3) C rfl (by decide) rfl lf_TestJudge_Search_24 hs.1 (Or.inl rfl) rfl (gd DX5_look_1 28 rfl) ?_
    exact g_vret C (by omega) (by omega) ⟨rfl, by rw [hS_i0]; rfl⟩ (gd DX5_look_1 29 rfl)
  refine g_iload_n C (gd DX5_look_0 0 rfl) 1 rfl rfl ?_
  refine g_if_lt C 21 (gd DX5_look_0 1 rfl) (by decide) (fun c1 => ?_) (fun c1 => ?_)
  · exact absurd c1 (fun x => by have := Int32.lt_iff_toInt_lt.mp x; rw [nI_toInt (by omega)] at this; have h0 : (0 : Int32).toInt = 0 := rfl; omega)
  · refine g_iload_n C (gd DX5_look_0 2 rfl) 1 rfl rfl ?_
    refine g_aload_n C (gd DX5_look_0 3 rfl) 0 rfl rfl ?_
    refine g_geti (ci := 5) (k := 0) C rfl (by decide) rfl lf_TestJudge_Search_13 hs.1 (gd DX5_look_0 4 rfl) ?_
    rw [hS_0, q.1]
    refine g_icmp_ge C 21 (gd DX5_look_0 5 rfl) (by decide) (fun c9 => ?_) (fun c9 => ?_)
    · exact absurd c9 (nI_ge hil (by omega))
    · refine g_aload_n C (gd DX5_look_0 6 rfl) 0 rfl rfl ?_
      refine g_getr (ci := 5) (k := 16) C rfl (by decide) rfl lf_TestJudge_Search_65 hs.1 hs.2.2.2.2.2.2.1.1 (gd DX5_look_0 7 rfl) ?_
      refine g_iload_n C (gd DX5_look_0 8 rfl) 1 rfl rfl ?_
      refine g_iaj (j := i) C hs.2.2.2.2.2.2.1.2.1 hs.2.2.2.2.2.2.1.2.2 (by first | decide | omega) rfl (by omega) (gd DX5_look_0 9 rfl) ?_
      rw [hS_15, (q.2.1 i (key, v) hi).1]
      refine g_goto (tgt := 22) C (gd DX5_look_0 10 rfl) (by decide) ?_
      refine g_istore_n (lv' := [(0, _), (1, _), (2, _)]) C (gd DX5_look_0 12 rfl) [1, 2, 0] rfl (by decide) rfl ?_
      refine g_iload_n C (gd DX5_look_0 13 rfl) 2 rfl rfl ?_
      refine g_sipush (v := 16384) C (gd DX5_look_0 14 rfl) (by decide) ?_
      rcases look_sets rd.1 hkw with ⟨y1, y2⟩ | ⟨y1, y2, y3, y4, y5⟩
      · rw [y2]
        refine g_icmp_ne C 34 (gd DX5_look_0 15 rfl) (by decide) (fun c27 => ?_) (fun c27 => ?_)
        · exact absurd rfl c27
        · refine g_iconst (v := 1) C (gd DX5_look_0 16 rfl) (by decide) ?_
          refine g_goto (tgt := 35) C (gd DX5_look_0 17 rfl) (by decide) ?_
          refine g_istore_n (lv' := [(0, _), (1, _), (2, _), (3, _)]) C (gd DX5_look_0 19 rfl) [1, 2, 3, 0] rfl (by decide) rfl ?_
          refine g_aload_n C (gd DX5_look_0 20 rfl) 0 rfl rfl ?_
          refine g_iload_n C (gd DX5_look_0 21 rfl) 3 rfl rfl ?_
          refine g_if_eq C 46 (gd DX5_look_0 22 rfl) (by decide) (fun c38 => ?_) (fun c38 => ?_)
          · exact absurd c38 (by decide)
          · refine g_bipush (v := 64) C (gd DX5_look_0 23 rfl) (by decide) ?_
            refine g_goto (tgt := 50) C (gd DX5_look_0 24 rfl) (by decide) ?_
            refine g_puti (ci := 5) (k := 9) C rfl (by decide) rfl lf_TestJudge_Search_44 hs.1 (Or.inl rfl) rfl (gd DX5_look_0 28 rfl) ?_
            refine g_aload_n C (gd DX5_look_0 29 rfl) 0 rfl rfl ?_
            refine g_iload_n C (gd DX5_look_0 30 rfl) 3 rfl rfl ?_
            rw [show sI (hS s h F BH NU SI CA) s 9 64 = hS s h (upd F 9 (kS1 key)) BH NU SI CA by rw [hS_i0, kS1, if_pos y1]]
            refine g_if_eq C 63 (gd DX5_look_0 31 rfl) (by decide) (fun c55 => ?_) (fun c55 => ?_)
            · exact absurd c55 (by decide)
            · refine g_bipush (v := 64) C (gd DX5_look_0 32 rfl) (by decide) ?_
              refine g_goto (tgt := 70) C (gd DX5_look_0 33 rfl) (by decide) ?_
              refine g_puti (ci := 5) (k := 10) C rfl (by decide) rfl lf_TestJudge_Search_47 hs.1 (Or.inl rfl) rfl (gd DX5_look_0 39 rfl) ?_
              refine g_aload_n C (gd DX5_look_0 40 rfl) 0 rfl rfl ?_
              refine g_bipush (v := 64) C (gd DX5_look_0 41 rfl) (by decide) ?_
              refine g_iload_n C (gd DX5_look_0 42 rfl) 3 rfl rfl ?_
              rw [show sI (hS s h (upd F 9 (kS1 key)) BH NU SI CA) s 10 64 = hS s h (upd (upd F 9 (kS1 key)) 10 (kS2 key)) BH NU SI CA by rw [hS_i0, kS2, if_pos y1]]
              refine g_if_eq C 84 (gd DX5_look_0 43 rfl) (by decide) (fun c77 => ?_) (fun c77 => ?_)
              · exact absurd c77 (by decide)
              · refine g_iconst (v := 0) C (gd DX5_look_0 44 rfl) (by decide) ?_
                refine g_goto (tgt := 90) C (gd DX5_look_0 45 rfl) (by decide) ?_
                exact GW.cast rfl (by rw [if_pos y1]) rfl (last _ _)
      · refine g_icmp_ne C 34 (gd DX5_look_0 15 rfl) (by decide) (fun c27 => ?_) (fun c27 => ?_)
        · refine g_iconst (v := 0) C (gd DX5_look_0 18 rfl) (by decide) ?_
          refine g_istore_n (lv' := [(0, _), (1, _), (2, _), (3, _)]) C (gd DX5_look_0 19 rfl) [1, 2, 3, 0] rfl (by decide) rfl ?_
          refine g_aload_n C (gd DX5_look_0 20 rfl) 0 rfl rfl ?_
          refine g_iload_n C (gd DX5_look_0 21 rfl) 3 rfl rfl ?_
          refine g_if_eq C 46 (gd DX5_look_0 22 rfl) (by decide) (fun c38 => ?_) (fun c38 => ?_)
          · refine g_iload_n C (gd DX5_look_0 25 rfl) 2 rfl rfl ?_
            refine g_bipush (v := 63) C (gd DX5_look_0 26 rfl) (by decide) ?_
            refine g_iand C (gd DX5_look_0 27 rfl) ?_
            refine g_puti (ci := 5) (k := 9) C rfl (by decide) rfl lf_TestJudge_Search_44 hs.1 (Or.inl rfl) rfl (gd DX5_look_0 28 rfl) ?_
            refine g_aload_n C (gd DX5_look_0 29 rfl) 0 rfl rfl ?_
            refine g_iload_n C (gd DX5_look_0 30 rfl) 3 rfl rfl ?_
            rw [y3, hS_i0]
            refine g_if_eq C 63 (gd DX5_look_0 31 rfl) (by decide) (fun c55 => ?_) (fun c55 => ?_)
            · refine g_iload_n C (gd DX5_look_0 34 rfl) 2 rfl rfl ?_
              refine g_bipush (v := 6) C (gd DX5_look_0 35 rfl) (by decide) ?_
              refine g_ishr C (gd DX5_look_0 36 rfl) ?_
              refine g_bipush (v := 63) C (gd DX5_look_0 37 rfl) (by decide) ?_
              refine g_iand C (gd DX5_look_0 38 rfl) ?_
              refine g_puti (ci := 5) (k := 10) C rfl (by decide) rfl lf_TestJudge_Search_47 hs.1 (Or.inl rfl) rfl (gd DX5_look_0 39 rfl) ?_
              refine g_aload_n C (gd DX5_look_0 40 rfl) 0 rfl rfl ?_
              refine g_bipush (v := 64) C (gd DX5_look_0 41 rfl) (by decide) ?_
              refine g_iload_n C (gd DX5_look_0 42 rfl) 3 rfl rfl ?_
              rw [y4, hS_i0]
              refine g_if_eq C 84 (gd DX5_look_0 43 rfl) (by decide) (fun c77 => ?_) (fun c77 => ?_)
              · refine g_iload_n C (gd DX5_look_0 46 rfl) 2 rfl rfl ?_
                refine g_bipush (v := 12) C (gd DX5_look_0 47 rfl) (by decide) ?_
                refine g_ishr C (gd DX5_look_0 48 rfl) ?_
                refine g_iconst (v := 3) C (gd DX5_look_0 49 rfl) (by decide) ?_
                refine g_iand C (gd DX5_look_0 50 rfl) ?_
                exact GW.cast rfl (by rw [if_neg y1]) rfl (last _ _)
              · exact absurd rfl c77
            · exact absurd rfl c55
          · exact absurd rfl c38
        · exact absurd ((nI_eq (a := kCode key) (b := 16384) (by omega) (by omega)).mp c27) (by omega)
end C7
