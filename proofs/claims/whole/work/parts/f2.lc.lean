/-! The law's cases: what they share -/
abbrev lL (b x m i : Nat) : List (Nat × Value) := [(0, .ref b), (1, .ref x), (2, .ref m), (3, .ref (m + 27)), (4, .int (nI i))]
theorem l_in {i k L : Nat} (h : i + 6 ≤ L) (hL : L ≤ 3072) (hk : k < 6) : vp_in (nI i + nI k) L := by
  rw [nI_add]
  exact vp_in_nI (by omega) (by omega)
theorem l_in0 {i L : Nat} (h : i + 6 ≤ L) (hL : L ≤ 3072) : vp_in (nI i) L := vp_in_nI (by omega) (by omega)
theorem l_in1 {i L : Nat} (h : i + 6 ≤ L) (hL : L ≤ 3072) : vp_in (nI i + 1) L := l_in (k := 1) h hL (by omega)
theorem l_in2 {i L : Nat} (h : i + 6 ≤ L) (hL : L ≤ 3072) : vp_in (nI i + 2) L := l_in (k := 2) h hL (by omega)
theorem l_in3 {i L : Nat} (h : i + 6 ≤ L) (hL : L ≤ 3072) : vp_in (nI i + 3) L := l_in (k := 3) h hL (by omega)
theorem l_in4 {i L : Nat} (h : i + 6 ≤ L) (hL : L ≤ 3072) : vp_in (nI i + 4) L := l_in (k := 4) h hL (by omega)
theorem l_in5 {i L : Nat} (h : i + 6 ≤ L) (hL : L ≤ 3072) : vp_in (nI i + 5) L := l_in (k := 5) h hL (by omega)
theorem lIV.ok {D : lD} {S : State} {m x : Nat} {V : aV} {M : aM} {Y : HS → Prop} {ov : Int64} {H : Heap} (v : lIV D S m (fun h => KV x h V M) Y ov H) : vOK V := by
  obtain ⟨⟨h, -, k⟩, -⟩ := v
  exact k.ok
theorem lIV.m5 {D : lD} {S : State} {m x : Nat} {V : aV} {M : aM} {Y : HS → Prop} {ov : Int64} {H : Heap} (v : lIV D S m (fun h => KV x h V M) Y ov H) : M.1.1 ≤ 500 := by
  obtain ⟨⟨h, -, k⟩, -⟩ := v
  exact k.m5
theorem lIV.wk {D : lD} {S : State} {m : Nat} {V : aV} {M : aM} {X : HS → Prop} {ov : Int64} {H : Heap} (v : lIV D S m X (fun h => MV m h V M) ov H) : vWk V M := by
  obtain ⟨-, ⟨h, -, k⟩, -⟩ := v
  exact k.wk
/-- an int is answered, the tape stays within B -/
def ansI (B : Nat) (Q : Value → aV → aM → Prop) : Prop := ∀ v V1 M1, Q v V1 M1 → (∃ i, v = .int i) ∧ M1.1.1 ≤ B
def ansL (B : Nat) (Q : Value → aV → aM → Prop) : Prop := ∀ v V1 M1, Q v V1 M1 → (∃ i, v = .long i) ∧ M1.1.1 ≤ B
section RI
variable {V : aV} {M : aM}
theorem rI_q {Q : Int32 → Int32 → Prop} : ansI M.1.1 (qQ V M Q) := by
  rintro v V1 M1 ⟨i, st, rfl, -, rfl, rfl⟩
  exact ⟨⟨i, rfl⟩, Nat.le_refl _⟩
theorem rL_q {Q : Int64 → Int32 → Prop} : ansL M.1.1 (qL V M Q) := by
  rintro v V1 M1 ⟨i, st, rfl, -, rfl, rfl⟩
  exact ⟨⟨i, rfl⟩, Nat.le_refl _⟩
theorem rI_say {i : Int32} : ansI M.1.1 (qSay V M i) := by
  rintro v V1 M1 ⟨rfl, rfl, rfl⟩
  exact ⟨⟨i, rfl⟩, Nat.le_refl _⟩
theorem rI_dro {p : Int32} : ansI M.1.1 (qDro V M p) := by
  rintro v V1 M1 (⟨-, rfl, rfl, rfl⟩ | ⟨r, -, -, rfl, rfl, rfl⟩)
  · exact ⟨⟨_, rfl⟩, Nat.le_refl _⟩
  · exact ⟨⟨_, rfl⟩, Nat.le_refl _⟩
theorem rI_ass {p y : Int32} : ansI M.1.1 (qAss V M p y) := by
  rintro v V1 M1 (⟨-, rfl, rfl, rfl⟩ | ⟨f, -, -, ⟨-, rfl, rfl, rfl⟩ | ⟨-, rfl, rfl, rfl⟩⟩)
  · exact ⟨⟨_, rfl⟩, Nat.le_refl _⟩
  · exact ⟨⟨_, rfl⟩, Nat.le_refl _⟩
  · exact ⟨⟨_, rfl⟩, Nat.le_refl _⟩
theorem rI_mak {kd p o test : Int32} : ansI M.1.1 (qMak V M kd p o test) := by
  rintro v V1 M1 (⟨-, rfl, rfl, rfl⟩ | ⟨c, -, -, ⟨-, rfl, rfl, rfl⟩ | ⟨r, q, -, -, -, -, -, ⟨-, rfl, rfl, rfl⟩ | ⟨-, rfl, rfl, rfl⟩⟩⟩)
  · exact ⟨⟨_, rfl⟩, Nat.le_refl _⟩
  · exact ⟨⟨_, rfl⟩, Nat.le_refl _⟩
  · exact ⟨⟨_, rfl⟩, Nat.le_refl _⟩
  · exact ⟨⟨_, rfl⟩, Nat.le_refl _⟩
theorem rI_und : ansI M.1.1 (qUnd V M) := by
  rintro v V1 M1 (⟨-, rfl, rfl, rfl⟩ | ⟨r, -, rfl, rfl, rfl⟩)
  · exact ⟨⟨_, rfl⟩, Nat.le_refl _⟩
  · exact ⟨⟨_, rfl⟩, Nat.le_refl _⟩
theorem rI_wlk {p : Int32} : ansI M.1.1 (qWlk V M p) := by
  rintro v V1 M1 (⟨-, rfl, rfl, rfl⟩ | ⟨r, -, -, ρ, -, ⟨-, rfl, rfl, rfl⟩ | ⟨-, rfl, rfl, rfl⟩⟩)
  · exact ⟨⟨_, rfl⟩, Nat.le_refl _⟩
  · exact ⟨⟨_, rfl⟩, Nat.le_refl _⟩
  · exact ⟨⟨_, rfl⟩, Nat.le_refl _⟩
theorem rI_stp {a c : Int32} : ansI M.1.1 (qStp V M a c) := by
  rintro v V1 M1 (⟨-, rfl, rfl, rfl⟩ | ⟨-, ⟨-, rfl, rfl, rfl⟩ | ⟨r, j, y, z, ρ, i, -, -, -, -, -, -, -, -, -, -, ⟨-, rfl, rfl, rfl⟩ | ⟨-, rfl, rfl, rfl⟩⟩⟩)
  · exact ⟨⟨_, rfl⟩, Nat.le_refl _⟩
  · exact ⟨⟨_, rfl⟩, Nat.le_refl _⟩
  · exact ⟨⟨_, rfl⟩, Nat.le_refl _⟩
  · exact ⟨⟨_, rfl⟩, Nat.le_refl _⟩
theorem rI_pri {p : Int32} : ansI M.1.1 (qPri V M p) := by
  rintro v V1 M1 (⟨-, rfl, rfl, rfl⟩ | ⟨r, -, -, ρ, n, -, -, ⟨-, rfl, rfl, rfl⟩ | ⟨-, rfl, rfl, rfl⟩⟩)
  · exact ⟨⟨_, rfl⟩, Nat.le_refl _⟩
  · exact ⟨⟨_, rfl⟩, Nat.le_refl _⟩
  · exact ⟨⟨_, rfl⟩, Nat.le_refl _⟩
theorem tpF_n (T : aT) (a b c d e : Int32) : (tpF T a b c d e).1 = T.1 + 20 := rfl
theorem rI_fed {a b c d e : Int32} : ansI (M.1.1 + 20) (qFed V M a b c d e) := by
  rintro v V1 M1 ⟨rfl, ⟨-, rfl, rfl⟩ | ⟨-, rfl, rfl⟩⟩
  · exact ⟨⟨_, rfl⟩, Nat.le_of_eq (tpF_n _ _ _ _ _ _)⟩
  · exact ⟨⟨_, rfl⟩, Nat.le_add_right _ _⟩
theorem rI_qld {n : Nat} {r : pLz} : ansI 0 (qLd V M n r) := by
  intro v V1 M1 a
  cases r with
  | inl x =>
    obtain ⟨rfl, rfl, rfl⟩ := a
    exact ⟨⟨_, rfl⟩, Nat.le_refl _⟩
  | inr x =>
    obtain ⟨rfl, rfl, rfl⟩ := a
    exact ⟨⟨_, rfl⟩, Nat.le_refl _⟩
theorem rI_lod {k : Int32} : ansI M.1.1 (qLod V M k) := by
  rintro v V1 M1 (⟨-, rfl, rfl, rfl⟩ | ⟨n, -, -, r, -, q⟩)
  · exact ⟨⟨_, rfl⟩, Nat.le_refl _⟩
  · have := rI_qld _ _ _ q
    exact ⟨this.1, by have := this.2; omega⟩
theorem rI_lod0 {k : Int32} (hk : 0 ≤ k ∧ k ≤ nI M.1.1) : ansI 0 (qLod V M k) := by
  rintro v V1 M1 (⟨c, -⟩ | ⟨n, -, -, r, -, q⟩)
  · exact absurd hk c
  · exact rI_qld _ _ _ q
end RI
section LR
variable {w : gD} {x W : Nat} {h : HS} {V : aV} {RC : Nat → Nat → Int32} {M : aM}
/-- a load that is refused makes nothing -/
theorem e_x_loadR (K : K0 x W h V RC) (hM : kvM x h M) {v : Int32} (hv : ¬ (0 ≤ v ∧ v ≤ nI M.1.1)) : Ev w 21 0 0 yX9_load cX9_load 3 (some .int) [.ref x, .int v] h (aQ x (qLod V M v)) := by
  refine g_start (by decide) (Nat.le_of_ble_eq_true rfl) [(0, _), (1, _)] rfl (fun z hfl C => ?_)
  have hx := K.1
  have k12 : GW z w 3 (gQ z w 0 0 (fun r' h'' => aQ x (qLod V M v) r' h'')) 0 0 12 [(0, .ref x), (1, .int v)] [] h := by
    refine g_aload_n C (gd DX9_load_0 6 rfl) 0 rfl rfl ?_
    refine g_iconst (v := 1) C (gd DX9_load_0 7 rfl) (by decide) ?_
    refine g_cV1 (ci := 9) C [_] mX9_refuse lm_TestJudge_90 (by exact hx.1) rfl rfl (e_x_refuse hx 1) hfl (by first | decide | omega) (by decide) (by omega) (by omega) rfl rfl (Nat.le_of_ble_eq_true rfl) (gd DX9_load_0 8 rfl) ?_
    exact g_iret C (by omega) (by omega) ⟨_, V, mSt M 1, rfl, K.st K (qKp.rf x h) hM 1, Or.inl ⟨hv, rfl, rfl, rfl⟩⟩ (gd DX9_load_0 9 rfl)
  refine g_iload_n C (gd DX9_load_0 0 rfl) 1 rfl rfl ?_
  refine g_if_lt C 12 (gd DX9_load_0 1 rfl) (by decide) (fun c1 => ?_) (fun c1 => ?_)
  · exact k12
  refine g_iload_n C (gd DX9_load_0 2 rfl) 1 rfl rfl ?_
  refine g_aload_n C (gd DX9_load_0 3 rfl) 0 rfl rfl ?_
  refine g_geti (ci := 9) (k := 2) C rfl (by decide) rfl lf_TestJudge_20 hx.1 (gd DX9_load_0 4 rfl) ?_
  rw [hM.1.1]
  refine g_icmp_le C 18 (gd DX9_load_0 5 rfl) (by decide) (fun c9 => ?_) (fun c9 => ?_)
  · exact absurd ⟨Int32.not_lt.mp c1, c9⟩ hv
  · exact k12
end LR
section LQ
variable {z : gZ} {D : lD} {cc : ByteArray} {n : Nat} {ret : Option FieldType} {Q : State → Prop} {cn sn pc : Nat} {lv : List (Nat × Value)} {H : Heap} {m x : Nat} {V V1 : aV} {M M1 : aM} {ov : Int64}
theorem lIV.a {S : State} {Y : HS → Prop} {Qc : Value → aV → aM → Prop} {r : Option Value} (v : lIV D S m (aQ x Qc r) Y ov H) : ∃ u V1 M1, r = some u ∧ Qc u V1 M1 ∧ lIV D S m (fun h => KV x h V1 M1) Y ov H := by
  obtain ⟨⟨h, h1, u, V1, M1, e, k, q⟩, r⟩ := v
  exact ⟨u, V1, M1, e, q, ⟨h, h1, k⟩, r⟩
theorem lIV.b {S : State} {X : HS → Prop} {Qc : Value → aV → aM → Prop} {r : Option Value} (v : lIV D S m X (bQ m Qc r) ov H) : ∃ u V1 M1, r = some u ∧ Qc u V1 M1 ∧ lIV D S m X (fun h => MV m h V1 M1) ov H := by
  obtain ⟨a, ⟨h, h1, u, V1, M1, e, k, q⟩, r⟩ := v
  exact ⟨u, V1, M1, e, q, a, ⟨h, h1, k⟩, r⟩
theorem l_Xi {mc ms B : Nat} {Qc : Value → aV → aM → Prop} (C : lC z D cc n ret) (v : lIV D (zS z) m (fun h => KV x h V M) (fun h => MV m h V M) ov H) {dd index maxL k : Nat} {yy : MethodName} {bytes : ByteArray} (As : List Value) (hm : gMi yy bytes maxL (some .int) k) (hl : Cond.methodLink RL index yy ∈ gtb) (hcx : RX9 = yy.cls) (hE : ∀ (w : gD) (h : HS), gSI w → ∀ (W : Nat) (RC : Nat → Nat → Int32), K0 x W h V RC → kvM x h M → Ev w dd mc ms yy bytes maxL (some .int) (.ref x :: As) h (aQ x Qc)) (hri : ansI B Qc) (hdd : dd + 1 ≤ 1300) (hmax : maxL ≤ 45) (h1 : cn + mc ≤ 601024) (h2 : sn + ms ≤ 7293034) (hlen : As.length = k) {st : List Value} (hst : st = As.reverse ++ [.ref x]) (hd : decode cc pc = .ok (.invokevirtual index, 3))
    (kk : ∀ i1 V1 M1 H1, Qc (.int i1) V1 M1 → M1.1.1 ≤ B → lIV D (zS z) m (fun h => KV x h V1 M1) (fun h => MV m h V M) ov H1 → LW z n (fun q => (zS z).heap.size ≤ q) Q (cn + mc) (sn + ms) (pc + 3) lv [.int i1] H1) : LW z n (fun q => (zS z).heap.size ≤ q) Q cn sn pc lv st H := by
  refine l_X (mc := mc) (ms := ms) C v (fun h q => q.k) (fun h k q => q.t k) (P := aQ x Qc) As hm hl hcx (fun w h si q => ?_) hdd hmax h1 h2 hlen hst (Nat.zero_le _) hd (fun r H1 v => ?_)
  · obtain ⟨W, RC, K, hM⟩ := q
    exact hE w h si W RC K hM
  · obtain ⟨u, V1, M1, rfl, q, v1⟩ := v.a
    obtain ⟨⟨i1, rfl⟩, t⟩ := hri _ _ _ q
    exact kk i1 V1 M1 H1 q t v1
theorem l_Xl {mc ms B : Nat} {Qc : Value → aV → aM → Prop} (C : lC z D cc n ret) (v : lIV D (zS z) m (fun h => KV x h V M) (fun h => MV m h V M) ov H) {dd index maxL k : Nat} {yy : MethodName} {bytes : ByteArray} (As : List Value) (hm : gMi yy bytes maxL (some .long) k) (hl : Cond.methodLink RL index yy ∈ gtb) (hcx : RX9 = yy.cls) (hE : ∀ (w : gD) (h : HS), gSI w → ∀ (W : Nat) (RC : Nat → Nat → Int32), K0 x W h V RC → kvM x h M → Ev w dd mc ms yy bytes maxL (some .long) (.ref x :: As) h (aQ x Qc)) (hri : ansL B Qc) (hdd : dd + 1 ≤ 1300) (hmax : maxL ≤ 45) (h1 : cn + mc ≤ 601024) (h2 : sn + ms ≤ 7293034) (hlen : As.length = k) {st : List Value} (hst : st = As.reverse ++ [.ref x]) (hd : decode cc pc = .ok (.invokevirtual index, 3))
    (kk : ∀ i1 V1 M1 H1, Qc (.long i1) V1 M1 → M1.1.1 ≤ B → lIV D (zS z) m (fun h => KV x h V1 M1) (fun h => MV m h V M) ov H1 → LW z n (fun q => (zS z).heap.size ≤ q) Q (cn + mc) (sn + ms) (pc + 3) lv [.long i1] H1) : LW z n (fun q => (zS z).heap.size ≤ q) Q cn sn pc lv st H := by
  refine l_X (mc := mc) (ms := ms) C v (fun h q => q.k) (fun h k q => q.t k) (P := aQ x Qc) As hm hl hcx (fun w h si q => ?_) hdd hmax h1 h2 hlen hst (Nat.zero_le _) hd (fun r H1 v => ?_)
  · obtain ⟨W, RC, K, hM⟩ := q
    exact hE w h si W RC K hM
  · obtain ⟨u, V1, M1, rfl, q, v1⟩ := v.a
    obtain ⟨⟨i1, rfl⟩, t⟩ := hri _ _ _ q
    exact kk i1 V1 M1 H1 q t v1
theorem l_Me {Qc Qm : Value → aV → aM → Prop} {i1 : Int32} {off : Int} (C : lC z D cc n ret) (v : lIV D (zS z) m (fun h => KV x h V1 M1) (fun h => MV m h V M) ov H) {dd index maxL k : Nat} {yy : MethodName} {bytes : ByteArray} (As : List Value) (hm : gMi yy bytes maxL (some .int) k) (hl : Cond.methodLink RL index yy ∈ gtb) (hcx : RX10 = yy.cls) (hE : ∀ (w : gD) (h : HS), gSI w → MV m h V M → Ev w dd 0 0 yy bytes maxL (some .int) (.ref m :: As) h (bQ m Qm)) (hdd : dd + 1 ≤ 1300) (hmax : maxL ≤ 45) (h1 : cn ≤ 601024) (h2 : sn ≤ 7293034) (hlen : As.length = k) {st : List Value} (hst : st = As.reverse ++ [.ref m, .int i1]) (hd : decode cc pc = .ok (.invokevirtual index, 3)) (hd2 : decode cc (pc + 3) = .ok (.if_icmp .eq off, 3)) (ht : ((pc + 3 : Nat) : Int) + off = ((1666 : Nat) : Int)) (ag : agr Qc Qm) (q : Qc (.int i1) V1 M1)
    (nx : ∀ H1, lIV D (zS z) m (fun h => KV x h V1 M1) (fun h => MV m h V1 M1) ov H1 → LW z n (fun q => (zS z).heap.size ≤ q) Q cn sn 1666 lv [] H1) : LW z n (fun q => (zS z).heap.size ≤ q) Q cn sn pc lv st H := by
  refine l_M C v (fun h q => q.k) (P := bQ m Qm) (rest := [.int i1]) As hm hl hcx hE hdd hmax h1 h2 hlen hst (Nat.le_of_ble_eq_true rfl) hd (fun r H1 v => ?_)
  obtain ⟨u, V2, M2, rfl, q2, v1⟩ := v.b
  obtain ⟨rfl, rfl, rfl⟩ := ag _ _ _ _ _ _ q q2
  show LW z n _ Q cn sn (pc + 3) lv [.int i1, .int i1] H1
  exact l_icmp_eq C.l 1666 hd2 ht (fun _ => nx H1 v1) (fun c => absurd rfl c)
theorem l_MeL {Qc Qm : Value → aV → aM → Prop} {i1 : Int64} {off : Int} (C : lC z D cc n ret) (v : lIV D (zS z) m (fun h => KV x h V1 M1) (fun h => MV m h V M) ov H) {dd index maxL k : Nat} {yy : MethodName} {bytes : ByteArray} (As : List Value) (hm : gMi yy bytes maxL (some .long) k) (hl : Cond.methodLink RL index yy ∈ gtb) (hcx : RX10 = yy.cls) (hE : ∀ (w : gD) (h : HS), gSI w → MV m h V M → Ev w dd 0 0 yy bytes maxL (some .long) (.ref m :: As) h (bQ m Qm)) (hdd : dd + 1 ≤ 1300) (hmax : maxL ≤ 45) (h1 : cn ≤ 601024) (h2 : sn ≤ 7293034) (hlen : As.length = k) {st : List Value} (hst : st = As.reverse ++ [.ref m, .long i1]) (hd : decode cc pc = .ok (.invokevirtual index, 3)) (hd2 : decode cc (pc + 3) = .ok (.lcmp, 1)) (hd3 : decode cc (pc + 3 + 1) = .ok (.ifCond .eq off, 3)) (ht : ((pc + 3 + 1 : Nat) : Int) + off = ((1666 : Nat) : Int)) (ag : agr Qc Qm) (q : Qc (.long i1) V1 M1)
    (nx : ∀ H1, lIV D (zS z) m (fun h => KV x h V1 M1) (fun h => MV m h V1 M1) ov H1 → LW z n (fun q => (zS z).heap.size ≤ q) Q cn sn 1666 lv [] H1) : LW z n (fun q => (zS z).heap.size ≤ q) Q cn sn pc lv st H := by
  refine l_M C v (fun h q => q.k) (P := bQ m Qm) (rest := [.long i1]) As hm hl hcx hE hdd hmax h1 h2 hlen hst (Nat.le_of_ble_eq_true rfl) hd (fun r H1 v => ?_)
  obtain ⟨u, V2, M2, rfl, q2, v1⟩ := v.b
  obtain ⟨rfl, rfl, rfl⟩ := ag _ _ _ _ _ _ q q2
  show LW z n _ Q cn sn (pc + 3) lv [.long i1, .long i1] H1
  refine l_lcmp C.l hd2 ?_
  have e : lg_cmp i1 i1 = 0 := by
    unfold lg_cmp
    rw [if_neg (show ¬ i1 > i1 from fun q => Int64.lt_irrefl q), if_pos rfl]
  rw [e]
  exact l_if_eq C.l 1666 hd3 ht (fun _ => nx H1 v1) (fun c => absurd rfl c)
end LQ
/-- at a case's beginning -/
def lJ (z : gZ) (D : lD) (m x b L : Nat) (xs : Nat → Int32) (i k : Nat) (V : aV) (M : aM) (ov : Int64) (H : Heap) (cn sn : Nat) : Prop := lC z D cL_law 7 ret ∧ va_X b L xs (zS z) (zS z).heap ∧ b < (zS z).heap.size ∧ i + 6 ≤ L ∧ L ≤ 3072 ∧ i = 6 * k ∧ lIV D (zS z) m (fun h => KV x h V M) (fun h => MV m h V M) ov H ∧ cn + 20 * M.1.1 ≤ 200 + 420 * k ∧ sn + 244 * M.1.1 ≤ 900000 + 4900 * k
/-- behind it: the loop goes on -/
def lGo (z : gZ) (D : lD) (m x b i k : Nat) (Q : State → Prop) : Prop := ∀ (V : aV) (M : aM) (ov : Int64) (H : Heap) (cn sn : Nat), lIV D (zS z) m (fun h => KV x h V M) (fun h => MV m h V M) ov H → cn + 20 * M.1.1 ≤ 200 + 420 * (k + 1) → sn + 244 * M.1.1 ≤ 900000 + 4900 * (k + 1) → LW z 7 (fun q => (zS z).heap.size ≤ q) Q cn sn 1666 (lL b x m i) [] H
