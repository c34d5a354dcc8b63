/-! String constants: length, charAt, indexOf -/
section J1
variable {z : gZ} {w : gD} {d MC MS n : Nat} {y : MethodName} {cc : ByteArray} {ret : Option FieldType} {Q : State → Prop} {cn sn pc : Nat} {lv lv' : List (Nat × Value)} {rest : List Value} {h : HS}
/-- a String constant at q: its bytes b lie at v -/
def stC (w : gD) (q v : Nat) (b : List Int32) : Prop := va_O RJ0 q (fun q => wA w q) w.2.2.1.1 w.2.2.1.1.heap ∧ va_OF RJ0 "coder" "B" (.int 0) q (fun q => wA w q) w.2.2.1.1 w.2.2.1.1.heap ∧ va_OF RJ0 "value" "[B" (.ref v) q (fun q => wA w q) w.2.2.1.1 w.2.2.1.1.heap ∧ va_T .byte v b.length (fun j => .int (b.getD j 0)) (fun q => wA w q) w.2.2.1.1 w.2.2.1.1.heap
/-- what the start state says of Strings -/
def gSI (w : gD) : Prop := gS w w.2.2.1.1 ∧ va_Zq "jdk/internal/util/Preconditions" "SIOOBE_FORMATTER" "Ljava/util/function/BiFunction;" (fun q => wA w q) w.2.2.1.1 w.2.2.1.1.heap
theorem gSI.cs (si : gSI w) : va_Z RJ0 "COMPACT_STRINGS" "Z" (.int 1) (fun q => wA w q) w.2.2.1.1 w.2.2.1.1.heap := by
  obtain ⟨⟨_, _, _, _, _, h4⟩, _⟩ := si
  exact h4
theorem gSI.s0 (si : gSI w) : ∃ a v, vk_R RX10 200 "tests acts let zero if then else while do end " a w.2.2.1.1 ∧ stC w a v (gByt.getD 0 []) := by
  obtain ⟨⟨aK, aV, h1, h2, h3, h4⟩, _⟩ := si
  obtain ⟨e1, e2, e3, e4⟩ := h3.1 0 (by omega)
  exact ⟨aK 0, aV 0, h1, e1, e2, e3, e4⟩
theorem gSI.s1 (si : gSI w) : ∃ a v, vk_R RX10 190 "01+*!()=;" a w.2.2.1.1 ∧ stC w a v (gByt.getD 1 []) := by
  obtain ⟨⟨aK, aV, h1, h2, h3, h4⟩, _⟩ := si
  obtain ⟨e1, e2, e3, e4⟩ := h3.1 1 (by omega)
  exact ⟨aK 1, aV 1, h2, e1, e2, e3, e4⟩
theorem g_al (C : GC z w d MC MS y cc n ret) : w.2.2.1.1.vm.Alike (zS z).vm := C.2.2.2.2.2.1.2.2.2.2.2.1.alike
theorem g_strF (C : GC z w d MC MS y cc n ret) {o fn ds : String} {v : Value} {q index : Nat} (hE : va_OF o fn ds v q (fun q => wA w q) w.2.2.1.1 w.2.2.1.1.heap) (hl : Cond.fieldLink y.cls index o fn ds ∈ gtb) (hd : decode cc pc = .ok (.getfield index, 3)) (kk : GW z w n Q cn sn (pc + 3) lv (v :: rest) h) : GW z w n Q cn sn pc lv (.ref q :: rest) h := by
  intro H locs ls hR hL hlv
  obtain ⟨cf, k, i, f, cell, h1, h2, h3, h4, h5, h6⟩ := va_OF.moved (g_al C) hE
  exact W.getf C.1 C.2.1 C.2.2.2.1 (C.2.2.2.2.1 _ hl) h1 h2 (by rw [hR.2.2.1 q h6]; exact h3) h4 (v := v) h5 rfl rfl hd (kk H locs ls hR hL hlv)
theorem g_strL (C : GC z w d MC MS y cc n ret) {v N : Nat} {f : Nat → Value} (hE : va_T .byte v N f (fun q => wA w q) w.2.2.1.1 w.2.2.1.1.heap) (hd : decode cc pc = .ok (.arraylength, 1)) (kk : GW z w n Q cn sn (pc + 1) lv (.int (nI N) :: rest) h) : GW z w n Q cn sn pc lv (.ref v :: rest) h := by
  intro H locs ls hR hL hlv
  obtain ⟨cell, h1, h2, h3, h4, h5, h6, h7⟩ := va_T.moved (g_al C) hE
  exact W.alen (n := Int32.ofNat N) C.1 C.2.1 (by rw [hR.2.2.1 v h7]; exact h1) h2 h5 rfl rfl hd (kk H locs ls hR hL hlv)
theorem g_strB (C : GC z w d MC MS y cc n ret) {v N j : Nat} {b : Nat → Int32} (hE : va_T .byte v N (fun j => .int (b j)) (fun q => wA w q) w.2.2.1.1 w.2.2.1.1.heap) (hN : N < 2 ^ 31) (hj : j < N) (hd : decode cc pc = .ok (.baload, 1)) (kk : GW z w n Q cn sn (pc + 1) lv (.int (b j) :: rest) h) : GW z w n Q cn sn pc lv (.int (nI j) :: .ref v :: rest) h := by
  intro H locs ls hR hL hlv
  obtain ⟨cell, h1, h2, h3, h4, h5, h6, h7⟩ := va_T.moved (g_al C) hE
  have hcl : (nI j).toNatClampNeg = j := nI_clamp (by omega)
  refine W.bald (v := .int (b j)) C.1 C.2.1 (by rw [hR.2.2.1 v h7]; exact h1) h2 h3 (fun q => ?_) (by rw [hcl]; exact h6 j hj) rfl rfl hd (kk H locs ls hR hL hlv)
  rcases q with q | q
  · exact nI_nn (by omega) q
  · rw [hcl] at q; omega
theorem g_strC (C : GC z w d MC MS y cc n ret) {tx : String} {index q : Nat} (hZ : vk_R y.cls index tx q w.2.2.1.1) (hd : decode cc pc = .ok (.ldc index, 2)) (kk : GW z w n Q cn sn (pc + 2) lv (.ref q :: rest) h) : GW z w n Q cn sn pc lv rest h :=
  fun H locs ls hR hL hlv => va_ldcS C.1 C.2.1 C.2.2.2.1 (vk_R.warm C.2.2.2.2.2.1.2.2.2.2.2.1 hZ) hd (kk H locs ls hR hL hlv)
theorem g_stat (C : GC z w d MC MS y cc n ret) {o fn ds : String} {v : Value} {index : Nat} (hZ : va_Z o fn ds v (fun q => wA w q) w.2.2.1.1 w.2.2.1.1.heap) (hl : Cond.fieldLink y.cls index o fn ds ∈ gtb) (hd : decode cc pc = .ok (.getstatic index, 3)) (kk : GW z w n Q cn sn (pc + 3) lv (v :: rest) h) : GW z w n Q cn sn pc lv rest h := by
  intro H locs ls hR hL hlv
  obtain ⟨cf, kf, fi, f, a, cell, h1, h2, h3, h4, h5, h6, h7, h8⟩ := va_Z.moved (g_al C) hZ
  exact W.gets C.1 C.2.1 C.2.2.2.1 (C.2.2.2.2.1 _ hl) h1 h2 h3 h4 (by rw [hR.2.2.1 a h8]; exact h5) (fun e => by rw [e] at h6; cases h6) h7 rfl hd (kk H locs ls hR hL hlv)
theorem g_yret {ty : FieldType} {P : Option Value → HS → Prop} (C : GC z w d MC MS y cc n (some ty)) {v : Int32} (hz : narrow ty (.int v) = .int v) (h1 : cn ≤ MC) (h2 : sn ≤ MS) (hp : P (some (.int v)) h) (hd : decode cc pc = .ok (.ireturn, 1)) : GW z w n (gQ z w MC MS P) cn sn pc lv [.int v] h := fun H locs ls hR0 hL hlv => W.widen h1 h2 (W.zret C.1 C.2.1 C.2.2.2.2.2.2.1 hz (fun t ht _ => ⟨_, h, rfl, by rw [ht]; exact hR0, hp⟩) hL hd C.2.2.2.2.2.2.2.1)
theorem g_i2c (C : GC z w d MC MS y cc n ret) {x : Int32} (hd : decode cc pc = .ok (.i2c, 1)) (k : GW z w n Q cn sn (pc + 1) lv (.int (x.toUInt32 % 65536).toInt32 :: rest) h) : GW z w n Q cn sn pc lv (.int x :: rest) h := fun H locs ls hR hL hl => lv_i2c C.1 C.2.1 hd rfl (k H locs ls hR hL hl)
theorem g_cVs (C : GC z w d MC MS y cc n ret) {dd index maxL k b : Nat} {x : MethodName} {bytes : ByteArray} {rt : Option FieldType} {P : Option Value → HS → Prop} (As : List Value) (hm : gMi x bytes maxL rt k) (hl : Cond.methodLink y.cls index x ∈ gtb) (hO : va_O x.cls b (fun q => wA w q) w.2.2.1.1 w.2.2.1.1.heap) (hE : Ev w dd 0 0 x bytes maxL rt (.ref b :: As) h P) (hfl : z.2.1.flags = flags0) (hdd : dd + 1 ≤ d) (hmax : maxL ≤ 45) (h1 : cn ≤ MC) (h2 : sn ≤ MS) (hlen : As.length = k) {st : List Value} (hst : st = As.reverse ++ .ref b :: rest) (hrm : (rest.map fun v => v.category).sum ≤ 8) (hd : decode cc pc = .ok (.invokevirtual index, 3))
    (kk : ∀ r h', P r h' → GW z w n Q cn sn (pc + 3) lv (r.toList ++ rest) h') : GW z w n Q cn sn pc lv st h := by
  intro H locs ls hR0 hL hlv
  obtain ⟨m0, m1, m2, m3, m4⟩ := hm
  refine g_run (mc := 0) (ms := 0) (Qa := fun _ _ oc t => ∃ r h', oc = .returned r ∧ gR w h' t.heap ∧ P r h') kk hL hlv (fun _ _ _ _ q => q) (a := (Value.ref b :: As).toArray) ?_
  have hrc : ∃ cell : Cell, H[b]? = some cell ∧ cell.vm.isStatics = false ∧ (zS z).vm.findClass x.cls = some cell.cls := by
    obtain ⟨cell, e1, e2, e3, e4⟩ := va_O.moved (g_al C) hO
    exact ⟨cell, by rw [hR0.2.2.1 b e4]; exact e1, e2, e3⟩
  exact va_runV (Ts := gtb) (C := x.cls) ⟨C.1, C.2.1, C.2.2.1, C.2.2.2.1, C.2.2.2.2.1⟩ (hE z.2.1 hfl) ⟨g_B C m2 m3 m4 hl hdd hmax, C.2.2.2.2.1 _ m0, C.2.2.2.2.1 _ m1⟩ ⟨(g_pre (as := .ref b :: As) C hR0).1, hrc, (g_pre (as := .ref b :: As) C hR0).2⟩ rfl hlen hlv.1 hst (lv_room hrm) hd ⟨by rw [C.2.2.2.2.2.2.2.2.2.2.2.1]; exact h1, by rw [C.2.2.2.2.2.2.2.2.2.2.2.2]; exact h2⟩
end J1
section J2
variable {w : gD} {h : HS} {q v : Nat} {b : List Int32}
theorem e_j_isLatin1 (si : gSI w) (sc : stC w q v b) : EvF w 0 0 0 yJ0_isLatin1_aae02 cJ0_isLatin1_aae02 1 (some .boolean) [.ref q] h (some (.int 1)) h := by
  refine g_start (by decide) (Nat.le_of_ble_eq_true rfl) [(0, _)] rfl (fun z hfl C => ?_)
  refine g_stat C si.cs lf_java_lang_String_38 (gd DJ0_isLatin1_aae02_0 0 rfl) ?_
  refine g_if_eq C 17 (gd DJ0_isLatin1_aae02_0 1 rfl) (by decide) (fun c3 => ?_) (fun c3 => ?_)
  · exact absurd c3 (by decide)
  · refine g_aload_n C (gd DJ0_isLatin1_aae02_0 2 rfl) 0 rfl rfl ?_
    refine g_strF C sc.2.1 lf_java_lang_String_15 (gd DJ0_isLatin1_aae02_0 3 rfl) ?_
    refine g_if_ne C 17 (gd DJ0_isLatin1_aae02_0 4 rfl) (by decide) (fun c10 => ?_) (fun c10 => ?_)
    · exact absurd rfl c10
    · refine g_iconst (v := 1) C (gd DJ0_isLatin1_aae02_0 5 rfl) (by decide) ?_
      refine g_goto (tgt := 18) C (gd DJ0_isLatin1_aae02_0 6 rfl) (by decide) ?_
      exact g_zret C (by decide) (by omega) (by omega) ⟨rfl, rfl⟩ (gd DJ0_isLatin1_aae02_0 8 rfl)
theorem e_j_coder (si : gSI w) (sc : stC w q v b) : EvF w 0 0 0 yJ0_coder_7d493 cJ0_coder_7d493 1 (some .byte) [.ref q] h (some (.int 0)) h := by
  refine g_start (by decide) (Nat.le_of_ble_eq_true rfl) [(0, _)] rfl (fun z hfl C => ?_)
  refine g_stat C si.cs lf_java_lang_String_38 (gd DJ0_coder_7d493_0 0 rfl) ?_
  refine g_if_eq C 13 (gd DJ0_coder_7d493_0 1 rfl) (by decide) (fun c3 => ?_) (fun c3 => ?_)
  · exact absurd c3 (by decide)
  · refine g_aload_n C (gd DJ0_coder_7d493_0 2 rfl) 0 rfl rfl ?_
    refine g_strF C sc.2.1 lf_java_lang_String_15 (gd DJ0_coder_7d493_0 3 rfl) ?_
    refine g_goto (tgt := 14) C (gd DJ0_coder_7d493_0 4 rfl) (by decide) ?_
    exact g_yret C rfl (by omega) (by omega) ⟨rfl, rfl⟩ (gd DJ0_coder_7d493_0 6 rfl)
theorem shr0 (x : Int32) : x >>> ((0 : Int32) &&& 31) = x := by
  apply Int32.toInt_inj.1
  rw [pk_shr x _ 0 rfl, Int.shiftRight_zero]
theorem e_j_length (si : gSI w) (sc : stC w q v b) : EvF w 1 0 0 yJ0_length_8abf5 cJ0_length_8abf5 1 (some .int) [.ref q] h (some (.int (nI b.length))) h := by
  refine g_start (by decide) (Nat.le_of_ble_eq_true rfl) [(0, _)] rfl (fun z hfl C => ?_)
  refine g_aload_n C (gd DJ0_length_8abf5_0 0 rfl) 0 rfl rfl ?_
  refine g_strF C sc.2.2.1 lf_java_lang_String_9 (gd DJ0_length_8abf5_0 1 rfl) ?_
  refine g_strL C sc.2.2.2 (gd DJ0_length_8abf5_0 2 rfl) ?_
  refine g_aload_n C (gd DJ0_length_8abf5_0 3 rfl) 0 rfl rfl ?_
  refine g_cVs C [] mJ0_coder_7d493 lm_java_lang_String_335 sc.1 (e_j_coder si sc) hfl (by decide) (by decide) (by omega) (by omega) rfl rfl (Nat.le_of_ble_eq_true rfl) (gd DJ0_length_8abf5_0 4 rfl) (fun r h2 hp => ?_)
  obtain ⟨rfl, rfl⟩ := hp
  show GW z w 1 _ 0 0 _ _ [.int 0, .int (nI b.length)] _
  refine g_ishr C (gd DJ0_length_8abf5_0 5 rfl) ?_
  rw [shr0]
  exact g_iret C (by omega) (by omega) ⟨rfl, rfl⟩ (gd DJ0_length_8abf5_0 6 rfl)
theorem e_j_checkIndex3 {k N a : Nat} (hk : k < N) (hN : N < 2 ^ 31) : EvF w 0 0 0 yJ3_checkIndex_8e157 cJ3_checkIndex_8e157 3 (some .int) [.int (nI k), .int (nI N), .ref a] h (some (.int (nI k))) h := by
  refine g_start (by decide) (Nat.le_of_ble_eq_true rfl) [(0, _), (1, _), (2, _)] rfl (fun z hfl C => ?_)
  refine g_iload_n C (gd DJ3_checkIndex_8e157_0 0 rfl) 0 rfl rfl ?_
  refine g_if_lt C 9 (gd DJ3_checkIndex_8e157_0 1 rfl) (by decide) (fun c1 => ?_) (fun c1 => ?_)
  · exact absurd c1 (nI_nn (by omega))
  · refine g_iload_n C (gd DJ3_checkIndex_8e157_0 2 rfl) 0 rfl rfl ?_
    refine g_iload_n C (gd DJ3_checkIndex_8e157_0 3 rfl) 1 rfl rfl ?_
    refine g_icmp_lt C 16 (gd DJ3_checkIndex_8e157_0 4 rfl) (by decide) (fun c6 => ?_) (fun c6 => ?_)
    · refine g_iload_n C (gd DJ3_checkIndex_8e157_0 10 rfl) 0 rfl rfl ?_
      exact g_iret C (by omega) (by omega) ⟨rfl, rfl⟩ (gd DJ3_checkIndex_8e157_0 11 rfl)
    · exact absurd (nI_lt hk hN) c6
theorem e_j_checkIndex3n {k N : Nat} (hk : k < N) (hN : N < 2 ^ 31) : EvF w 0 0 0 yJ3_checkIndex_8e157 cJ3_checkIndex_8e157 3 (some .int) [.int (nI k), .int (nI N), .null] h (some (.int (nI k))) h := by
  refine g_start (by decide) (Nat.le_of_ble_eq_true rfl) [(0, _), (1, _), (2, _)] rfl (fun z hfl C => ?_)
  refine g_iload_n C (gd DJ3_checkIndex_8e157_0 0 rfl) 0 rfl rfl ?_
  refine g_if_lt C 9 (gd DJ3_checkIndex_8e157_0 1 rfl) (by decide) (fun c1 => ?_) (fun c1 => ?_)
  · exact absurd c1 (nI_nn (by omega))
  · refine g_iload_n C (gd DJ3_checkIndex_8e157_0 2 rfl) 0 rfl rfl ?_
    refine g_iload_n C (gd DJ3_checkIndex_8e157_0 3 rfl) 1 rfl rfl ?_
    refine g_icmp_lt C 16 (gd DJ3_checkIndex_8e157_0 4 rfl) (by decide) (fun c6 => ?_) (fun c6 => ?_)
    · refine g_iload_n C (gd DJ3_checkIndex_8e157_0 10 rfl) 0 rfl rfl ?_
      exact g_iret C (by omega) (by omega) ⟨rfl, rfl⟩ (gd DJ3_checkIndex_8e157_0 11 rfl)
    · exact absurd (nI_lt hk hN) c6
theorem e_j_checkIndex (si : gSI w) {k N : Nat} (hk : k < N) (hN : N < 2 ^ 31) : EvF w 1 0 0 yJ0_checkIndex_df160 cJ0_checkIndex_df160 2 none [.int (nI k), .int (nI N)] h none h := by
  refine g_start (by decide) (Nat.le_of_ble_eq_true rfl) [(0, _), (1, _)] rfl (fun z hfl C => ?_)
  obtain ⟨-, hZ | ⟨a, hZ⟩⟩ := si
  · refine g_iload_n C (gd DJ0_checkIndex_df160_0 0 rfl) 0 rfl rfl ?_
    refine g_iload_n C (gd DJ0_checkIndex_df160_0 1 rfl) 1 rfl rfl ?_
    refine g_stat C hZ lf_java_lang_String_1053 (gd DJ0_checkIndex_df160_0 2 rfl) ?_
    refine g_cS1 C [_, _, _] mJ3_checkIndex_8e157 lm_java_lang_String_1059 (e_j_checkIndex3n hk hN) hfl (by first | decide | omega) (by decide) (by omega) (by omega) rfl rfl (Nat.le_of_ble_eq_true rfl) (gd DJ0_checkIndex_df160_0 3 rfl) ?_
    refine g_pop C (gd DJ0_checkIndex_df160_0 4 rfl) rfl ?_
    exact g_vret C (by omega) (by omega) ⟨rfl, rfl⟩ (gd DJ0_checkIndex_df160_0 5 rfl)
  · refine g_iload_n C (gd DJ0_checkIndex_df160_0 0 rfl) 0 rfl rfl ?_
    refine g_iload_n C (gd DJ0_checkIndex_df160_0 1 rfl) 1 rfl rfl ?_
    refine g_stat C hZ lf_java_lang_String_1053 (gd DJ0_checkIndex_df160_0 2 rfl) ?_
    refine g_cS1 C [_, _, _] mJ3_checkIndex_8e157 lm_java_lang_String_1059 (e_j_checkIndex3 hk hN) hfl (by first | decide | omega) (by decide) (by omega) (by omega) rfl rfl (Nat.le_of_ble_eq_true rfl) (gd DJ0_checkIndex_df160_0 3 rfl) ?_
    refine g_pop C (gd DJ0_checkIndex_df160_0 4 rfl) rfl ?_
    exact g_vret C (by omega) (by omega) ⟨rfl, rfl⟩ (gd DJ0_checkIndex_df160_0 5 rfl)
theorem e_j_charAt1 (si : gSI w) (sc : stC w q v b) {k : Nat} (hk : k < b.length) (hN : b.length < 2 ^ 31) : EvF w 2 0 0 yJ1_charAt_3b067 cJ1_charAt_3b067 2 (some .char) [.ref v, .int (nI k)] h (some (.int ((b.getD k 0 &&& 255).toUInt32 % 65536).toInt32)) h := by
  refine g_start (by decide) (Nat.le_of_ble_eq_true rfl) [(0, _), (1, _)] rfl (fun z hfl C => ?_)
  refine g_iload_n C (gd DJ1_charAt_3b067_0 0 rfl) 1 rfl rfl ?_
  refine g_aload_n C (gd DJ1_charAt_3b067_0 1 rfl) 0 rfl rfl ?_
  refine g_strL C sc.2.2.2 (gd DJ1_charAt_3b067_0 2 rfl) ?_
  refine g_cS0 (v := .null) C [_, _] mJ0_checkIndex_df160 lm_java_lang_StringLatin1_9 (e_j_checkIndex si hk hN) hfl (by first | decide | omega) (by decide) (by omega) (by omega) rfl rfl (Nat.le_of_ble_eq_true rfl) (gd DJ1_charAt_3b067_0 3 rfl) ?_
  refine g_aload_n C (gd DJ1_charAt_3b067_0 4 rfl) 0 rfl rfl ?_
  refine g_iload_n C (gd DJ1_charAt_3b067_0 5 rfl) 1 rfl rfl ?_
  refine g_strB C (b := fun j => b.getD j 0) sc.2.2.2 hN hk (gd DJ1_charAt_3b067_0 6 rfl) ?_
  refine g_sipush (v := 255) C (gd DJ1_charAt_3b067_0 7 rfl) (by decide) ?_
  refine g_iand C (gd DJ1_charAt_3b067_0 8 rfl) ?_
  refine g_i2c C (gd DJ1_charAt_3b067_0 9 rfl) ?_
  exact g_yret C (pk_nc _) (by omega) (by omega) ⟨rfl, rfl⟩ (gd DJ1_charAt_3b067_0 10 rfl)
theorem e_j_charAt (si : gSI w) (sc : stC w q v b) {k : Nat} (hk : k < b.length) (hN : b.length < 2 ^ 31) : EvF w 3 0 0 yJ0_charAt_5068e cJ0_charAt_5068e 2 (some .char) [.ref q, .int (nI k)] h (some (.int ((b.getD k 0 &&& 255).toUInt32 % 65536).toInt32)) h := by
  refine g_start (by decide) (Nat.le_of_ble_eq_true rfl) [(0, _), (1, _)] rfl (fun z hfl C => ?_)
  refine g_aload_n C (gd DJ0_charAt_5068e_0 0 rfl) 0 rfl rfl ?_
  refine g_cVs C [] mJ0_isLatin1_aae02 lm_java_lang_String_492 sc.1 (e_j_isLatin1 si sc) hfl (by decide) (by decide) (by omega) (by omega) rfl rfl (Nat.le_of_ble_eq_true rfl) (gd DJ0_charAt_5068e_0 1 rfl) (fun r h2 hp => ?_)
  obtain ⟨rfl, rfl⟩ := hp
  show GW z w 2 _ 0 0 _ _ [.int 1] _
  refine g_if_eq C 16 (gd DJ0_charAt_5068e_0 2 rfl) (by decide) (fun c4 => ?_) (fun c4 => ?_)
  · exact absurd c4 (by decide)
  · refine g_aload_n C (gd DJ0_charAt_5068e_0 3 rfl) 0 rfl rfl ?_
    refine g_strF C sc.2.2.1 lf_java_lang_String_9 (gd DJ0_charAt_5068e_0 4 rfl) ?_
    refine g_iload_n C (gd DJ0_charAt_5068e_0 5 rfl) 1 rfl rfl ?_
    refine g_cS1 C [_, _] mJ1_charAt_3b067 lm_java_lang_String_495 (e_j_charAt1 si sc hk hN) hfl (by first | decide | omega) (by decide) (by omega) (by omega) rfl rfl (Nat.le_of_ble_eq_true rfl) (gd DJ0_charAt_5068e_0 6 rfl) ?_
    exact g_yret C (pk_nc _) (by omega) (by omega) ⟨rfl, rfl⟩ (gd DJ0_charAt_5068e_0 7 rfl)
theorem e_j_canEncode {t : Nat} (ht : t < 256) : EvF w 0 0 0 yJ1_canEncode_9a6ad cJ1_canEncode_9a6ad 1 (some .boolean) [.int (nI t)] h (some (.int 1)) h := by
  refine g_start (by decide) (Nat.le_of_ble_eq_true rfl) [(0, _)] rfl (fun z hfl C => ?_)
  refine g_iload_n C (gd DJ1_canEncode_9a6ad_0 0 rfl) 0 rfl rfl ?_
  refine g_if_lt C 15 (gd DJ1_canEncode_9a6ad_0 1 rfl) (by decide) (fun c1 => ?_) (fun c1 => ?_)
  · exact absurd c1 (nI_nn (by omega))
  · refine g_iload_n C (gd DJ1_canEncode_9a6ad_0 2 rfl) 0 rfl rfl ?_
    refine g_sipush (v := 255) C (gd DJ1_canEncode_9a6ad_0 3 rfl) (by decide) ?_
    refine g_icmp_gt C 15 (gd DJ1_canEncode_9a6ad_0 4 rfl) (by decide) (fun c8 => ?_) (fun c8 => ?_)
    · exact absurd (Int32.not_le.mpr c8) (fun q => q (nI_le (a := t) (b := 255) (by omega) (by omega)))
    · refine g_iconst (v := 1) C (gd DJ1_canEncode_9a6ad_0 5 rfl) (by decide) ?_
      refine g_goto (tgt := 16) C (gd DJ1_canEncode_9a6ad_0 6 rfl) (by decide) ?_
      exact g_zret C (by decide) (by omega) (by omega) ⟨rfl, rfl⟩ (gd DJ1_canEncode_9a6ad_0 8 rfl)
end J2
