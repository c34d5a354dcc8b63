/-! A new object of either: the first pictures -/
def V00 : aV := ((0, 0, 0), (fun _ => rPlain 0), 0, fun _ => (0, 0, fun _ => rPlain 0))
def M00 : aM := ((0, fun _ => 0), (0, -1, -1), (-1, 0, 0), 0, fun _ => 0)
theorem V00_ok : vOK V00 := by
  refine ⟨⟨Nat.zero_le _, Nat.zero_le _, Nat.zero_le _, Nat.zero_le _⟩, fun i _ => ⟨Nat.zero_le _, (show 0 < 4 by decide), fun k hk => absurd hk (Nat.not_lt_zero _)⟩, fun s _ => ?_, fun f hf => absurd hf (Nat.not_lt_zero _)⟩
  show wt (rPlain 0) ≤ 2
  rw [wt_pl0]
  omega
section K0
variable {h : HS} {a np : Nat}
theorem KV_new : KV a (hC h a (cX9 a np)) V00 M00 := by
  obtain ⟨k0, n0, i0, r0, l0⟩ := hC_at (h := h) (a := a) (L := cX9 a np) (i := 0) rfl
  obtain ⟨k1, n1, i1, r1, l1⟩ := hC_at (h := h) (a := a) (L := cX9 a np) (i := 1) rfl
  obtain ⟨k2, n2, i2, r2, l2⟩ := hC_at (h := h) (a := a) (L := cX9 a np) (i := 2) rfl
  obtain ⟨k3, n3, i3, r3, l3⟩ := hC_at (h := h) (a := a) (L := cX9 a np) (i := 3) rfl
  obtain ⟨k4, n4, i4, r4, l4⟩ := hC_at (h := h) (a := a) (L := cX9 a np) (i := 4) rfl
  obtain ⟨k5, n5, i5, r5, l5⟩ := hC_at (h := h) (a := a) (L := cX9 a np) (i := 5) rfl
  obtain ⟨k6, n6, i6, r6, l6⟩ := hC_at (h := h) (a := a) (L := cX9 a np) (i := 6) rfl
  obtain ⟨k7, n7, i7, r7, l7⟩ := hC_at (h := h) (a := a) (L := cX9 a np) (i := 7) rfl
  obtain ⟨k8, n8, i8, r8, l8⟩ := hC_at (h := h) (a := a) (L := cX9 a np) (i := 8) rfl
  obtain ⟨k9, n9, i9, r9, l9⟩ := hC_at (h := h) (a := a) (L := cX9 a np) (i := 9) rfl
  obtain ⟨k10, n10, i10, r10, l10⟩ := hC_at (h := h) (a := a) (L := cX9 a np) (i := 10) rfl
  obtain ⟨k11, n11, i11, r11, l11⟩ := hC_at (h := h) (a := a) (L := cX9 a np) (i := 11) rfl
  obtain ⟨k12, n12, i12, r12, l12⟩ := hC_at (h := h) (a := a) (L := cX9 a np) (i := 12) rfl
  obtain ⟨k13, n13, i13, r13, l13⟩ := hC_at (h := h) (a := a) (L := cX9 a np) (i := 13) rfl
  obtain ⟨k14, n14, i14, r14, l14⟩ := hC_at (h := h) (a := a) (L := cX9 a np) (i := 14) rfl
  obtain ⟨k15, n15, i15, r15, l15⟩ := hC_at (h := h) (a := a) (L := cX9 a np) (i := 15) rfl
  obtain ⟨k16, n16, i16, r16, l16⟩ := hC_at (h := h) (a := a) (L := cX9 a np) (i := 16) rfl
  obtain ⟨k17, n17, i17, r17, l17⟩ := hC_at (h := h) (a := a) (L := cX9 a np) (i := 17) rfl
  obtain ⟨k18, n18, i18, r18, l18⟩ := hC_at (h := h) (a := a) (L := cX9 a np) (i := 18) rfl
  obtain ⟨k19, n19, i19, r19, l19⟩ := hC_at (h := h) (a := a) (L := cX9 a np) (i := 19) rfl
  obtain ⟨k20, n20, i20, r20, l20⟩ := hC_at (h := h) (a := a) (L := cX9 a np) (i := 20) rfl
  obtain ⟨k21, n21, i21, r21, l21⟩ := hC_at (h := h) (a := a) (L := cX9 a np) (i := 21) rfl
  obtain ⟨k22, n22, i22, r22, l22⟩ := hC_at (h := h) (a := a) (L := cX9 a np) (i := 22) rfl
  obtain ⟨k23, n23, i23, r23, l23⟩ := hC_at (h := h) (a := a) (L := cX9 a np) (i := 23) rfl
  obtain ⟨k24, n24, i24, r24, l24⟩ := hC_at (h := h) (a := a) (L := cX9 a np) (i := 24) rfl
  obtain ⟨k25, n25, i25, r25, l25⟩ := hC_at (h := h) (a := a) (L := cX9 a np) (i := 25) rfl
  obtain ⟨k26, n26, i26, r26, l26⟩ := hC_at (h := h) (a := a) (L := cX9 a np) (i := 26) rfl
  obtain ⟨k27, n27, i27, r27, l27⟩ := hC_at (h := h) (a := a) (L := cX9 a np) (i := 27) rfl
  obtain ⟨k28, n28, i28, r28, l28⟩ := hC_at (h := h) (a := a) (L := cX9 a np) (i := 28) rfl
  obtain ⟨k29, n29, i29, r29, l29⟩ := hC_at (h := h) (a := a) (L := cX9 a np) (i := 29) rfl
  obtain ⟨k30, n30, i30, r30, l30⟩ := hC_at (h := h) (a := a) (L := cX9 a np) (i := 30) rfl
  obtain ⟨k31, n31, i31, r31, l31⟩ := hC_at (h := h) (a := a) (L := cX9 a np) (i := 31) rfl
  obtain ⟨k32, n32, i32, r32, l32⟩ := hC_at (h := h) (a := a) (L := cX9 a np) (i := 32) rfl
  obtain ⟨k33, n33, i33, r33, l33⟩ := hC_at (h := h) (a := a) (L := cX9 a np) (i := 33) rfl
  obtain ⟨k34, n34, i34, r34, l34⟩ := hC_at (h := h) (a := a) (L := cX9 a np) (i := 34) rfl
  obtain ⟨k35, n35, i35, r35, l35⟩ := hC_at (h := h) (a := a) (L := cX9 a np) (i := 35) rfl
  obtain ⟨k36, n36, i36, r36, l36⟩ := hC_at (h := h) (a := a) (L := cX9 a np) (i := 36) rfl
  obtain ⟨k37, n37, i37, r37, l37⟩ := hC_at (h := h) (a := a) (L := cX9 a np) (i := 37) rfl
  obtain ⟨k38, n38, i38, r38, l38⟩ := hC_at (h := h) (a := a) (L := cX9 a np) (i := 38) rfl
  obtain ⟨k39, n39, i39, r39, l39⟩ := hC_at (h := h) (a := a) (L := cX9 a np) (i := 39) rfl
  obtain ⟨k40, n40, i40, r40, l40⟩ := hC_at (h := h) (a := a) (L := cX9 a np) (i := 40) rfl
  obtain ⟨k41, n41, i41, r41, l41⟩ := hC_at (h := h) (a := a) (L := cX9 a np) (i := 41) rfl
  obtain ⟨k42, n42, i42, r42, l42⟩ := hC_at (h := h) (a := a) (L := cX9 a np) (i := 42) rfl
  obtain ⟨k43, n43, i43, r43, l43⟩ := hC_at (h := h) (a := a) (L := cX9 a np) (i := 43) rfl
  obtain ⟨k44, n44, i44, r44, l44⟩ := hC_at (h := h) (a := a) (L := cX9 a np) (i := 44) rfl
  obtain ⟨k45, n45, i45, r45, l45⟩ := hC_at (h := h) (a := a) (L := cX9 a np) (i := 45) rfl
  obtain ⟨k46, n46, i46, r46, l46⟩ := hC_at (h := h) (a := a) (L := cX9 a np) (i := 46) rfl
  obtain ⟨k47, n47, i47, r47, l47⟩ := hC_at (h := h) (a := a) (L := cX9 a np) (i := 47) rfl
  obtain ⟨k48, n48, i48, r48, l48⟩ := hC_at (h := h) (a := a) (L := cX9 a np) (i := 48) rfl
  obtain ⟨k49, n49, i49, r49, l49⟩ := hC_at (h := h) (a := a) (L := cX9 a np) (i := 49) rfl
  have eT : hT (hC h a (cX9 a np)) = a + 50 := rfl
  rw [Nat.add_zero] at k0 n0 i0 r0 l0
  generalize hC h a (cX9 a np) = g at *
  have pc : ∀ b, hK g b = 3 → hI g b = pcI 0 0 0 → pcS g b 0 (rPlain 0) := fun b e1 e2 => ⟨e1, by rw [e2]; rfl, by rw [e2]; rfl, by rw [e2]; rfl, fun q => absurd q (Nat.lt_irrefl 0), fun p hp => absurd hp (Nat.not_lt_zero _)⟩
  have R : ∀ {b : Nat} {r : Nat → Option Nat} {j c : Nat}, hR g b = r → r j = some c → hR g b j = some c := fun e1 e2 => by rw [e1]; exact e2
  have I : ∀ {b : Nat} {r : Nat → Int32} {j : Nat} {c : Int32}, hI g b = r → r j = c → hI g b j = c := fun e1 e2 => by rw [e1]; exact e2
  refine ⟨a + 6, fun _ => rPlain 0, ⟨?_, V00_ok, ?_, ?_, ?_, ?_⟩, ?_⟩
  · refine ⟨k0, ⟨R r0 rfl, k1, n1⟩, ⟨R r0 rfl, k2, ⟨R r2 rfl, k3, n3⟩, ⟨R r2 rfl, k4, n4⟩, R r2 rfl, k5, n5⟩, ⟨R r0 rfl, k6, ⟨R r6 rfl, k7, n7⟩, ⟨R r6 rfl, k8, n8⟩, ⟨R r6 rfl, k9, n9⟩, ⟨R r6 rfl, k10, n10⟩, R r6 rfl, k11⟩, ⟨R r0 rfl, k12, ⟨R r12 rfl, k13, n13⟩, ⟨R r12 rfl, k14, n14⟩, ⟨R r12 rfl, k15, n15⟩, R r12 rfl, k16, n16⟩, ⟨R r0 rfl, k17, ⟨R r17 rfl, k18, n18⟩, ⟨R r17 rfl, k19, R r19 rfl, k20, n20, R r19 rfl, k21, n21, R r19 rfl, k22, n22⟩, ⟨R r17 rfl, k23, R r23 rfl, k24, n24, R r23 rfl, k25, n25, R r23 rfl, k26, n26⟩, ⟨R r17 rfl, k27, R r27 rfl, k28, n28, R r27 rfl, k29, n29, R r27 rfl, k30, n30⟩, ⟨R r17 rfl, k31, n31⟩, ⟨R r17 rfl, k32, n32⟩, ⟨R r17 rfl, k33, n33⟩, ⟨R r17 rfl, k34, n34⟩, R r17 rfl, k35, n35⟩, ⟨R r0 rfl, k36, ⟨R r36 rfl, k37, n37⟩, ⟨R r36 rfl, k38, n38⟩, ⟨R r36 rfl, k39, n39⟩, ⟨R r36 rfl, k40, n40⟩, ⟨R r36 rfl, k41, n41⟩, ⟨R r36 rfl, k42, n42⟩, ⟨R r36 rfl, k43, n43⟩, ⟨R r36 rfl, k44, n44⟩, ⟨R r36 rfl, k45, n45⟩, R r36 rfl, k46, n46⟩, ⟨R r0 rfl, k47, R r47 rfl, k48, n48⟩, ⟨R r0 rfl, pc (a + 49) k49 i49⟩, Or.inl rfl, ⟨by omega, by omega⟩, pc (a + 11) k11 i11⟩
  · refine ⟨⟨I i6 rfl, I i6 rfl, I i6 rfl, I i6 rfl, I i6 rfl⟩, fun k hk => absurd hk (Nat.not_lt_zero _), fun f hf => absurd hf (Nat.not_lt_zero _), fun f _ => ⟨a + 11, Or.inr ⟨?_, rfl⟩, ⟨Or.inl ⟨rfl, wt_pl0⟩, ⟨by omega, fun q => ?_⟩, ?_⟩⟩⟩
    · show hR g (a + 10) f = none
      rw [r10]
    · have e : 0 < wt (rPlain 0) := q
      rw [wt_pl0] at e
      omega
    · show pcS g (a + 11) (wt (rPlain 0)) (rPlain 0)
      rw [wt_pl0]
      exact pc (a + 11) k11 i11
  · exact ⟨I i12 rfl, fun i hi => absurd hi (Nat.not_lt_zero _)⟩
  · exact Or.inl (by rw [r36]; rfl)
  · refine ⟨⟨0, by omega, I i17 rfl, fun j hj => absurd hj (Nat.not_lt_zero _), fun c _ _ => ?_⟩, fun j _ => ?_⟩
    · show hI g (a + 31) c = 0
      rw [i31]
    · rw [l35]
  · exact ⟨⟨I i0 rfl, Nat.zero_le _, fun k hk => absurd hk (Nat.not_lt_zero _)⟩, ⟨I i0 rfl, I i0 rfl, I i0 rfl⟩, ⟨I i0 rfl, I i0 rfl, I i0 rfl⟩, I i47 rfl, Nat.zero_le _, fun j hj => absurd hj (Nat.not_lt_zero _)⟩
theorem MV_new : MV a (hC h a (cX10 a)) V00 M00 := by
  obtain ⟨k0, n0, i0, r0, l0⟩ := hC_at (h := h) (a := a) (L := cX10 a) (i := 0) rfl
  obtain ⟨k1, n1, i1, r1, l1⟩ := hC_at (h := h) (a := a) (L := cX10 a) (i := 1) rfl
  obtain ⟨k2, n2, i2, r2, l2⟩ := hC_at (h := h) (a := a) (L := cX10 a) (i := 2) rfl
  obtain ⟨k3, n3, i3, r3, l3⟩ := hC_at (h := h) (a := a) (L := cX10 a) (i := 3) rfl
  obtain ⟨k4, n4, i4, r4, l4⟩ := hC_at (h := h) (a := a) (L := cX10 a) (i := 4) rfl
  obtain ⟨k5, n5, i5, r5, l5⟩ := hC_at (h := h) (a := a) (L := cX10 a) (i := 5) rfl
  obtain ⟨k6, n6, i6, r6, l6⟩ := hC_at (h := h) (a := a) (L := cX10 a) (i := 6) rfl
  obtain ⟨k7, n7, i7, r7, l7⟩ := hC_at (h := h) (a := a) (L := cX10 a) (i := 7) rfl
  obtain ⟨k8, n8, i8, r8, l8⟩ := hC_at (h := h) (a := a) (L := cX10 a) (i := 8) rfl
  obtain ⟨k9, n9, i9, r9, l9⟩ := hC_at (h := h) (a := a) (L := cX10 a) (i := 9) rfl
  obtain ⟨k10, n10, i10, r10, l10⟩ := hC_at (h := h) (a := a) (L := cX10 a) (i := 10) rfl
  obtain ⟨k11, n11, i11, r11, l11⟩ := hC_at (h := h) (a := a) (L := cX10 a) (i := 11) rfl
  obtain ⟨k12, n12, i12, r12, l12⟩ := hC_at (h := h) (a := a) (L := cX10 a) (i := 12) rfl
  obtain ⟨k13, n13, i13, r13, l13⟩ := hC_at (h := h) (a := a) (L := cX10 a) (i := 13) rfl
  obtain ⟨k14, n14, i14, r14, l14⟩ := hC_at (h := h) (a := a) (L := cX10 a) (i := 14) rfl
  obtain ⟨k15, n15, i15, r15, l15⟩ := hC_at (h := h) (a := a) (L := cX10 a) (i := 15) rfl
  obtain ⟨k16, n16, i16, r16, l16⟩ := hC_at (h := h) (a := a) (L := cX10 a) (i := 16) rfl
  obtain ⟨k17, n17, i17, r17, l17⟩ := hC_at (h := h) (a := a) (L := cX10 a) (i := 17) rfl
  obtain ⟨k18, n18, i18, r18, l18⟩ := hC_at (h := h) (a := a) (L := cX10 a) (i := 18) rfl
  obtain ⟨k19, n19, i19, r19, l19⟩ := hC_at (h := h) (a := a) (L := cX10 a) (i := 19) rfl
  obtain ⟨k20, n20, i20, r20, l20⟩ := hC_at (h := h) (a := a) (L := cX10 a) (i := 20) rfl
  obtain ⟨k21, n21, i21, r21, l21⟩ := hC_at (h := h) (a := a) (L := cX10 a) (i := 21) rfl
  obtain ⟨k22, n22, i22, r22, l22⟩ := hC_at (h := h) (a := a) (L := cX10 a) (i := 22) rfl
  obtain ⟨k23, n23, i23, r23, l23⟩ := hC_at (h := h) (a := a) (L := cX10 a) (i := 23) rfl
  obtain ⟨k24, n24, i24, r24, l24⟩ := hC_at (h := h) (a := a) (L := cX10 a) (i := 24) rfl
  obtain ⟨k25, n25, i25, r25, l25⟩ := hC_at (h := h) (a := a) (L := cX10 a) (i := 25) rfl
  obtain ⟨k26, n26, i26, r26, l26⟩ := hC_at (h := h) (a := a) (L := cX10 a) (i := 26) rfl
  rw [Nat.add_zero] at k0 n0 i0 r0 l0
  generalize hC h a (cX10 a) = g at *
  have R : ∀ {b : Nat} {r : Nat → Option Nat} {j c : Nat}, hR g b = r → r j = some c → hR g b j = some c := fun e1 e2 => by rw [e1]; exact e2
  have I : ∀ {b : Nat} {r : Nat → Int32} {j : Nat} {c : Int32}, hI g b = r → r j = c → hI g b j = c := fun e1 e2 => by rw [e1]; exact e2
  have sh : mSh a g := by
    refine ⟨k0, fun k o kd ln e => ?_⟩
    have hk : k < 58 := (List.getElem?_eq_some_iff.mp e).1
    rcases (show k = 0 ∨ k = 1 ∨ k = 2 ∨ k = 3 ∨ k = 4 ∨ k = 5 ∨ k = 6 ∨ k = 7 ∨ k = 8 ∨ k = 9 ∨ k = 10 ∨ k = 11 ∨ k = 12 ∨ k = 13 ∨ k = 14 ∨ k = 15 ∨ k = 16 ∨ k = 17 ∨ k = 18 ∨ k = 19 ∨ k = 20 ∨ k = 21 ∨ k = 22 ∨ k = 23 ∨ k = 24 ∨ k = 25 ∨ k = 26 ∨ k = 27 ∨ k = 28 ∨ k = 29 ∨ k = 30 ∨ k = 31 ∨ k = 32 ∨ k = 33 ∨ k = 34 ∨ k = 35 ∨ k = 36 ∨ k = 37 ∨ k = 38 ∨ k = 39 ∨ k = 40 ∨ k = 41 ∨ k = 42 ∨ k = 43 ∨ k = 44 ∨ k = 45 ∨ k = 46 ∨ k = 47 ∨ k = 48 ∨ k = 49 ∨ k = 50 ∨ k = 51 ∨ k = 52 ∨ k = 53 ∨ k = 54 ∨ k = 55 ∨ k = 56 ∨ k = 57 by omega) with rfl | rfl | rfl | rfl | rfl | rfl | rfl | rfl | rfl | rfl | rfl | rfl | rfl | rfl | rfl | rfl | rfl | rfl | rfl | rfl | rfl | rfl | rfl | rfl | rfl | rfl | rfl | rfl | rfl | rfl | rfl | rfl | rfl | rfl | rfl | rfl | rfl | rfl | rfl | rfl | rfl | rfl | rfl | rfl | rfl | rfl | rfl | rfl | rfl | rfl | rfl | rfl | rfl | rfl | rfl | rfl | rfl | rfl
    · cases e; exact ⟨R r0 rfl, k1, n1⟩
    · cases e
    · cases e
    · cases e
    · cases e
    · cases e
    · cases e
    · cases e
    · cases e; exact ⟨R r0 rfl, k2, n2⟩
    · cases e; exact ⟨R r0 rfl, k3, n3⟩
    · cases e
    · cases e
    · cases e
    · cases e
    · cases e
    · cases e
    · cases e
    · cases e
    · cases e
    · cases e
    · cases e
    · cases e
    · cases e
    · cases e
    · cases e
    · cases e
    · cases e
    · cases e
    · cases e; exact ⟨R r0 rfl, k4, n4⟩
    · cases e
    · cases e
    · cases e
    · cases e
    · cases e; exact ⟨R r0 rfl, k5, n5⟩
    · cases e; exact ⟨R r0 rfl, k6, n6⟩
    · cases e; exact ⟨R r0 rfl, k7, n7⟩
    · cases e; exact ⟨R r0 rfl, k8, n8⟩
    · cases e; exact ⟨R r0 rfl, k9, n9⟩
    · cases e; exact ⟨R r0 rfl, k10, n10⟩
    · cases e; exact ⟨R r0 rfl, k11, n11⟩
    · cases e; exact ⟨R r0 rfl, k12, n12⟩
    · cases e; exact ⟨R r0 rfl, k13, n13⟩
    · cases e
    · cases e; exact ⟨R r0 rfl, k14, n14⟩
    · cases e; exact ⟨R r0 rfl, k15, n15⟩
    · cases e; exact ⟨R r0 rfl, k16, n16⟩
    · cases e; exact ⟨R r0 rfl, k17, n17⟩
    · cases e; exact ⟨R r0 rfl, k18, n18⟩
    · cases e; exact ⟨R r0 rfl, k19, n19⟩
    · cases e; exact ⟨R r0 rfl, k20, n20⟩
    · cases e; exact ⟨R r0 rfl, k21, n21⟩
    · cases e; exact ⟨R r0 rfl, k22, n22⟩
    · cases e; exact ⟨R r0 rfl, k23, n23⟩
    · cases e; exact ⟨R r0 rfl, k24, n24⟩
    · cases e
    · cases e; exact ⟨R r0 rfl, k25, n25⟩
    · cases e; exact ⟨R r0 rfl, k26, n26⟩
    · cases e
  refine ⟨fun _ => 0, ⟨⟨sh, ⟨Nat.zero_le _, I i0 rfl⟩, ⟨Nat.zero_le _, I i0 rfl⟩, ⟨Nat.zero_le _, I i0 rfl⟩, ⟨Nat.zero_le _, I i0 rfl, fun f hf => absurd hf (Nat.not_lt_zero _), Nat.zero_le _⟩, fun p hp => absurd hp (Nat.not_lt_zero _)⟩, V00_ok, I i0 rfl⟩, fun k hk => absurd hk (Nat.not_lt_zero _), fun f hf => absurd hf (Nat.not_lt_zero _), ⟨I i0 rfl, fun i hi => absurd hi (Nat.not_lt_zero _)⟩, ⟨I i0 rfl, Nat.zero_le _, fun k hk => absurd hk (Nat.not_lt_zero _)⟩, ⟨I i0 rfl, I i0 rfl, I i0 rfl⟩, ⟨I i0 rfl, I i0 rfl, I i0 rfl⟩, ⟨I i0 rfl, Nat.zero_le _, fun j hj => absurd hj (Nat.not_lt_zero _)⟩, Or.inl rfl⟩
end K0
