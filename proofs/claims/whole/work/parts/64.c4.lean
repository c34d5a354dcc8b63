/-! what a taken piece answers is what the record tells; keys and their codes -/
theorem hasB_nI {x p : Nat} (hx : x < 2 ^ 31) (hp : p < 32) : hasB (nI x) (nI p) ↔ x.testBit p = true := by
  rw [hasB_iff hp]
  have e : (nI x).toBitVec = BitVec.ofNat 32 x := by
    refine BitVec.eq_of_toNat_eq ?_
    rw [BitVec.toNat_ofNat]
    have h1 := nI_toInt hx
    have h2 : (nI x).toInt = (nI x).toBitVec.toInt := rfl
    rw [h2, BitVec.toInt_eq_toNat_cond] at h1
    split at h1 <;> omega
  rw [e, BitVec.getLsbD_ofNat]
  simp [hp]
theorem endF_has {R : Nat → Int32} {set e : Int32} : ∀ n, n ≤ 16 → ∀ b, b < 32 → (hasB (endF R set e n) (nI b) ↔ hasB e (nI b) ∨ ∃ p, p < n ∧ hasB set (nI p) ∧ hasB (R (34 + p)) (nI b)) := by
  intro n
  induction n with
  | zero => intro _ b hb; exact ⟨fun x => Or.inl x, fun x => by rcases x with x | ⟨p, x, _⟩; exact x; omega⟩
  | succ n ih =>
    intro hn b hb
    rw [endF, hasB_or hb, ih (by omega) b hb]
    constructor
    · rintro ((x | ⟨p, x1, x2⟩) | x)
      · exact Or.inl x
      · exact Or.inr ⟨p, by omega, x2⟩
      · by_cases e : set >>> (nI n &&& 31) &&& 1 = 1
        · rw [if_pos e] at x; exact Or.inr ⟨n, by omega, e, x⟩
        · rw [if_neg e] at x; exact absurd x (hasB_0 hb)
    · rintro (x | ⟨p, x1, x2, x3⟩)
      · exact Or.inl (Or.inl x)
      · by_cases e : p = n
        · subst e
          right
          rw [if_pos (show set >>> (nI p &&& 31) &&& 1 = 1 from x2)]; exact x3
        · exact Or.inl (Or.inr ⟨p, by omega, x2, x3⟩)
theorem goF_has {R : Nat → Int32} {a : Nat} {set atom act : Int32} {beg : Prop} : ∀ n, n ≤ 32 → ∀ b, b < 32 → (hasB (goF R a set atom act beg n) (nI b) ↔ b < n ∧ goC R a set atom act beg b) := by
  have e : ∀ n, goF R a set atom act beg n = bitF (goC R a set atom act beg) n := by
    intro n
    induction n with
    | zero => rfl
    | succ n ih => rw [goF, bitF, ih]
  intro n hn b hb
  rw [e, hasB_bitF hn hb]
theorem set_bits {n S p : Nat} {b : Nat} (hn : n ≤ 6) (hS : S < 2 ^ n) (hb : b ≤ 1) (hp : p < 7) : hasB (nI (S + 64 * b)) (nI p) ↔ (p < n ∧ hasB (nI S) (nI p)) ∨ (p = 6 ∧ b = 1) := by
  have h64 : S < 64 := Nat.lt_of_lt_of_le hS (Nat.pow_le_pow_right (by omega) hn)
  rw [hasB_nI (by omega) (by omega), hasB_nI (by omega) (by omega)]
  have e : (S + 64 * b).testBit p = (if p < 6 then S.testBit p else decide (b = 1)) := by
    rw [show S + 64 * b = 2 ^ 6 * b + S by omega, Nat.testBit_two_pow_mul_add b (by omega)]
    split
    · rfl
    · have hp6 : p = 6 := by omega
      subst hp6
      rcases (by omega : b = 0 ∨ b = 1) with x | x <;> subst x <;> rfl
  rw [e]
  by_cases h6 : p < 6
  · rw [if_pos h6]
    by_cases hpn : p < n
    · simp [hpn]; omega
    · have : S.testBit p = false := Nat.testBit_lt_two_pow (Nat.lt_of_lt_of_le hS (Nat.pow_le_pow_right (by omega) (by omega)))
      rw [this]
      simp; omega
  · rw [if_neg h6]
    simp; omega
theorem tk_ends {R : Nat → Int32} {n : Nat} {G E B : Nat → Int32} (t : tkP R n G E B) (hn : n ≤ 6) {S b : Nat} (hS : S < 2 ^ n) (hb : b ≤ 1) : reF E (nI (S + 64 * b)) 7 = endF R (nI S) (if b = 1 then R 1 else 0) n := by
  refine hasB_ext fun j hj => ?_
  rw [reF_has 7 (by omega) j hj, endF_has n (by omega) j hj]
  constructor
  · rintro ⟨p, x1, x2, x3⟩
    rcases (set_bits hn hS hb x1).mp x2 with ⟨y1, y2⟩ | ⟨y1, y2⟩
    · right
      rw [t.1.2.1 p y1] at x3
      exact ⟨p, y1, y2, x3⟩
    · subst y1
      rw [t.2] at x3
      left
      rw [if_pos y2]; exact x3
  · rintro (x | ⟨p, x1, x2, x3⟩)
    · by_cases hb1 : b = 1
      · rw [if_pos hb1] at x
        exact ⟨6, by omega, (set_bits hn hS hb (by omega)).mpr (Or.inr ⟨rfl, hb1⟩), by rw [t.2]; exact x⟩
      · rw [if_neg hb1] at x; exact absurd x (hasB_0 hj)
    · exact ⟨p, by omega, (set_bits hn hS hb (by omega)).mpr (Or.inl ⟨x1, x2⟩), by rw [t.1.2.1 p x1]; exact x3⟩
theorem tk_go {R : Nat → Int32} {n : Nat} {G E B : Nat → Int32} (t : tkP R n G E B) (hn : n ≤ 6) {S b k c : Nat} (hS : S < 2 ^ n) (hb : b ≤ 1) (hk : k < 8) (hc : c < 3) {M : Int32} (hM : ∀ j, j < n → hasB M (nI j)) (bg : Prop) (hbg : bg ↔ b = 1) : rgF G (nI (S + 64 * b)) k 7 &&& B c &&& M = goF R n (nI S) (nI k) (nI c) bg n := by
  refine hasB_ext fun j hj => ?_
  rw [hasB_and hj, hasB_and hj, rgF_has 7 (by omega) j hj, goF_has n (by omega) j hj, t.1.2.2 c j hc hj]
  unfold goC
  constructor
  · rintro ⟨⟨⟨p, x1, x2, x3⟩, x4, x5⟩, x6⟩
    refine ⟨x4, x5, ?_⟩
    rw [t.1.1 p k j x1 hk hj] at x3
    rcases x3 with ⟨y1, y2, y3⟩ | ⟨y1, y2, y3⟩
    · right
      have hpn : p < n := by omega
      rcases (set_bits hn hS hb x1).mp x2 with ⟨z1, z2⟩ | ⟨z1, z2⟩
      · exact ⟨p, hpn, z2, y3⟩
      · omega
    · left
      subst y1
      rcases (set_bits hn hS hb x1).mp x2 with ⟨z1, z2⟩ | ⟨z1, z2⟩
      · omega
      · exact ⟨hbg.mpr z2, y3⟩
  · rintro ⟨x1, x2, x3⟩
    refine ⟨⟨?_, x1, x2⟩, hM j x1⟩
    rcases x3 with ⟨y1, y2⟩ | ⟨p, y1, y2, y3⟩
    · exact ⟨6, by omega, (set_bits hn hS hb (by omega)).mpr (Or.inr ⟨rfl, hbg.mp y1⟩), (t.1.1 6 k j (by omega) hk hj).mpr (Or.inr ⟨rfl, x1, y2⟩)⟩
    · exact ⟨p, by omega, (set_bits hn hS hb (by omega)).mpr (Or.inl ⟨y1, y2⟩), (t.1.1 p k j (by omega) hk hj).mpr (Or.inl ⟨Or.inl ⟨y1, x1⟩, by omega, y3⟩)⟩
/-- the key of places a, b and f -/
def kKey (a b f : Nat) : Int64 := lN (a + 65536 * b + 4294967296 * f)
/-- a key as it is met with P: the beginning, or places of each -/
def kW (P : kP) (key : Int64) : Prop := key = BEG ∨ ∃ a b f, a < 2 ^ P.2.2.2.2.2.1 ∧ b < 2 ^ P.2.2.2.2.2.2.1 ∧ f < 2 ^ P.2.2.2.2.2.2.2 ∧ key = kKey a b f
/-- weights as the class has them -/
def kSm (P : kP) : Prop := P.2.2.2.2.2.1 ≤ 6 ∧ P.2.2.2.2.2.2.1 ≤ 6 ∧ P.2.2.2.2.2.2.2 ≤ 2
theorem kK_n {P : kP} (hs : kSm P) {a b f : Nat} (ha : a < 2 ^ P.2.2.2.2.2.1) (hb : b < 2 ^ P.2.2.2.2.2.2.1) (hf : f < 2 ^ P.2.2.2.2.2.2.2) : a < 64 ∧ b < 64 ∧ f < 4 :=
  ⟨Nat.lt_of_lt_of_le ha (Nat.pow_le_pow_right (by omega) hs.1), Nat.lt_of_lt_of_le hb (Nat.pow_le_pow_right (by omega) hs.2.1), Nat.lt_of_lt_of_le hf (Nat.pow_le_pow_right (by omega) hs.2.2)⟩
theorem kKey_ne {a b f : Nat} (ha : a < 64) (hb : b < 64) (hf : f < 4) : kKey a b f ≠ BEG := fun z => by
  have this : (kKey a b f).toInt.toNat = BEG.toInt.toNat := congrArg (fun x : Int64 => x.toInt.toNat) z
  rw [kKey, lN_nat (by omega), show BEG.toInt.toNat = 1099511627776 by decide] at this
  omega
theorem kParts0 : ∀ a, a < 64 → ∀ b, b < 64 → ∀ f, f < 4 → (lN (a + 65536 * b + 4294967296 * f) &&& 65535).toInt32 = nI a ∧ ((lN (a + 65536 * b + 4294967296 * f) >>> ((16 : Int32).toInt64 &&& 63)) &&& 65535).toInt32 = nI b ∧ ((lN (a + 65536 * b + 4294967296 * f) >>> ((32 : Int32).toInt64 &&& 63)) &&& 255).toInt32 = nI f := by decide +kernel
theorem kParts {a b f : Nat} (ha : a < 64) (hb : b < 64) (hf : f < 4) : kMi (kKey a b f) = nI a ∧ kIt (kKey a b f) = nI b ∧ kBa (kKey a b f) = nI f ∧ kbg (kKey a b f) = 0 := by
  obtain ⟨h1, h2, h3⟩ := kParts0 a ha b hb f hf
  refine ⟨h1, h2, ?_, ?_⟩
  · rw [kBa, if_neg (kKey_ne ha hb hf)]; exact h3
  · rw [kbg, b1_f (kKey_ne ha hb hf)]
theorem kBeg : kMi BEG = 0 ∧ kIt BEG = 0 ∧ kBa BEG = 0 ∧ kbg BEG = 1 := by
  refine ⟨by decide, by decide, by rw [kBa, if_pos rfl], by rw [kbg, b1_t rfl]⟩
theorem kCode_key {a b f : Nat} (ha : a < 64) (hb : b < 64) (hf : f < 4) : kCode (kKey a b f) = a + 64 * b + 4096 * f := kCode_K ha hb hf
theorem kCode_beg : kCode BEG = 16384 := by rw [kCode, if_pos rfl]
theorem kW.lt {P : kP} (hs : kSm P) {key : Int64} (h : kW P key) : kCode key < 16385 := by
  rcases h with rfl | ⟨a, b, f, ha, hb, hf, rfl⟩
  · rw [kCode_beg]; omega
  · obtain ⟨h1, h2, h3⟩ := kK_n hs ha hb hf
    rw [kCode_key h1 h2 h3]; omega
theorem kW.inj {P : kP} (hs : kSm P) {key key' : Int64} (h : kW P key) (h' : kW P key') (e : kCode key = kCode key') : key = key' := by
  rcases h with rfl | ⟨a, b, f, ha, hb, hf, rfl⟩ <;> rcases h' with rfl | ⟨a', b', f', ha', hb', hf', rfl⟩
  · rfl
  · obtain ⟨h1, h2, h3⟩ := kK_n hs ha' hb' hf'
    rw [kCode_beg, kCode_key h1 h2 h3] at e; omega
  · obtain ⟨h1, h2, h3⟩ := kK_n hs ha hb hf
    rw [kCode_beg, kCode_key h1 h2 h3] at e; omega
  · obtain ⟨h1, h2, h3⟩ := kK_n hs ha hb hf
    obtain ⟨g1, g2, g3⟩ := kK_n hs ha' hb' hf'
    rw [kCode_key h1 h2 h3, kCode_key g1 g2 g3] at e
    rw [show a = a' by omega, show b = b' by omega, show f = f' by omega]
theorem kSc_W {P : kP} (hs : kSm P) {key k' : Int64} {j : Nat} (h : kSc P key j = some k') : ∃ a b f, a < 2 ^ P.2.2.2.2.2.1 ∧ b < 2 ^ P.2.2.2.2.2.2.1 ∧ f < 2 ^ P.2.2.2.2.2.2.2 ∧ kA P key j = nI a ∧ kB P key j = nI b ∧ kF P key j = nI f ∧ k' = kKey a b f := by
  unfold kSc at h
  split at h
  · cases h
  split at h
  · cases h
  split at h
  · cases h
  split at h
  · cases h
  obtain ⟨a, ha, ea⟩ := goF_n P.2.2.1 P.2.2.2.2.2.1 (kMi key) (nI (j / 3)) (nI (j % 3)) (¬ kbg key = 0) P.2.2.2.2.2.1 hs.1
  obtain ⟨b, hb, eb⟩ := goF_n P.2.2.2.1 P.2.2.2.2.2.2.1 (kIt key) (nI (j / 3)) (nI (j % 3)) (¬ kbg key = 0) P.2.2.2.2.2.2.1 hs.2.1
  obtain ⟨f, hf, ef⟩ := goF_n P.2.2.2.2.1 P.2.2.2.2.2.2.2 (kBa key) (nI (j / 3)) (nI (j % 3)) (¬ (1 : Int32) = 0) P.2.2.2.2.2.2.2 (by have := hs.2.2; omega)
  obtain ⟨a64, b64, f4⟩ := kK_n hs ha hb hf
  refine ⟨a, b, f, ha, hb, hf, ea, eb, ef, ?_⟩
  rw [← Option.some.inj h, kKey, ← key_lN a a64 b b64 f f4, ← ea, ← eb, ← ef]
  rfl
theorem code_or : ∀ a, a < 64 → ∀ b, b < 64 → ∀ f, f < 4 → nI a ||| nI b <<< ((6 : Int32) &&& 31) ||| nI f <<< ((12 : Int32) &&& 31) = nI (a + 64 * b + 4096 * f) := by decide +kernel
theorem code_parts : ∀ a, a < 64 → ∀ b, b < 64 → ∀ f, f < 4 → nI (a + 64 * b + 4096 * f) &&& 63 = nI a ∧ nI (a + 64 * b + 4096 * f) >>> ((6 : Int32) &&& 31) &&& 63 = nI b ∧ 64 ||| nI (a + 64 * b + 4096 * f) >>> ((12 : Int32) &&& 31) &&& 3 = nI (f + 64) := by decide +kernel
theorem m63 : ∀ j, j < 6 → hasB 63 (nI j) := fun j hj => (hasB_nI (x := 63) (by omega) (by omega)).mpr ((by decide : ∀ j, j < 6 → (63 : Nat).testBit j = true) j hj)
theorem m3 : ∀ j, j < 2 → hasB 3 (nI j) := fun j hj => (hasB_nI (x := 3) (by omega) (by omega)).mpr ((by decide : ∀ j, j < 2 → (3 : Nat).testBit j = true) j hj)
