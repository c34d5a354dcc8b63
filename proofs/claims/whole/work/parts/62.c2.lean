/-! Runner: its shape, link, endsOf, goes, actPlaces -/
/-- a Runner with its rows go, ends, byAct behind it -/
def rSh (r : Nat) (h : HS) : Prop := hK h r = 5 ∧ hR h r 0 = some (r + 1) ∧ hK h (r + 1) = 12 ∧ hN h (r + 1) = 56 ∧ hR h r 1 = some (r + 2) ∧ hK h (r + 2) = 12 ∧ hN h (r + 2) = 7 ∧ hR h r 2 = some (r + 3) ∧ hK h (r + 3) = 12 ∧ hN h (r + 3) = 3
def lkF (G : Nat → Int32) (p q : Nat) (s : Int32) (k : Nat) : Nat → Int32 := fun j => if 8 * p ≤ j ∧ j < 8 * p + k then G j ||| (s >>> (nI (j - 8 * p) &&& 31) &&& 1) <<< (nI q &&& 31) else G j
def reF (E : Nat → Int32) (set : Int32) : Nat → Int32
  | 0 => 0
  | p + 1 => reF E set p ||| (if set >>> (nI p &&& 31) &&& 1 = 0 then 0 else E p)
def rgF (G : Nat → Int32) (set : Int32) (k : Nat) : Nat → Int32
  | 0 => 0
  | p + 1 => rgF G set k p ||| (if set >>> (nI p &&& 31) &&& 1 = 0 then 0 else G (8 * p + k))
theorem bit01 (s : Int32) {k : Nat} (hk : k < 32) : s >>> (nI k &&& 31) &&& 1 = 0 ∨ s >>> (nI k &&& 31) &&& 1 = 1 := by
  by_cases e : s >>> (nI k &&& 31) &&& 1 = 1
  · exact Or.inr e
  · left
    refine hasB_ext fun a ha => ?_
    rw [hasB_and ha]
    refine ⟨fun q => absurd ?_ e, fun q => absurd q (hasB_0 ha)⟩
    have h1 : hasB 1 (nI a) := q.2
    have ha0 : a = 0 := (hasB_one (n := 0) (by omega) ha).mp h1
    subst ha0
    refine hasB_ext fun b hb => ?_
    rw [hasB_and hb]
    refine ⟨fun q => q.2, fun q2 => ⟨?_, q2⟩⟩
    have hb0 : b = 0 := (hasB_one (n := 0) (by omega) hb).mp q2
    subst hb0
    exact q.1
theorem bit_ne0 {s : Int32} {k : Nat} (hk : k < 32) : ¬ (s >>> (nI k &&& 31) &&& 1 = 0) ↔ hasB s (nI k) := by
  unfold hasB
  rcases bit01 s hk with e | e
  · rw [e]; simp
  · rw [e]; simp
theorem hasB_sh {s : Int32} {k q b : Nat} (hk : k < 32) (hq : q < 32) (hb : b < 32) : hasB ((s >>> (nI k &&& 31) &&& 1) <<< (nI q &&& 31)) (nI b) ↔ b = q ∧ hasB s (nI k) := by
  rcases bit01 s hk with e | e
  · have hn : ¬ hasB s (nI k) := fun x => by unfold hasB at x; rw [e] at x; exact absurd x (by decide)
    rw [e, show (0 : Int32) <<< (nI q &&& 31) = 0 by simp]
    exact ⟨fun x => absurd x (hasB_0 hb), fun x => absurd x.2 hn⟩
  · have hn : hasB s (nI k) := e
    rw [e, hasB_one hq hb]
    exact ⟨fun x => ⟨x, hn⟩, fun x => x.1⟩
theorem lk_has {G : Nat → Int32} {p0 q0 : Nat} {s : Int32} (hq : q0 < 32) {p k b : Nat} (hk : k < 8) (hb : b < 32) : hasB (lkF G p0 q0 s 8 (8 * p + k)) (nI b) ↔ hasB (G (8 * p + k)) (nI b) ∨ (p = p0 ∧ b = q0 ∧ hasB s (nI k)) := by
  unfold lkF
  by_cases e : p = p0
  · subst e
    rw [if_pos (by omega), hasB_or hb, show 8 * p + k - 8 * p = k by omega, hasB_sh (by omega) hq hb]
    simp
  · rw [if_neg (by omega)]
    simp [e]
theorem reF_has {E : Nat → Int32} {set : Int32} : ∀ n, n ≤ 7 → ∀ b, b < 32 → (hasB (reF E set n) (nI b) ↔ ∃ p, p < n ∧ hasB set (nI p) ∧ hasB (E p) (nI b)) := by
  intro n
  induction n with
  | zero => intro _ b hb; exact ⟨fun x => absurd x (hasB_0 hb), fun ⟨p, x, _⟩ => by omega⟩
  | succ n ih =>
    intro hn b hb
    rw [reF, hasB_or hb, ih (by omega) b hb]
    have e0 := bit_ne0 (s := set) (k := n) (by omega)
    constructor
    · rintro (⟨p, x1, x2⟩ | x)
      · exact ⟨p, by omega, x2⟩
      · by_cases e : set >>> (nI n &&& 31) &&& 1 = 0
        · rw [if_pos e] at x; exact absurd x (hasB_0 hb)
        · rw [if_neg e] at x; exact ⟨n, by omega, e0.mp e, x⟩
    · rintro ⟨p, x1, x2, x3⟩
      by_cases e : p = n
      · subst e
        right
        rw [if_neg (e0.mpr x2)]; exact x3
      · exact Or.inl ⟨p, by omega, x2, x3⟩
theorem rgF_has {G : Nat → Int32} {set : Int32} {k : Nat} : ∀ n, n ≤ 7 → ∀ b, b < 32 → (hasB (rgF G set k n) (nI b) ↔ ∃ p, p < n ∧ hasB set (nI p) ∧ hasB (G (8 * p + k)) (nI b)) := by
  intro n hn b hb
  have e : ∀ n, rgF G set k n = reF (fun p => G (8 * p + k)) set n := by
    intro n
    induction n with
    | zero => rfl
    | succ n ih => rw [rgF, reF, ih]
  rw [e, reF_has n hn b hb]
section C2
variable {w : gD} {r : Nat} {h : HS}
theorem e_r_link (hr : rSh r h) {p q : Nat} (hp : p < 7) (s : Int32) : EvF w 0 0 0 yX4_link cX4_link 5 none [.ref r, .int (nI p), .int (nI q), .int s] h none (sF h (r + 1) (lkF (hI h (r + 1)) p q s 8)) := by
  refine g_start (by decide) (Nat.le_of_ble_eq_true rfl) [(0, _), (1, _), (2, _), (3, _)] rfl (fun z hfl C => ?_)
  have key : ∀ n k, k + n = 8 → GW z w 5 (gQ z w 0 0 (fun r' h'' => r' = none ∧ h'' = sF h (r + 1) (lkF (hI h (r + 1)) p q s 8))) 0 0 3 [(0, .ref r), (1, .int (nI p)), (2, .int (nI q)), (3, .int s), (4, .int (nI k))] [] (sF h (r + 1) (lkF (hI h (r + 1)) p q s k)) := by
    intro n
    induction n with
    | zero =>
      intro k hk
      refine g_iload C (gd DX4_link_0 2 rfl) 4 rfl ?_
      refine g_bipush (v := 8) C (gd DX4_link_0 3 rfl) (by decide) ?_
      refine g_icmp_ge C 39 (gd DX4_link_0 4 rfl) (by decide) (fun c7 => ?_) (fun c7 => ?_)
      · exact g_vret C (by omega) (by omega) ⟨rfl, by rw [show k = 8 by omega]⟩ (gd DX4_link_0 25 rfl)
      · exact absurd (nI_le (a := 8) (b := k) (by omega) (by omega)) c7
    | succ n ih =>
      intro k hk
      refine g_iload C (gd DX4_link_0 2 rfl) 4 rfl ?_
      refine g_bipush (v := 8) C (gd DX4_link_0 3 rfl) (by decide) ?_
      refine g_icmp_ge C 39 (gd DX4_link_0 4 rfl) (by decide) (fun c7 => ?_) (fun c7 => ?_)
      · exact absurd c7 (nI_ge (a := k) (b := 8) (by omega) (by omega))
      · refine g_aload_n C (gd DX4_link_0 5 rfl) 0 rfl rfl ?_
        refine g_getr (ci := 4) (k := 0) C rfl (by decide) rfl lf_TestJudge_Runner_13 hr.1 hr.2.1 (gd DX4_link_0 6 rfl) ?_
        refine g_iload_n C (gd DX4_link_0 7 rfl) 1 rfl rfl ?_
        refine g_bipush (v := 8) C (gd DX4_link_0 8 rfl) (by decide) ?_
        refine g_imul C (gd DX4_link_0 9 rfl) ?_
        refine g_iload C (gd DX4_link_0 10 rfl) 4 rfl ?_
        refine g_iadd C (gd DX4_link_0 11 rfl) ?_
        refine g_dup2 C (gd DX4_link_0 12 rfl) rfl rfl ?_
        refine g_iaj (j := ((p * 8) + k)) C hr.2.2.1 hr.2.2.2.1 (by decide) (nx_add (nx_mul rfl rfl) rfl) (by omega) (gd DX4_link_0 13 rfl) ?_
        refine g_iload_n C (gd DX4_link_0 14 rfl) 3 rfl rfl ?_
        refine g_iload C (gd DX4_link_0 15 rfl) 4 rfl ?_
        refine g_ishr C (gd DX4_link_0 16 rfl) ?_
        refine g_iconst (v := 1) C (gd DX4_link_0 17 rfl) (by decide) ?_
        refine g_iand C (gd DX4_link_0 18 rfl) ?_
        refine g_iload_n C (gd DX4_link_0 19 rfl) 2 rfl rfl ?_
        refine g_ishl C (gd DX4_link_0 20 rfl) ?_
        refine g_ior C (gd DX4_link_0 21 rfl) ?_
        refine g_isj (j := ((p * 8) + k)) C hr.2.2.1 hr.2.2.2.1 (by decide) (nx_add (nx_mul rfl rfl) rfl) (by omega) (gd DX4_link_0 22 rfl) ?_
        refine g_iinc (lv' := [(0, _), (1, _), (2, _), (3, _), (4, _)]) C (gd DX4_link_0 23 rfl) 4 [1, 2, 3, 4, 0] rfl rfl (by decide) rfl ?_
        refine g_goto (tgt := 3) C (gd DX4_link_0 24 rfl) (by decide) ?_
        refine GW.cast (by rw [inc1]) rfl ?_ (ih (k + 1) (by omega))
        rw [sI_sF_same]
        congr 1
        funext j
        simp only [upd, hI_sF_eq, lkF]
        by_cases e : j = p * 8 + k
        · subst e
          rw [if_pos rfl, if_neg (by omega), if_pos (by omega), show p * 8 + k - 8 * p = k by omega]
        · rw [if_neg e]
          by_cases e2 : 8 * p ≤ j ∧ j < 8 * p + k
          · rw [if_pos e2, if_pos (by omega)]
          · rw [if_neg e2, if_neg (by omega)]
  refine g_iconst (v := 0) C (gd DX4_link_0 0 rfl) (by decide) ?_
  refine g_istore (lv' := [(0, _), (1, _), (2, _), (3, _), (4, _)]) C (gd DX4_link_0 1 rfl) [1, 2, 3, 4, 0] (by decide) rfl ?_
  refine GW.cast rfl rfl ?_ (key 8 0 rfl)
  rw [show lkF (hI h (r + 1)) p q s 0 = hI h (r + 1) from funext fun j => if_neg (by omega), sF_self]
theorem e_r_endsOf (hr : rSh r h) (set : Int32) : EvF w 0 0 0 yX4_endsOf cX4_endsOf 4 (some .int) [.ref r, .int set] h (some (.int (reF (hI h (r + 2)) set 7))) h := by
  refine g_start (by decide) (Nat.le_of_ble_eq_true rfl) [(0, _), (1, _)] rfl (fun z hfl C => ?_)
  have key : ∀ n k, k + n = 7 → GW z w 4 (gQ z w 0 0 (fun r' h'' => r' = some (.int (reF (hI h (r + 2)) set 7)) ∧ h'' = h)) 0 0 4 [(0, .ref r), (1, .int set), (2, .int (reF (hI h (r + 2)) set k)), (3, .int (nI k))] [] h := by
    intro n
    induction n with
    | zero =>
      intro k hk
      refine g_iload_n C (gd DX4_endsOf_0 4 rfl) 3 rfl rfl ?_
      refine g_bipush (v := 7) C (gd DX4_endsOf_0 5 rfl) (by decide) ?_
      refine g_icmp_ge C 37 (gd DX4_endsOf_0 6 rfl) (by decide) (fun c7 => ?_) (fun c7 => ?_)
      · refine g_iload_n C (gd DX4_endsOf_0 24 rfl) 2 rfl rfl ?_
        exact g_iret C (by omega) (by omega) ⟨by rw [show k = 7 by omega], rfl⟩ (gd DX4_endsOf_0 25 rfl)
      · exact absurd (nI_le (a := 7) (b := k) (by omega) (by omega)) c7
    | succ n ih =>
      intro k hk
      have nx : ∀ v, v = (if set >>> (nI k &&& 31) &&& 1 = 0 then 0 else hI h (r + 2) k) → GW z w 4 (gQ z w 0 0 (fun r' h'' => r' = some (.int (reF (hI h (r + 2)) set 7)) ∧ h'' = h)) 0 0 29 [(0, .ref r), (1, .int set), (2, .int (reF (hI h (r + 2)) set k)), (3, .int (nI k))] [.int v, .int (reF (hI h (r + 2)) set k)] h := by
        intro v hv
        refine g_ior C (gd DX4_endsOf_0 20 rfl) ?_
        refine g_istore_n (lv' := [(0, _), (1, _), (2, _), (3, _)]) C (gd DX4_endsOf_0 21 rfl) [1, 2, 0, 3] rfl (by decide) rfl ?_
        refine g_iinc (lv' := [(0, _), (1, _), (2, _), (3, _)]) C (gd DX4_endsOf_0 22 rfl) 3 [1, 2, 3, 0] rfl rfl (by decide) rfl ?_
        refine g_goto (tgt := 4) C (gd DX4_endsOf_0 23 rfl) (by decide) ?_
        exact GW.cast (by rw [inc1, hv]; rfl) rfl rfl (ih (k + 1) (by omega))
      refine g_iload_n C (gd DX4_endsOf_0 4 rfl) 3 rfl rfl ?_
      refine g_bipush (v := 7) C (gd DX4_endsOf_0 5 rfl) (by decide) ?_
      refine g_icmp_ge C 37 (gd DX4_endsOf_0 6 rfl) (by decide) (fun c7 => ?_) (fun c7 => ?_)
      · exact absurd c7 (nI_ge (a := k) (b := 7) (by omega) (by omega))
      · refine g_iload_n C (gd DX4_endsOf_0 7 rfl) 2 rfl rfl ?_
        refine g_iload_n C (gd DX4_endsOf_0 8 rfl) 1 rfl rfl ?_
        refine g_iload_n C (gd DX4_endsOf_0 9 rfl) 3 rfl rfl ?_
        refine g_ishr C (gd DX4_endsOf_0 10 rfl) ?_
        refine g_iconst (v := 1) C (gd DX4_endsOf_0 11 rfl) (by decide) ?_
        refine g_iand C (gd DX4_endsOf_0 12 rfl) ?_
        refine g_if_ne C 23 (gd DX4_endsOf_0 13 rfl) (by decide) (fun c16 => ?_) (fun c16 => ?_)
        · refine g_aload_n C (gd DX4_endsOf_0 16 rfl) 0 rfl rfl ?_
          refine g_getr (ci := 4) (k := 1) C rfl (by decide) rfl lf_TestJudge_Runner_17 hr.1 hr.2.2.2.2.1 (gd DX4_endsOf_0 17 rfl) ?_
          refine g_iload_n C (gd DX4_endsOf_0 18 rfl) 3 rfl rfl ?_
          refine g_iaj (j := k) C hr.2.2.2.2.2.1 hr.2.2.2.2.2.2.1 (by decide) rfl (by omega) (gd DX4_endsOf_0 19 rfl) ?_
          exact nx _ (if_neg c16).symm
        · refine g_iconst (v := 0) C (gd DX4_endsOf_0 14 rfl) (by decide) ?_
          refine g_goto (tgt := 29) C (gd DX4_endsOf_0 15 rfl) (by decide) ?_
          exact nx _ (if_pos c16).symm
  refine g_iconst (v := 0) C (gd DX4_endsOf_0 0 rfl) (by decide) ?_
  refine g_istore_n (lv' := [(0, _), (1, _), (2, _)]) C (gd DX4_endsOf_0 1 rfl) [1, 2, 0] rfl (by decide) rfl ?_
  refine g_iconst (v := 0) C (gd DX4_endsOf_0 2 rfl) (by decide) ?_
  refine g_istore_n (lv' := [(0, _), (1, _), (2, _), (3, _)]) C (gd DX4_endsOf_0 3 rfl) [1, 2, 3, 0] rfl (by decide) rfl ?_
  exact key 7 0 rfl
theorem e_r_goes (hr : rSh r h) (set : Int32) {k : Nat} (hk : k < 8) : EvF w 0 0 0 yX4_goes cX4_goes 5 (some .int) [.ref r, .int set, .int (nI k)] h (some (.int (rgF (hI h (r + 1)) set k 7))) h := by
  refine g_start (by decide) (Nat.le_of_ble_eq_true rfl) [(0, _), (1, _), (2, _)] rfl (fun z hfl C => ?_)
  have key : ∀ n p, p + n = 7 → GW z w 5 (gQ z w 0 0 (fun r' h'' => r' = some (.int (rgF (hI h (r + 1)) set k 7)) ∧ h'' = h)) 0 0 5 [(0, .ref r), (1, .int set), (2, .int (nI k)), (3, .int (rgF (hI h (r + 1)) set k p)), (4, .int (nI p))] [] h := by
    intro n
    induction n with
    | zero =>
      intro p hp
      refine g_iload C (gd DX4_goes_0 4 rfl) 4 rfl ?_
      refine g_bipush (v := 7) C (gd DX4_goes_0 5 rfl) (by decide) ?_
      refine g_icmp_ge C 46 (gd DX4_goes_0 6 rfl) (by decide) (fun c9 => ?_) (fun c9 => ?_)
      · refine g_iload_n C (gd DX4_goes_0 28 rfl) 3 rfl rfl ?_
        exact g_iret C (by omega) (by omega) ⟨by rw [show p = 7 by omega], rfl⟩ (gd DX4_goes_0 29 rfl)
      · exact absurd (nI_le (a := 7) (b := p) (by omega) (by omega)) c9
    | succ n ih =>
      intro p hp
      have nx : ∀ v, v = (if set >>> (nI p &&& 31) &&& 1 = 0 then 0 else hI h (r + 1) (8 * p + k)) → GW z w 5 (gQ z w 0 0 (fun r' h'' => r' = some (.int (rgF (hI h (r + 1)) set k 7)) ∧ h'' = h)) 0 0 38 [(0, .ref r), (1, .int set), (2, .int (nI k)), (3, .int (rgF (hI h (r + 1)) set k p)), (4, .int (nI p))] [.int v, .int (rgF (hI h (r + 1)) set k p)] h := by
        intro v hv
        refine g_ior C (gd DX4_goes_0 24 rfl) ?_
        refine g_istore_n (lv' := [(0, _), (1, _), (2, _), (3, _), (4, _)]) C (gd DX4_goes_0 25 rfl) [1, 2, 3, 0, 4] rfl (by decide) rfl ?_
        refine g_iinc (lv' := [(0, _), (1, _), (2, _), (3, _), (4, _)]) C (gd DX4_goes_0 26 rfl) 4 [1, 2, 3, 4, 0] rfl rfl (by decide) rfl ?_
        refine g_goto (tgt := 5) C (gd DX4_goes_0 27 rfl) (by decide) ?_
        exact GW.cast (by rw [inc1, hv]; rfl) rfl rfl (ih (p + 1) (by omega))
      refine g_iload C (gd DX4_goes_0 4 rfl) 4 rfl ?_
      refine g_bipush (v := 7) C (gd DX4_goes_0 5 rfl) (by decide) ?_
      refine g_icmp_ge C 46 (gd DX4_goes_0 6 rfl) (by decide) (fun c9 => ?_) (fun c9 => ?_)
      · exact absurd c9 (nI_ge (a := p) (b := 7) (by omega) (by omega))
      · refine g_iload_n C (gd DX4_goes_0 7 rfl) 3 rfl rfl ?_
        refine g_iload_n C (gd DX4_goes_0 8 rfl) 1 rfl rfl ?_
        refine g_iload C (gd DX4_goes_0 9 rfl) 4 rfl ?_
        refine g_ishr C (gd DX4_goes_0 10 rfl) ?_
        refine g_iconst (v := 1) C (gd DX4_goes_0 11 rfl) (by decide) ?_
        refine g_iand C (gd DX4_goes_0 12 rfl) ?_
        refine g_if_ne C 26 (gd DX4_goes_0 13 rfl) (by decide) (fun c19 => ?_) (fun c19 => ?_)
        · refine g_aload_n C (gd DX4_goes_0 16 rfl) 0 rfl rfl ?_
          refine g_getr (ci := 4) (k := 0) C rfl (by decide) rfl lf_TestJudge_Runner_13 hr.1 hr.2.1 (gd DX4_goes_0 17 rfl) ?_
          refine g_iload C (gd DX4_goes_0 18 rfl) 4 rfl ?_
          refine g_bipush (v := 8) C (gd DX4_goes_0 19 rfl) (by decide) ?_
          refine g_imul C (gd DX4_goes_0 20 rfl) ?_
          refine g_iload_n C (gd DX4_goes_0 21 rfl) 2 rfl rfl ?_
          refine g_iadd C (gd DX4_goes_0 22 rfl) ?_
          refine g_iaj (j := ((p * 8) + k)) C hr.2.2.1 hr.2.2.2.1 (by decide) (nx_add (nx_mul rfl rfl) rfl) (by omega) (gd DX4_goes_0 23 rfl) ?_
          exact nx _ (by rw [if_neg c19, show p * 8 + k = 8 * p + k by omega])
        · refine g_iconst (v := 0) C (gd DX4_goes_0 14 rfl) (by decide) ?_
          refine g_goto (tgt := 38) C (gd DX4_goes_0 15 rfl) (by decide) ?_
          exact nx _ (if_pos c19).symm
  refine g_iconst (v := 0) C (gd DX4_goes_0 0 rfl) (by decide) ?_
  refine g_istore_n (lv' := [(0, _), (1, _), (2, _), (3, _)]) C (gd DX4_goes_0 1 rfl) [1, 2, 3, 0] rfl (by decide) rfl ?_
  refine g_iconst (v := 0) C (gd DX4_goes_0 2 rfl) (by decide) ?_
  refine g_istore (lv' := [(0, _), (1, _), (2, _), (3, _), (4, _)]) C (gd DX4_goes_0 3 rfl) [1, 2, 3, 4, 0] (by decide) rfl ?_
  exact key 7 0 rfl
theorem e_r_actPlaces (hr : rSh r h) {c : Nat} (hc : c < 3) : EvF w 0 0 0 yX4_actPlaces cX4_actPlaces 2 (some .int) [.ref r, .int (nI c)] h (some (.int (hI h (r + 3) c))) h := by
  refine g_start (by decide) (Nat.le_of_ble_eq_true rfl) [(0, _), (1, _)] rfl (fun z hfl C => ?_)
  refine g_aload_n C (gd DX4_actPlaces_0 0 rfl) 0 rfl rfl ?_
  refine g_getr (ci := 4) (k := 2) C rfl (by decide) rfl lf_TestJudge_Runner_20 hr.1 hr.2.2.2.2.2.2.2.1 (gd DX4_actPlaces_0 1 rfl) ?_
  refine g_iload_n C (gd DX4_actPlaces_0 2 rfl) 1 rfl rfl ?_
  refine g_iaj (j := c) C hr.2.2.2.2.2.2.2.2.1 hr.2.2.2.2.2.2.2.2.2 (by decide) rfl (by omega) (gd DX4_actPlaces_0 3 rfl) ?_
  exact g_iret C (by omega) (by omega) ⟨rfl, rfl⟩ (gd DX4_actPlaces_0 4 rfl)
end C2
