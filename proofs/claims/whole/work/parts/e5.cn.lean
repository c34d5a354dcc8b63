/-! counting: what the reference counts over states is what is weighed from the beginning -/
theorem lN_ad (a b : Nat) : lN a + lN b = lN (a + b) := by
  apply Int64.toBitVec_inj.mp
  rw [Int64.toBitVec_add]
  show BitVec.ofNat 64 a + BitVec.ofNat 64 b = BitVec.ofNat 64 (a + b)
  rw [BitVec.ofNat_add]
def smN (f : Nat → Nat) : Nat → Nat
  | 0 => 0
  | n + 1 => smN f n + f n
theorem smN_le {f g : Nat → Nat} : ∀ n, (∀ i, i < n → f i ≤ g i) → smN f n ≤ smN g n
  | 0, _ => Nat.le_refl _
  | n + 1, h => by
    have := smN_le n (fun i hi => h i (by omega))
    have := h n (by omega)
    simp only [smN]
    omega
theorem smN_ge {f : Nat → Nat} {s : Nat} : f s ≤ smN f (s + 1) := by
  simp only [smN]
  omega
theorem smN_upd {f : Nat → Nat} {j x : Nat} : ∀ n, smN (fun s => if s = j then f s + x else f s) n ≤ smN f n + x
  | 0 => Nat.zero_le _
  | n + 1 => by
    by_cases e : n = j
    · have z : ∀ m, m ≤ n → smN (fun s => if s = j then f s + x else f s) m = smN f m := by
        intro m
        induction m with
        | zero => intro _; rfl
        | succ m ih =>
          intro hm
          show smN _ m + (if m = j then f m + x else f m) = smN f m + f m
          rw [ih (by omega), if_neg (by omega)]
      show smN _ n + (if n = j then f n + x else f n) ≤ smN f n + f n + x
      rw [z n (Nat.le_refl _), if_pos e]
      omega
    · have := smN_upd (f := f) (j := j) (x := x) n
      show smN _ n + (if n = j then f n + x else f n) ≤ smN f n + f n + x
      rw [if_neg e]
      omega
theorem smN_24 (w : Nat → Nat) : ∀ n, smN (fun e => w (e / 24)) (24 * n) = 24 * smN w n
  | 0 => rfl
  | n + 1 => by
    have st : ∀ k, k ≤ 24 → smN (fun e => w (e / 24)) (24 * n + k) = smN (fun e => w (e / 24)) (24 * n) + k * w n := by
      intro k
      induction k with
      | zero => intro _; rw [Nat.zero_mul]; rfl
      | succ k ih =>
        intro hk
        have i := ih (by omega)
        show smN (fun e => w (e / 24)) (24 * n + k) + w ((24 * n + k) / 24) = _
        rw [show (24 * n + k) / 24 = n by omega, Nat.succ_mul k (w n), i, Nat.add_assoc]
    rw [show 24 * (n + 1) = 24 * n + 24 by omega, st 24 (Nat.le_refl _), smN_24 w n]
    simp only [smN]
    omega
/-- the ways are numbers, not too many -/
theorem wE_n {go : Nat → Int32} {W : Nat → Int64} {w : Nat → Nat} (hW : ∀ s, W s = lN (w s)) : ∀ e, ∃ v : Nat → Nat, (∀ s, wE go W e s = lN (v s)) ∧ ∀ n, smN v n ≤ smN (fun e => w (e / 24)) e
  | 0 => ⟨fun _ => 0, fun _ => rfl, fun n => by
      induction n with
      | zero => exact Nat.le_refl _
      | succ n ih => simp only [smN] at *; omega⟩
  | e + 1 => by
    obtain ⟨v, v1, v2⟩ := wE_n (go := go) hW e
    have up : ∀ n, smN v n ≤ smN (fun e => w (e / 24)) (e + 1) := fun n => by
      have := v2 n
      show smN v n ≤ smN (fun e => w (e / 24)) e + w (e / 24)
      omega
    by_cases c : W (e / 24) ≤ 0
    · exact ⟨v, fun s => by rw [wE, if_pos c]; exact v1 s, up⟩
    · by_cases d : go e = -1
      · exact ⟨v, fun s => by rw [wE, if_neg c, if_pos d]; exact v1 s, up⟩
      · refine ⟨fun s => if s = (go e).toNatClampNeg then v s + w (e / 24) else v s, fun s => ?_, fun n => ?_⟩
        · rw [wE, if_neg c, if_neg d]
          unfold vp_updL
          show _ = lN (if s = (go e).toNatClampNeg then v s + w (e / 24) else v s)
          by_cases z : s = (go e).toNatClampNeg
          · rw [if_pos z, if_pos z, v1, hW, lN_ad, z]
          · rw [if_neg z, if_neg z]; exact v1 s
        · have := smN_upd (f := v) (j := (go e).toNatClampNeg) (x := w (e / 24)) n
          have := v2 n
          show _ ≤ smN (fun e => w (e / 24)) e + w (e / 24)
          omega
theorem wN_n (go : Nat → Int32) (N : Nat) : ∀ i, ∃ w : Nat → Nat, (∀ s, wN go N i s = lN (w s)) ∧ ∀ n, smN w n ≤ 24 ^ i
  | 0 => ⟨fun s => if s = 0 then 1 else 0, fun s => by
      show (if s = 0 then (1 : Int64) else 0) = lN (if s = 0 then 1 else 0)
      split <;> rfl, fun n => by
      induction n with
      | zero => exact Nat.zero_le _
      | succ n ih =>
        have z : ∀ n, 0 < n → smN (fun s => if s = 0 then 1 else 0) n = 1 := by
          intro n
          induction n with
          | zero => intro h; omega
          | succ n ih =>
            intro _
            show smN _ n + (if n = 0 then 1 else 0) = 1
            by_cases e : n = 0
            · subst e; rfl
            · rw [ih (by omega), if_neg e]
        rw [z (n + 1) (by omega)]
        exact Nat.le_refl _⟩
  | i + 1 => by
    obtain ⟨w, w1, w2⟩ := wN_n go N i
    obtain ⟨v, v1, v2⟩ := wE_n (go := go) w1 (24 * N)
    refine ⟨v, v1, fun n => ?_⟩
    have a := v2 n
    rw [smN_24] at a
    have b := w2 N
    rw [Nat.pow_succ]
    omega
theorem wN_z {go : Nat → Int32} {N i s : Nat} (hi : i ≤ 12) (h : wN go N i s ≤ 0) : wN go N i s = 0 := by
  obtain ⟨w, w1, w2⟩ := wN_n go N i
  have l1 : w s ≤ 24 ^ i := Nat.le_trans smN_ge (w2 (s + 1))
  have l2 : 24 ^ i ≤ 24 ^ 12 := Nat.pow_le_pow_right (by omega) hi
  have l3 : (24 : Nat) ^ 12 < 2 ^ 63 := by decide
  rw [w1] at h ⊢
  have h2 := Int64.le_iff_toInt_le.mp h
  rw [pk_lT (by omega), show (0 : Int64).toInt = 0 from by decide] at h2
  have : w s = 0 := by omega
  rw [this]
  rfl
theorem smL_mul {f : Nat → Int64} {x : Int64} : ∀ n, smL (fun i => x * f i) n = x * smL f n
  | 0 => (Int64.mul_zero).symm
  | n + 1 => by rw [smL, smL, smL_mul n, Int64.mul_add]
theorem smL_grp {f : Nat → Int64} : ∀ n, smL f (24 * n) = smL (fun s => smL (fun l => f (24 * s + l)) 24) n
  | 0 => rfl
  | n + 1 => by
    have st : ∀ k, smL f (24 * n + k) = smL f (24 * n) + smL (fun l => f (24 * n + l)) k := by
      intro k
      induction k with
      | zero => exact (Int64.add_zero _).symm
      | succ k ih =>
        show smL f (24 * n + k) + f (24 * n + k) = smL f (24 * n) + (smL (fun l => f (24 * n + l)) k + f (24 * n + k))
        rw [ih, Int64.add_assoc]
    rw [show 24 * (n + 1) = 24 * n + 24 by omega, st 24, smL_grp n]
    rfl
/-- one letter worked off, weighed behind or before -/
theorem wE_sum {go : Nat → Int32} {W : Nat → Int64} {N : Nat} (hW : ∀ s, W s ≤ 0 → W s = 0) (C : Nat → Int64) (hN : N ≤ 16400) (hg : ∀ e, e < 24 * N → go e = -1 ∨ ∃ j, j < N ∧ go e = nI j) : ∀ e, e ≤ 24 * N → smL (fun s => wE go W e s * C s) N = smL (fun e => if go e = -1 then 0 else W (e / 24) * C (go e).toNatClampNeg) e
  | 0, _ => by
    show smL (fun s => 0 * C s) N = 0
    rw [smL_cg (g := fun _ => 0) N (fun i _ => Int64.zero_mul), smL_0]
  | e + 1, he => by
    have ih := wE_sum hW C hN hg e (by omega)
    show smL (fun s => wE go W (e + 1) s * C s) N = smL _ e + (if go e = -1 then 0 else W (e / 24) * C (go e).toNatClampNeg)
    rw [← ih]
    by_cases c : W (e / 24) ≤ 0
    · have z : (if go e = -1 then (0 : Int64) else W (e / 24) * C (go e).toNatClampNeg) = 0 := by
        split
        · rfl
        · rw [hW _ c, Int64.zero_mul]
      rw [z, Int64.add_zero]
      rw [wE, if_pos c]
    · by_cases d : go e = -1
      · rw [if_pos d, Int64.add_zero, wE, if_neg c, if_pos d]
      · rcases hg e (by omega) with x | ⟨j, hj, x⟩
        · exact absurd x d
        · rw [if_neg d, wE, if_neg c, if_neg d, x, nI_clamp (by omega)]
          have := smL_upd (f := wE go W e) (j := j) (x := W (e / 24)) C rfl N
          rw [if_pos hj] at this
          exact this
section CN
variable {P : kP} {m N : Nat} {h : HS}
theorem LDr.cnt (l : LDr P m h N) {k : Nat} (hk : k ≤ 12) (c : Int64 → Int64) : smL (fun s => wN (hI h (m + 7)) N k s * c (kyL (bfs (kSc P) (24 * N)) s)) N = gWn (kSc P) c k BEG := by
  have hg := l.go
  obtain ⟨l1, l2, l3, l4, l5, l6⟩ := id l
  have step : ∀ n i, i + n = k → smL (fun s => wN (hI h (m + 7)) N i s * gWn (kSc P) c n (kyL (bfs (kSc P) (24 * N)) s)) N = smL (fun s => wN (hI h (m + 7)) N k s * c (kyL (bfs (kSc P) (24 * N)) s)) N := by
    intro n
    induction n with
    | zero => intro i hi; rw [show i = k by omega]; rfl
    | succ n ih =>
      intro i hi
      rw [← ih (i + 1) (by omega)]
      show _ = smL (fun s => wE (hI h (m + 7)) (wN (hI h (m + 7)) N i) (24 * N) s * gWn (kSc P) c n (kyL (bfs (kSc P) (24 * N)) s)) N
      rw [wE_sum (fun s q => wN_z (by omega) q) (fun s => gWn (kSc P) c n (kyL (bfs (kSc P) (24 * N)) s)) l1 hg (24 * N) (Nat.le_refl _), smL_grp]
      refine smL_cg N (fun s hs => ?_)
      show wN (hI h (m + 7)) N i s * gW (kSc P) (gWn (kSc P) c n) (kyL (bfs (kSc P) (24 * N)) s) = _
      unfold gW
      rw [← smL_mul]
      refine smL_cg 24 (fun t ht => ?_)
      obtain ⟨q, q1, q2⟩ := l4 (24 * s + t) (by omega)
      rw [show (24 * s + t) / 24 = s by omega] at q1 ⊢
      rw [show (24 * s + t) % 24 = t by omega] at q2
      rw [kyL_at (k := q.1) (v := q.2) q1]
      rcases q2 with ⟨e1, e2⟩ | ⟨k', j, v, e1, e2, e3⟩
      · rw [e1, if_pos e2]
        exact Int64.mul_zero
      · have jl := (List.getElem?_eq_some_iff.mp e2).1
        rw [e1, e3, if_neg (nI_neg1 (by omega)), nI_clamp (by omega), kyL_at e2]
  rw [← step k 0 (by omega)]
  have key0 : kyL (bfs (kSc P) (24 * N)) 0 = BEG := by
    have e : (bfs (kSc P) 0)[0]? = some (BEG, 0) := rfl
    have st := bfs_stay e (24 * N)
    rw [Nat.zero_add] at st
    exact kyL_at st
  have first : ∀ n, 0 < n → smL (fun s => wN (hI h (m + 7)) N 0 s * gWn (kSc P) c k (kyL (bfs (kSc P) (24 * N)) s)) n = gWn (kSc P) c k BEG := by
    intro n
    induction n with
    | zero => intro q; omega
    | succ n ih =>
      intro _
      show smL _ n + (if n = 0 then (1 : Int64) else 0) * gWn (kSc P) c k (kyL (bfs (kSc P) (24 * N)) n) = _
      by_cases e : n = 0
      · subst e
        rw [if_pos rfl, Int64.one_mul, key0]
        exact Int64.zero_add _
      · rw [if_neg e, Int64.zero_mul, Int64.add_zero]
        exact ih (by omega)
  exact first N l2
end CN
