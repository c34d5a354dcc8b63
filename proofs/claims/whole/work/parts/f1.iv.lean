/-! Two pictures of one heap: the class's cells, the reference's; calls of either -/
abbrev lD : Type := va_G × (Nat → ClassId) × Nat
/-- the cells that a call of the class may change -/
def lA (sz m q : Nat) : Prop := sz ≤ q ∧ ¬ (m ≤ q ∧ q ≤ m + 27)
/-- the cells that a call of the reference may change -/
def lB (m : Nat) (H : Heap) (q : Nat) : Prop := (m ≤ q ∧ q ≤ m + 26) ∨ H.size ≤ q
def lw (D : lD) (S : State) (H : Heap) (A : Nat → Prop) : gD := (D.1, D.2.1, ({ S with heap := H }, A), D.2.2)
/-- what is given at the start -/
def lS0 (D : lD) (S : State) : Prop := gK (lw D S S.heap (fun q => S.heap.size ≤ q)) S ∧ gSI (lw D S S.heap (fun q => S.heap.size ≤ q))
theorem lK_at {D : lD} {S : State} (b : lS0 D S) {H : Heap} {A : Nat → Prop} (hA : ∀ q, A q → S.heap.size ≤ q) (hH : ∀ q, q < S.heap.size → H[q]? = S.heap[q]?) : gK (lw D S H A) S ∧ gSI (lw D S H A) := by
  obtain ⟨⟨k1, k2, k3, k4, k5, k6, ⟨aK, aV, k7, k8, k9, kA⟩⟩, ⟨aK', aV', i1, i2, i3, i4⟩, i5⟩ := b
  have hk : ∀ a : Nat, a < S.heap.size → ¬ S.heap.size ≤ a → H[a]? = S.heap[a]? := fun a h _ => hH a h
  refine ⟨⟨k1, (k2.kept hk).narrow hA, k3, k4, k5, k6, aK, aV, k7, k8, (k9.kept hk).narrow hA, (kA.kept hk).narrow hA⟩, ⟨aK', aV', i1, i2, (i3.kept hk).narrow hA, (i4.kept hk).narrow hA⟩, (i5.kept hk).narrow hA⟩
/-- the size of a picture, another -/
def hTt (h : HS) (n : Nat) : HS := (h.1, h.2.1, h.2.2.1, h.2.2.2.1, h.2.2.2.2.1, n)
theorem hT_hTt (h : HS) (n : Nat) : hT (hTt h n) = n := rfl
theorem gE_hTt (cA : Nat → ClassId) (h : HS) (n a : Nat) : gE cA (hTt h n) a = gE cA h a := rfl
theorem hTt_hTt (h : HS) (n k : Nat) : hTt (hTt h n) k = hTt h k := rfl
/-- a picture of some cells of a heap -/
def lP (D : lD) (S : State) (A : Nat → Prop) (X : HS → Prop) (H : Heap) : Prop := ∃ h, gR (lw D S H A) h H ∧ X h
/-- the law's own long row -/
def lO (m : Nat) (H : Heap) (q : Nat) : Prop := q = m + 27 ∨ H.size ≤ q
def oX (m : Nat) (ov : Int64) (h : HS) : Prop := hK h (m + 27) = 13 ∧ hN h (m + 27) = 1 ∧ hL h (m + 27) 0 = ov
/-- three pictures of a heap: the class's cells, the reference's, the law's long row -/
def lIV (D : lD) (S : State) (m : Nat) (X Y : HS → Prop) (ov : Int64) (H : Heap) : Prop := lP D S (lA S.heap.size m) X H ∧ lP D S (lB m H) Y H ∧ lP D S (lO m H) (oX m ov) H ∧ (∀ q, q < S.heap.size → H[q]? = S.heap[q]?) ∧ m + 27 < H.size ∧ S.heap.size ≤ m
theorem lIV.to {D : lD} {S : State} {m : Nat} {X Y X' Y' : HS → Prop} {ov : Int64} {H : Heap} (v : lIV D S m X Y ov H) (hX : ∀ h, X h → X' h) (hY : ∀ h, Y h → Y' h) : lIV D S m X' Y' ov H := by
  obtain ⟨⟨h, h1, h2⟩, ⟨g, g1, g2⟩, r⟩ := v
  exact ⟨⟨h, h1, hX h h2⟩, ⟨g, g1, hY g g2⟩, r⟩
theorem lB_A {sz m q : Nat} {H : Heap} (h1 : sz ≤ m) (h2 : m + 27 < H.size) (h : lB m H q) : sz ≤ q := by
  unfold lB at h
  omega
theorem lO_A {sz m q : Nat} {H : Heap} (h1 : sz ≤ m) (h2 : m + 27 < H.size) (h : lO m H q) : sz ≤ q := by
  unfold lO at h
  omega
theorem gR.re {D : lD} {S : State} {A : Nat → Prop} {H H1 : Heap} {h : HS} (r : gR (lw D S H A) h H1) : gR (lw D S H1 A) h H1 := ⟨r.1, r.2.1, fun _ _ => rfl, r.2.2.2⟩
/-- a picture of cells that stay -/
theorem lP.mv {D : lD} {S : State} {A A1 : Nat → Prop} {X : HS → Prop} {H H1 : Heap} (g : lP D S A X H) (hX : ∀ h, hT h = H.size → X h → X (hTt h H1.size)) (hA1 : ∀ q, H1.size ≤ q → A1 q) (hin : ∀ q, A q → q < H.size → A1 q ∧ H1[q]? = H[q]?) : lP D S A1 X H1 := by
  obtain ⟨h, r, x⟩ := g
  refine ⟨hTt h H1.size, ⟨rfl, hA1, fun _ _ => rfl, fun a ha => ?_⟩, hX h r.1.symm x⟩
  obtain ⟨b1, b2⟩ := r.2.2.2 a ha
  have l : a < H.size := b2.lt
  obtain ⟨i1, i2⟩ := hin a b1 l
  exact ⟨i1, va_at.kept (H := H) b2 i2⟩
/-- behind a call of the class -/
theorem lIV.x {D : lD} {S : State} {m : Nat} {X Y X' : HS → Prop} {ov : Int64} {H H1 : Heap} (v : lIV D S m X Y ov H) (hY : ∀ h n, Y h → Y (hTt h n)) {h' : HS} (r : gR (lw D S H (lA S.heap.size m)) h' H1) (x : X' h') (hz : H.size ≤ H1.size) : lIV D S m X' Y ov H1 := by
  obtain ⟨-, y, t, o, z1, z2⟩ := v
  have un : ∀ q, ¬ lA S.heap.size m q → H1[q]? = H[q]? := r.2.2.1
  refine ⟨⟨h', r.re, x⟩, y.mv (fun h _ q => hY h _ q) (fun q hq => Or.inr hq) (fun q hq l => ?_), t.mv (fun h _ q => q) (fun q hq => Or.inr hq) (fun q hq l => ?_), fun q hq => (un q (fun h => by have := h.1; omega)).trans (o q hq), by omega, z2⟩
  · rcases hq with hq | hq
    · exact ⟨Or.inl hq, un q (fun h => h.2 ⟨hq.1, by omega⟩)⟩
    · omega
  · rcases hq with hq | hq
    · exact ⟨Or.inl hq, un q (fun h => h.2 ⟨by omega, by omega⟩)⟩
    · omega
theorem hTt_self {h : HS} {n : Nat} (e : hT h = n) : hTt h n = h := by
  subst e
  rfl
/-- behind a call of the reference -/
theorem lIV.m {D : lD} {S : State} {m : Nat} {X Y Y' : HS → Prop} {ov : Int64} {H H1 : Heap} (v : lIV D S m X Y ov H) {h' : HS} (r : gR (lw D S H (lB m H)) h' H1) (y : Y' h') (hz : H1.size = H.size) : lIV D S m X Y' ov H1 := by
  obtain ⟨g, -, t, o, z1, z2⟩ := v
  have un : ∀ q, ¬ lB m H q → H1[q]? = H[q]? := r.2.2.1
  have eB : lB m H1 = lB m H := by
    funext q
    unfold lB
    rw [hz]
  refine ⟨g.mv (fun h e q => by rw [hTt_self (e.trans hz.symm)]; exact q) (fun q hq => ⟨by omega, by omega⟩) (fun q hq l => ⟨hq, un q (fun h => ?_)⟩), ⟨h', by rw [eB]; exact r.re, y⟩, t.mv (fun h _ q => q) (fun q hq => Or.inr hq) (fun q hq l => ?_), fun q hq => (un q (fun h => ?_)).trans (o q hq), by omega, z2⟩
  · have b3 := hq.2
    unfold lB at h
    omega
  · rcases hq with hq | hq
    · exact ⟨Or.inl hq, un q (fun h => by unfold lB at h; omega)⟩
    · omega
  · unfold lB at h
    omega
/-- behind a store into the law's row -/
theorem lIV.o {D : lD} {S : State} {m : Nat} {X Y : HS → Prop} {ov ov' : Int64} {H H1 : Heap} (v : lIV D S m X Y ov H) (t : lP D S (lO m H1) (oX m ov') H1) (hz : H1.size = H.size) (un : ∀ q, q ≠ m + 27 → H1[q]? = H[q]?) : lIV D S m X Y ov' H1 := by
  obtain ⟨g, y, -, o, z1, z2⟩ := v
  refine ⟨g.mv (fun h e q => by rw [hTt_self (e.trans hz.symm)]; exact q) (fun q hq => ⟨by omega, by omega⟩) (fun q hq l => ⟨hq, un q (fun h => ?_)⟩), y.mv (fun h e q => by rw [hTt_self (e.trans hz.symm)]; exact q) (fun q hq => Or.inr hq) (fun q hq l => ?_), t, fun q hq => (un q (fun h => by omega)).trans (o q hq), by omega, z2⟩
  · have b3 := hq.2
    omega
  · rcases hq with hq | hq
    · exact ⟨Or.inl hq, un q (fun h => by omega)⟩
    · omega
/-- what is known in the law -/
def lC (z : gZ) (D : lD) (cc : ByteArray) (n : Nat) (ret : Option FieldType) : Prop :=
  z.1.tables.exec = Jvm.exec ∧ (zC z).code = cc ∧ (zC z).maxLocals = n ∧ (zS z).vm.findClass RL = some (zM z).cls ∧ (∀ x ∈ gtb, x.before (zA z) (zS z) = true) ∧ lS0 D (zS z) ∧ (zE z).sig.returnType = ret ∧ (zE z).locks = false ∧ zR z = room_1 ∧ z.2.1.flags = flags0
theorem lC.l {z : gZ} {D : lD} {cc : ByteArray} {n : Nat} {ret : Option FieldType} (C : lC z D cc n ret) : lwC z cc := ⟨C.1, C.2.1, trivial⟩
/-- the law's method, under its own name -/
def lY (z : gZ) : MethodName := ⟨RL, (zE z).name, ""⟩
theorem lC.g {z : gZ} {D : lD} {cc : ByteArray} {n : Nat} {ret : Option FieldType} (C : lC z D cc n ret) {H : Heap} {A : Nat → Prop} (hA : ∀ q, A q → (zS z).heap.size ≤ q) (hH : ∀ q, q < (zS z).heap.size → H[q]? = (zS z).heap[q]?) : GC z (lw D (zS z) H A) 1300 601024 7293034 (lY z) cc n ret ∧ gSI (lw D (zS z) H A) := by
  obtain ⟨c1, c2, c3, c4, c5, c6, c7, c8, c9, -⟩ := C
  have k := lK_at c6 hA hH
  refine ⟨⟨c1, c2, c3, c4, c5, k.1, c7, c8, rfl, ?_, ?_, ?_, ?_⟩, k.2⟩
  · rw [c9]; exact Nat.le_of_ble_eq_true rfl
  · rw [c9]; exact Nat.le_of_ble_eq_true rfl
  · rw [c9]; rfl
  · rw [c9]; rfl
section LV
variable {z : gZ} {D : lD} {cc : ByteArray} {n : Nat} {ret : Option FieldType} {Q : State → Prop} {cn sn pc : Nat} {lv : List (Nat × Value)} {rest : List Value} {H : Heap} {m x : Nat} {X Y : HS → Prop} {ov : Int64}
/-- the law calls the class -/
theorem l_X (C : lC z D cc n ret) (v : lIV D (zS z) m X Y ov H) (hXk : ∀ h, X h → hK h x = 10) (hY : ∀ h k, Y h → Y (hTt h k)) {dd mc ms index maxL k : Nat} {yy : MethodName} {bytes : ByteArray} {rt : Option FieldType} {P : Option Value → HS → Prop} (As : List Value) (hm : gMi yy bytes maxL rt k) (hl : Cond.methodLink RL index yy ∈ gtb) (hcx : RX9 = yy.cls) (hE : ∀ w h, gSI w → X h → Ev w dd mc ms yy bytes maxL rt (.ref x :: As) h P) (hdd : dd + 1 ≤ 1300) (hmax : maxL ≤ 45) (h1 : cn + mc ≤ 601024) (h2 : sn + ms ≤ 7293034) (hlen : As.length = k) {st : List Value} (hst : st = As.reverse ++ .ref x :: rest) (hrm : (rest.map fun v => v.category).sum ≤ 8) (hd : decode cc pc = .ok (.invokevirtual index, 3))
    (kk : ∀ r H1, lIV D (zS z) m (P r) Y ov H1 → LW z n (fun q => (zS z).heap.size ≤ q) Q (cn + mc) (sn + ms) (pc + 3) lv (r.toList ++ rest) H1) : LW z n (fun q => (zS z).heap.size ≤ q) Q cn sn pc lv st H := by
  obtain ⟨⟨h, g1, g2⟩, -, -, o, z1, z2⟩ := id v
  obtain ⟨G, si⟩ := C.g (H := H) (A := lA (zS z).heap.size m) (fun q hq => hq.1) o
  refine l_V G g1 (ci := 9) As hm hl (hXk h g2) rfl hcx (hE _ h si g2) C.2.2.2.2.2.2.2.2.2 hdd hmax h1 h2 hlen hst hrm hd (fun q hq => hq.1) (fun r h' H1 hp r1 s1 s2 => kk r H1 (v.x hY r1 hp s1))
/-- the law calls the reference -/
theorem l_M (C : lC z D cc n ret) (v : lIV D (zS z) m X Y ov H) (hYk : ∀ h, Y h → hK h m = 11) {dd index maxL k : Nat} {yy : MethodName} {bytes : ByteArray} {rt : Option FieldType} {P : Option Value → HS → Prop} (As : List Value) (hm : gMi yy bytes maxL rt k) (hl : Cond.methodLink RL index yy ∈ gtb) (hcx : RX10 = yy.cls) (hE : ∀ w h, gSI w → Y h → Ev w dd 0 0 yy bytes maxL rt (.ref m :: As) h P) (hdd : dd + 1 ≤ 1300) (hmax : maxL ≤ 45) (h1 : cn ≤ 601024) (h2 : sn ≤ 7293034) (hlen : As.length = k) {st : List Value} (hst : st = As.reverse ++ .ref m :: rest) (hrm : (rest.map fun v => v.category).sum ≤ 8) (hd : decode cc pc = .ok (.invokevirtual index, 3))
    (kk : ∀ r H1, lIV D (zS z) m X (P r) ov H1 → LW z n (fun q => (zS z).heap.size ≤ q) Q cn sn (pc + 3) lv (r.toList ++ rest) H1) : LW z n (fun q => (zS z).heap.size ≤ q) Q cn sn pc lv st H := by
  obtain ⟨-, ⟨h, g1, g2⟩, -, o, z1, z2⟩ := id v
  obtain ⟨G, si⟩ := C.g (H := H) (A := lB m H) (fun q hq => lB_A z2 z1 hq) o
  refine l_V (mc := 0) (ms := 0) G g1 (ci := 10) As hm hl (hYk h g2) rfl hcx (hE _ h si g2) C.2.2.2.2.2.2.2.2.2 hdd hmax h1 h2 hlen hst hrm hd (fun q hq => lB_A z2 z1 hq) (fun r h' H1 hp r1 s1 s2 => kk r H1 (v.m r1 hp (by omega)))
end LV
theorem MV.t {m : Nat} {h : HS} {V : aV} {M : aM} (v : MV m h V M) (k : Nat) : MV m (hTt h k) V M := v
theorem MV.k {m : Nat} {h : HS} {V : aV} {M : aM} (v : MV m h V M) : hK h m = 11 := by
  obtain ⟨fw, ⟨v1, -⟩, -⟩ := v
  exact v1.1.1
theorem KV.k {x : Nat} {h : HS} {V : aV} {M : aM} (v : KV x h V M) : hK h x = 10 := by
  obtain ⟨W, RC, K, -⟩ := v
  exact K.1.1
theorem KV.ok {x : Nat} {h : HS} {V : aV} {M : aM} (v : KV x h V M) : vOK V := by
  obtain ⟨W, RC, K, -⟩ := v
  exact K.2.1
theorem KV.m5 {x : Nat} {h : HS} {V : aV} {M : aM} (v : KV x h V M) : M.1.1 ≤ 500 := by
  obtain ⟨W, RC, -, k⟩ := v
  exact k.1.2.1
theorem MV.wk {m : Nat} {h : HS} {V : aV} {M : aM} (v : MV m h V M) : vWk V M := by
  obtain ⟨fw, -, -, -, -, -, -, -, -, k⟩ := v
  exact k
theorem KV.tt {x : Nat} {h : HS} {V : aV} {M : aM} (v : KV x h V M) {k : Nat} (hk : hT h ≤ k) : KV x (hTt h k) V M := by
  obtain ⟨W, RC, K, m⟩ := v
  have e : hExt h (hTt h k) := ⟨hk, fun _ _ => ⟨rfl, rfl, rfl, rfl, rfl⟩⟩
  exact ⟨W, RC, K.ext e, m.ext K.1 e⟩
