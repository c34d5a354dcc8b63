/-! The machine over ONE picture of the heap: ints, longs, references by address and place; kind (0 none; 1 to 11 an object of class number kind - 1; 12 int[], 13 long[], 14 byte[], 15 boolean[], 16 Piece[]) and length by address; the next address. -/
abbrev HS : Type := (Nat → Nat → Int32) × (Nat → Nat → Int64) × (Nat → Nat → Option Nat) × (Nat → Nat) × (Nat → Nat) × Nat
def hI (h : HS) (a k : Nat) : Int32 := h.1 a k
def hL (h : HS) (a k : Nat) : Int64 := h.2.1 a k
def hR (h : HS) (a k : Nat) : Option Nat := h.2.2.1 a k
def hK (h : HS) (a : Nat) : Nat := h.2.2.2.1 a
def hN (h : HS) (a : Nat) : Nat := h.2.2.2.2.1 a
def hT (h : HS) : Nat := h.2.2.2.2.2
def sI (h : HS) (a k : Nat) (v : Int32) : HS := (fun b j => if b = a ∧ j = k then v else h.1 b j, h.2)
def sL (h : HS) (a k : Nat) (v : Int64) : HS := (h.1, fun b j => if b = a ∧ j = k then v else h.2.1 b j, h.2.2)
def sR (h : HS) (a k : Nat) (v : Option Nat) : HS := (h.1, h.2.1, fun b j => if b = a ∧ j = k then v else h.2.2.1 b j, h.2.2.2)
/-- a new cell at the next address: kind k, length n, all its places 0 -/
def sN (h : HS) (k n : Nat) : HS := (fun b j => if b = hT h then 0 else h.1 b j, fun b j => if b = hT h then 0 else h.2.1 b j, fun b j => if b = hT h then none else h.2.2.1 b j, fun b => if b = hT h then k else h.2.2.2.1 b, fun b => if b = hT h then n else h.2.2.2.2.1 b, hT h + 1)
theorem hI_sI (h : HS) (a k : Nat) (v : Int32) (b j : Nat) : hI (sI h a k v) b j = if b = a ∧ j = k then v else hI h b j := rfl
theorem hL_sL (h : HS) (a k : Nat) (v : Int64) (b j : Nat) : hL (sL h a k v) b j = if b = a ∧ j = k then v else hL h b j := rfl
theorem hR_sR (h : HS) (a k : Nat) (v : Option Nat) (b j : Nat) : hR (sR h a k v) b j = if b = a ∧ j = k then v else hR h b j := rfl
theorem hI_sL (h : HS) (a k : Nat) (v : Int64) : hI (sL h a k v) = hI h := rfl
theorem hI_sR (h : HS) (a k : Nat) (v : Option Nat) : hI (sR h a k v) = hI h := rfl
theorem hL_sI (h : HS) (a k : Nat) (v : Int32) : hL (sI h a k v) = hL h := rfl
theorem hL_sR (h : HS) (a k : Nat) (v : Option Nat) : hL (sR h a k v) = hL h := rfl
theorem hR_sI (h : HS) (a k : Nat) (v : Int32) : hR (sI h a k v) = hR h := rfl
theorem hR_sL (h : HS) (a k : Nat) (v : Int64) : hR (sL h a k v) = hR h := rfl
theorem hK_sI (h : HS) (a k : Nat) (v : Int32) : hK (sI h a k v) = hK h := rfl
theorem hK_sL (h : HS) (a k : Nat) (v : Int64) : hK (sL h a k v) = hK h := rfl
theorem hK_sR (h : HS) (a k : Nat) (v : Option Nat) : hK (sR h a k v) = hK h := rfl
theorem hN_sI (h : HS) (a k : Nat) (v : Int32) : hN (sI h a k v) = hN h := rfl
theorem hN_sL (h : HS) (a k : Nat) (v : Int64) : hN (sL h a k v) = hN h := rfl
theorem hN_sR (h : HS) (a k : Nat) (v : Option Nat) : hN (sR h a k v) = hN h := rfl
theorem hT_sI (h : HS) (a k : Nat) (v : Int32) : hT (sI h a k v) = hT h := rfl
theorem hT_sL (h : HS) (a k : Nat) (v : Int64) : hT (sL h a k v) = hT h := rfl
theorem hT_sR (h : HS) (a k : Nat) (v : Option Nat) : hT (sR h a k v) = hT h := rfl
theorem hT_sN (h : HS) (k n : Nat) : hT (sN h k n) = hT h + 1 := rfl
theorem hK_sN (h : HS) (k n b : Nat) : hK (sN h k n) b = if b = hT h then k else hK h b := rfl
theorem hN_sN (h : HS) (k n b : Nat) : hN (sN h k n) b = if b = hT h then n else hN h b := rfl
theorem hI_sN (h : HS) (k n b j : Nat) : hI (sN h k n) b j = if b = hT h then 0 else hI h b j := rfl
theorem hL_sN (h : HS) (k n b j : Nat) : hL (sN h k n) b j = if b = hT h then 0 else hL h b j := rfl
theorem hR_sN (h : HS) (k n b j : Nat) : hR (sN h k n) b j = if b = hT h then none else hR h b j := rfl
/-- the kinds of a class's fields: 0 int, 1 long, 2 reference -/
def gTag : Nat → List Nat
  | 0 => [0, 2, 2, 2, 2]
  | 1 => [2, 0]
  | 2 => [0, 0, 0, 2, 2, 2, 2]
  | 3 => [2, 0, 0, 2, 2, 0]
  | 4 => [2, 2, 2]
  | 5 => [0, 0, 2, 0, 2, 2, 2, 0, 0, 0, 0, 0, 0, 0, 0, 2, 2, 2, 2, 2]
  | 6 => [0, 2, 2, 2, 2, 2, 0, 0, 2, 2, 2, 2, 2, 2]
  | 7 => [0, 0, 0, 0, 0, 2, 2, 2]
  | 8 => [0, 0, 0, 0, 0, 2, 2, 2, 2, 2]
  | 9 => [2, 2, 0, 0, 0, 0, 2, 2, 2, 2, 2, 2, 0, 0, 0]
  | 10 => [2, 0, 0, 0, 0, 0, 0, 0, 2, 2, 0, 0, 0, 0, 0, 0, 0, 0, 0, 0, 0, 0, 0, 0, 0, 0, 0, 1, 2, 0, 0, 0, 0, 2, 2, 2, 2, 2, 2, 2, 2, 2, 0, 2, 2, 2, 2, 2, 2, 2, 2, 2, 2, 2, 0, 2, 2, 0]
  | _ => []
def gVal (h : HS) (a k t : Nat) : Value := if t = 0 then .int (hI h a k) else if t = 1 then .long (hL h a k) else va_rf (hR h a k)
def gFl (h : HS) (a c : Nat) : List Value := (gTag c).mapIdx (fun k t => gVal h a k t)
def gE (cA : Nat → ClassId) (h : HS) (a : Nat) : va_E :=
  if hK h a = 12 then .inl (cA 0, hN h a, .inl (hI h a))
  else if hK h a = 13 then .inl (cA 1, hN h a, .inr (.inl (hL h a)))
  else if hK h a = 14 then .inl (cA 2, hN h a, .inl (hI h a))
  else if hK h a = 15 then .inl (cA 3, hN h a, .inl (hI h a))
  else if hK h a = 16 then .inl (cA 4, hN h a, .inr (.inr (.inr (.inr (hR h a)))))
  else .inr (hK h a - 1, gFl h a (hK h a - 1))
/-- the world's fixed things: the classes' numbers and slots, the array classes, the state in which the law began, where NO_PLACES lies -/
abbrev gD : Type := va_G × (Nat → ClassId) × (State × (Nat → Prop)) × Nat
abbrev wA (w : gD) : Nat → Prop := w.2.2.1.2
def gR (w : gD) (h : HS) (H : Heap) : Prop := H.size = hT h ∧ (∀ q : Nat, hT h ≤ q → wA w q) ∧ (∀ q : Nat, ¬ wA w q → H[q]? = w.2.2.1.1.heap[q]?) ∧ ∀ a : Nat, hK h a ≠ 0 → wA w a ∧ va_at w.1 vwCl (a, gE w.2.1 h a) H
abbrev gTy (w : gD) : List (ClassId × FieldType) := [(w.2.1 0, .int), (w.2.1 1, .long), (w.2.1 2, .byte), (w.2.1 3, .boolean), (w.2.1 4, .object RX2)]
def gNm : List (String × Nat × MethodName × String) := [(RX9, 15, yX7_init, RX9), (RX9, 35, yX8_init, RX9), (RX9, 42, yX0_init, RX9), (RX9, 49, yX5_init, RX9), (RX5, 27, yX4_init, RX9), (RX9, 56, yX6_init, RX9), (RX9, 63, yX1_init, RX9), (RX3, 11, yX8_init, RX9)]
/-- the two String constants of the reference: their bytes -/
def gByt : List (List Int32) := [[116, 101, 115, 116, 115, 32, 97, 99, 116, 115, 32, 108, 101, 116, 32, 122, 101, 114, 111, 32, 105, 102, 32, 116, 104, 101, 110, 32, 101, 108, 115, 101, 32, 119, 104, 105, 108, 101, 32, 100, 111, 32, 101, 110, 100, 32], [48, 49, 43, 42, 33, 40, 41, 61, 59]]
def gS (w : gD) (U : State) : Prop := ∃ adK adV : Nat → Nat, vk_R RX10 200 "tests acts let zero if then else while do end " (adK 0) U ∧ vk_R RX10 190 "01+*!()=;" (adK 1) U ∧ vk_S 2 [46, 9] gByt adK adV (fun q => wA w q) U w.2.2.1.1.heap ∧ va_Z RJ0 "COMPACT_STRINGS" "Z" (.int 1) (fun q => wA w q) U w.2.2.1.1.heap
def gK (w : gD) (U : State) : Prop := va_K w.1 vwCl (gTy w) U ∧ va_Z RX9 "NO_PLACES" "[I" (.ref w.2.2.2) (fun q => wA w q) U w.2.2.1.1.heap ∧ va_AO RX2 U ∧ (∀ x ∈ gNm, va_Nw (.methodLinkNest x.1 x.2.1 x.2.2.1 x.2.2.2) U) ∧ va_Nw (.fieldLinkNest RX2 19 RX9 "NO_PLACES" "[I" RX9) U ∧ w.2.2.1.1.WarmedH U.vm ∧ gS w U
theorem gS.warm {w : gD} {s U : State} (hW : s.WarmedH U.vm) (h : gS w s) : gS w U := by
  obtain ⟨aK, aV, h1, h2, h3, h4⟩ := h
  exact ⟨aK, aV, h1.warm hW, h2.warm hW, h3.moved hW.alike, h4.moved hW.alike⟩
theorem gS.same {w : gD} {s U : State} (hv : s.vm = U.vm) (h : gS w s) : gS w U := by
  obtain ⟨aK, aV, h1, h2, h3, h4⟩ := h
  have ha : s.vm.Alike U.vm := hv ▸ Vm.Alike.refl s.vm
  exact ⟨aK, aV, h1.same hv.symm, h2.same hv.symm, h3.moved ha, h4.moved ha⟩
theorem gK.warm {w : gD} {s U : State} (hW : s.WarmedH U.vm) (h : gK w s) : gK w U := by
  obtain ⟨h1, h2, h3, h4, h5, h6, h7⟩ := h
  exact ⟨h1.moved hW.alike, h2.moved hW.alike, h3.moved hW.alike, fun x hx => va_Nw.warmM hW (h4 x hx), va_Nw.warmF hW h5, State.WarmedH.trans h6 hW, h7.warm hW⟩
theorem gK.same {w : gD} {s U : State} (hv : s.vm = U.vm) (h : gK w s) : gK w U := by
  obtain ⟨h1, h2, h3, h4, h5, h6, h7⟩ := h
  have ha : s.vm.Alike U.vm := hv ▸ Vm.Alike.refl s.vm
  exact ⟨h1.moved ha, h2.moved ha, h3.moved ha, fun x hx => va_Nw.same rfl hv (h4 x hx), va_Nw.same rfl hv h5, hv ▸ h6, h7.same hv⟩
/-- a run's fixed things: program, launch, environment, room, the state at the method's start, the method, its arguments, the frames below, method and code -/
abbrev gZ : Type := Program × Launch × Env × Room × State × MethodId × Array Value × List Frame × Method × Code
abbrev zS (z : gZ) : State := z.2.2.2.2.1
abbrev zR (z : gZ) : Room := z.2.2.2.1
abbrev zM (z : gZ) : MethodId := z.2.2.2.2.2.1
abbrev zA (z : gZ) : Array Value := z.2.2.2.2.2.2.1
abbrev zB (z : gZ) : List Frame := z.2.2.2.2.2.2.2.1
abbrev zE (z : gZ) : Method := z.2.2.2.2.2.2.2.2.1
abbrev zC (z : gZ) : Code := z.2.2.2.2.2.2.2.2.2
/-- the machine at pc with locals lv, stack st and a heap that h pictures comes to Q; cn cells, sn slots were made so far -/
def GW (z : gZ) (w : gD) (n : Nat) (Q : State → Prop) (cn sn pc : Nat) (lv : List (Nat × Value)) (st : List Value) (h : HS) : Prop :=
  ∀ (H : Heap) (locs : List Loc) (ls : Array Slot), gR w h H → (∀ x ∈ locs, wA w x.base) → lv_has ls n lv → W z.1 z.2.1 z.2.2.1 (zR z) (zS z) (zM z) (zA z) (zB z) (zE z) (zC z) H locs cn sn Q (F0 (zM z) pc ls st)
/-- what is known in a method y of code cc: the machine, its code, the tables, the world's fixed things, its room -/
def GC (z : gZ) (w : gD) (d MC MS : Nat) (y : MethodName) (cc : ByteArray) (n : Nat) (ret : Option FieldType) : Prop :=
  z.1.tables.exec = Jvm.exec ∧ (zC z).code = cc ∧ (zC z).maxLocals = n ∧ (zS z).vm.findClass y.cls = some (zM z).cls ∧ (∀ x ∈ gtb, x.before (zA z) (zS z) = true) ∧ gK w (zS z) ∧ (zE z).sig.returnType = ret ∧ (zE z).locks = false ∧ (zE z).name = y.name ∧ d ≤ (zR z).frames ∧ 64 * d ≤ (zR z).locals ∧ (zR z).cells = MC ∧ (zR z).slots = MS
/-- a method's CONTRACT: from every state whose heap h pictures it returns r with a heap that h' pictures, P r h' -/
def Ev (w : gD) (d mc ms : Nat) (y : MethodName) (cc : ByteArray) (n : Nat) (ret : Option FieldType) (as : List Value) (h : HS) (P : Option Value → HS → Prop) : Prop :=
  ∀ l : Launch, l.flags = flags0 → Met l y (.code y cc n ret :: gtb) { frames := d, cells := mc, slots := ms, locals := 64 * d } (va_Pc as (fun U => gR w h U.heap ∧ gK w U)) (fun _ _ oc t => ∃ r h', oc = .returned r ∧ gR w h' t.heap ∧ P r h') mc ms (fun q => wA w q)
def gQ (z : gZ) (w : gD) (mc ms : Nat) (P : Option Value → HS → Prop) : State → Prop := MQ (zB z) (fun _ _ oc t => ∃ r h', oc = .returned r ∧ gR w h' t.heap ∧ P r h') (zA z) (zS z) mc ms (fun q => wA w q)
theorem g_start {w : gD} {d mc ms : Nat} {y : MethodName} {cc : ByteArray} {n : Nat} {ret : Option FieldType} {as : List Value} {h : HS} {P : Option Value → HS → Prop} (hy : plainName y.cls = true) (hn : (lg_sl as).length ≤ n) (lv : List (Nat × Value)) (hlv : lv_args 0 as = lv)
    (body : ∀ z : gZ, z.2.1.flags = flags0 → GC z w d mc ms y cc n ret → GW z w n (gQ z w mc ms P) 0 0 0 lv [] h) : Ev w d mc ms y cc n ret as h P := by
  intro l hfl
  refine Met.ofW (cc := cc) (maxL := n) (ret := ret) hy rfl ?_
  intro p e s m args below meth c s₁ B hml hv
  obtain ⟨rfl, hR0, hK0⟩ := hv
  have hts := atoms_spec (ws := .code y cc n ret :: gtb) B.pre
  have hb := body (p, l, e, (headSpec (.code y cc n ret :: gtb) { frames := d, cells := mc, slots := ms, locals := 64 * d }).room, s, m, as.toArray, below, meth, c) hfl
    ⟨B.exec, B.bytes, hml, findClass_of_methodNamed B.named, fun x hx => hts x (List.mem_cons_of_mem _ hx), hK0, B.returns, B.notSynchronized, (name_of_methodNamed B.named B.method).1, Nat.le_refl _, Nat.le_refl _, rfl, rfl⟩
  subst hlv
  rw [lg_entry_eq]
  exact hb s.heap [] _ hR0 (fun x hx => by cases hx) (lv_entry as hn)
/-- fewer locals, more room used -/
theorem GW.sub {z : gZ} {w : gD} {n : Nat} {Q : State → Prop} {cn sn cn' sn' pc : Nat} {lv lv' : List (Nat × Value)} {st : List Value} {h : HS} (ks : List Nat) (hv : lv_pick lv ks = lv') (h1 : cn ≤ cn') (h2 : sn ≤ sn') (k : GW z w n Q cn' sn' pc lv' st h) : GW z w n Q cn sn pc lv st h :=
  fun H locs ls hR hL hl => W.widen h1 h2 (k H locs ls hR hL (lv_sub hl ks hv))
theorem gR.lt {w : gD} {h : HS} {H : Heap} (hR : gR w h H) {a : Nat} (ha : hK h a ≠ 0) : a < hT h := by
  have h1 := (hR.2.2.2 a ha).2.lt
  rw [← hR.1]
  exact h1
theorem gR.set {w : gD} {h h' : HS} {H H1 : Heap} {a : Nat} (hR : gR w h H) (ha : hK h a ≠ 0) (hz : H1.size = H.size) (ho : ∀ q : Nat, q ≠ a → H1[q]? = H[q]?) (ht : hT h' = hT h) (hk : ∀ b, hK h' b = hK h b) (hE : ∀ b, b ≠ a → gE w.2.1 h' b = gE w.2.1 h b) (hat : va_at w.1 vwCl (a, gE w.2.1 h' a) H1) : gR w h' H1 := by
  obtain ⟨r1, r2, r3, r4⟩ := hR
  refine ⟨by rw [hz, r1, ht], by rw [ht]; exact r2, fun q hq => ?_, fun b hb => ?_⟩
  · rw [ho q (fun e => by subst e; exact hq (r4 _ ha).1)]
    exact r3 q hq
  · rw [hk] at hb
    refine ⟨(r4 b hb).1, ?_⟩
    by_cases e : b = a
    · subst e; exact hat
    · rw [hE b e]
      exact (r4 b hb).2.kept (ho b e)
/-- a new cell -/
theorem gR.new {w : gD} {h h' : HS} {H H1 : Heap} (hR : gR w h H) (hz : H1.size = H.size + 1) (ho : ∀ q : Nat, q < H.size → H1[q]? = H[q]?) (ht : hT h' = hT h + 1) (hk : ∀ b, b ≠ hT h → hK h' b = hK h b) (hE : ∀ b, b ≠ hT h → gE w.2.1 h' b = gE w.2.1 h b) (hat : hK h' (hT h) ≠ 0 → va_at w.1 vwCl (hT h, gE w.2.1 h' (hT h)) H1) : gR w h' H1 := by
  obtain ⟨r1, r2, r3, r4⟩ := id hR
  refine ⟨by rw [hz, r1, ht], fun q hq => r2 q (by omega), fun q hq => ?_, fun b hb => ?_⟩
  · rw [ho q (by rw [r1]; exact Nat.not_le.mp (fun e => hq (r2 q e)))]
    exact r3 q hq
  · by_cases e : b = hT h
    · subst e; exact ⟨r2 _ (Nat.le_refl _), hat hb⟩
    · rw [hk b e] at hb
      have hl := hR.lt hb
      refine ⟨(r4 b hb).1, ?_⟩
      rw [hE b e]
      exact (r4 b hb).2.kept (ho b (by omega))
theorem gE_obj {cA : Nat → ClassId} {h : HS} {a ci : Nat} (hk : hK h a = ci + 1) (hc : ci < 11) : gE cA h a = .inr (ci, gFl h a ci) := by
  unfold gE
  rw [hk, if_neg (by omega), if_neg (by omega), if_neg (by omega), if_neg (by omega), if_neg (by omega)]
  rfl
theorem gE_i {cA : Nat → ClassId} {h : HS} {a : Nat} (hk : hK h a = 12) : gE cA h a = .inl (cA 0, hN h a, .inl (hI h a)) := by simp [gE, hk]
theorem gE_l {cA : Nat → ClassId} {h : HS} {a : Nat} (hk : hK h a = 13) : gE cA h a = .inl (cA 1, hN h a, .inr (.inl (hL h a))) := by simp [gE, hk]
theorem gE_b {cA : Nat → ClassId} {h : HS} {a : Nat} (hk : hK h a = 14) : gE cA h a = .inl (cA 2, hN h a, .inl (hI h a)) := by simp [gE, hk]
theorem gE_z {cA : Nat → ClassId} {h : HS} {a : Nat} (hk : hK h a = 15) : gE cA h a = .inl (cA 3, hN h a, .inl (hI h a)) := by simp [gE, hk]
theorem gE_r {cA : Nat → ClassId} {h : HS} {a : Nat} (hk : hK h a = 16) : gE cA h a = .inl (cA 4, hN h a, .inr (.inr (.inr (.inr (hR h a))))) := by simp [gE, hk]
theorem gE_congr {cA : Nat → ClassId} {h h' : HS} {b : Nat} (h1 : hI h' b = hI h b) (h2 : hL h' b = hL h b) (h3 : hR h' b = hR h b) (h4 : hK h' b = hK h b) (h5 : hN h' b = hN h b) : gE cA h' b = gE cA h b := by
  have hf : ∀ c, gFl h' b c = gFl h b c := fun c => by simp only [gFl, gVal, h1, h2, h3]
  simp only [gE, h1, h2, h3, h4, h5, hf]
theorem hI_sI_ne {h : HS} {a k : Nat} {v : Int32} {b : Nat} (hb : b ≠ a) : hI (sI h a k v) b = hI h b := by
  funext j
  rw [hI_sI, if_neg (fun e => hb e.1)]
theorem hL_sL_ne {h : HS} {a k : Nat} {v : Int64} {b : Nat} (hb : b ≠ a) : hL (sL h a k v) b = hL h b := by
  funext j
  rw [hL_sL, if_neg (fun e => hb e.1)]
theorem hR_sR_ne {h : HS} {a k : Nat} {v : Option Nat} {b : Nat} (hb : b ≠ a) : hR (sR h a k v) b = hR h b := by
  funext j
  rw [hR_sR, if_neg (fun e => hb e.1)]
theorem gE_sI {cA : Nat → ClassId} {h : HS} {a k : Nat} {v : Int32} {b : Nat} (hb : b ≠ a) : gE cA (sI h a k v) b = gE cA h b := gE_congr (hI_sI_ne hb) rfl rfl rfl rfl
theorem gE_sL {cA : Nat → ClassId} {h : HS} {a k : Nat} {v : Int64} {b : Nat} (hb : b ≠ a) : gE cA (sL h a k v) b = gE cA h b := gE_congr rfl (hL_sL_ne hb) rfl rfl rfl
theorem gE_sR {cA : Nat → ClassId} {h : HS} {a k : Nat} {v : Option Nat} {b : Nat} (hb : b ≠ a) : gE cA (sR h a k v) b = gE cA h b := gE_congr rfl rfl (hR_sR_ne hb) rfl rfl
theorem gE_sN {cA : Nat → ClassId} {h : HS} {k n : Nat} {b : Nat} (hb : b ≠ hT h) : gE cA (sN h k n) b = gE cA h b := by
  refine gE_congr ?_ ?_ ?_ ?_ ?_ <;> first | (funext j; simp only [hI_sN, hL_sN, hR_sN, if_neg hb]) | simp only [hK_sN, hN_sN, if_neg hb]
theorem gFl_get {h : HS} {a c k t : Nat} (ht : (gTag c)[k]? = some t) : (gFl h a c)[k]? = some (gVal h a k t) := by
  simp [gFl, List.getElem?_mapIdx, ht]
theorem gFl_len {h : HS} {a c : Nat} : (gFl h a c).length = (gTag c).length := by simp [gFl]
/-- what the tables lay down of the own classes -/
theorem gLayOf {ws : List Cond} (ps : List Nat) (h : ws = ps.filterMap (fun i => tables_1[i]?)) (hg : ws.all goodWord = true) : ∀ w ∈ ws, w ∈ gtb := by
  intro w hw
  have h1 := List.all_eq_true.mp hg w hw
  rw [h] at hw
  obtain ⟨i, -, hi⟩ := List.mem_filterMap.mp hw
  exact gin (List.mem_of_getElem? hi) h1
theorem gLayX0 : ∀ w ∈ u_ws RX0 TX0 5, w ∈ gtb := gLayOf [173, 175, 177, 179, 181] (by decide +kernel) (by decide +kernel)
theorem gLayX1 : ∀ w ∈ u_ws RX1 TX1 2, w ∈ gtb := gLayOf [334, 336] (by decide +kernel) (by decide +kernel)
theorem gLayX2 : ∀ w ∈ u_ws RX2 TX2 7, w ∈ gtb := gLayOf [103, 105, 107, 109, 111, 113, 115] (by decide +kernel) (by decide +kernel)
theorem gLayX3 : ∀ w ∈ u_ws RX3 TX3 6, w ∈ gtb := gLayOf [442, 444, 446, 448, 450, 452] (by decide +kernel) (by decide +kernel)
theorem gLayX4 : ∀ w ∈ u_ws RX4 TX4 3, w ∈ gtb := gLayOf [199, 201, 203] (by decide +kernel) (by decide +kernel)
theorem gLayX5 : ∀ w ∈ u_ws RX5 TX5 20, w ∈ gtb := gLayOf [229, 231, 233, 235, 237, 239, 241, 243, 245, 247, 249, 251, 253, 255, 257, 259, 261, 263, 265, 267] (by decide +kernel) (by decide +kernel)
theorem gLayX6 : ∀ w ∈ u_ws RX6 TX6 14, w ∈ gtb := gLayOf [295, 297, 299, 301, 303, 305, 307, 309, 311, 313, 315, 317, 319, 321] (by decide +kernel) (by decide +kernel)
theorem gLayX7 : ∀ w ∈ u_ws RX7 TX7 8, w ∈ gtb := gLayOf [51, 53, 55, 57, 59, 61, 63, 65] (by decide +kernel) (by decide +kernel)
theorem gLayX8 : ∀ w ∈ u_ws RX8 TX8 10, w ∈ gtb := gLayOf [139, 141, 143, 145, 147, 149, 151, 153, 155, 157] (by decide +kernel) (by decide +kernel)
theorem gLayX9 : ∀ w ∈ u_ws RX9 TX9 15, w ∈ gtb := gLayOf [356, 358, 360, 362, 364, 366, 368, 370, 372, 374, 376, 378, 380, 382, 384] (by decide +kernel) (by decide +kernel)
theorem gLayX10 : ∀ w ∈ u_ws RX10 TX10 58, w ∈ gtb := gLayOf [1167, 1169, 1171, 1173, 1175, 1177, 1179, 1181, 1183, 1185, 1187, 1189, 1191, 1193, 1195, 1197, 1199, 1201, 1203, 1205, 1207, 1209, 1211, 1213, 1215, 1217, 1219, 1221, 1223, 1225, 1227, 1229, 1231, 1233, 1235, 1237, 1239, 1241, 1243, 1245, 1247, 1249, 1251, 1253, 1255, 1257, 1259, 1261, 1263, 1265, 1267, 1269, 1271, 1273, 1275, 1277, 1279, 1281] (by decide +kernel) (by decide +kernel)
theorem gcl {ci : Nat} {r : vw_C} (h : vwCl[ci]? = some r) : ci < 11 ∧ (∀ w ∈ u_ws r.1 r.2.1 r.2.2, w ∈ gtb) ∧ (∃ ty : Nat → FieldType, ∀ k, k < r.2.2 → parseFieldDescriptor (r.2.1 k).2.2.1 = some (ty k)) ∧ (∀ a, a < r.2.2 → ∀ b, b < r.2.2 → a ≠ b → (r.2.1 a).2.1 ≠ (r.2.1 b).2.1) ∧ (gTag ci).length = r.2.2 := by
  have hl : ci < 11 := (List.getElem?_eq_some_iff.mp h).1
  refine ⟨hl, ?_⟩
  match ci, hl, h with
  | 0, _, h => cases h; exact ⟨gLayX0, ⟨tyX0, tyX0_ok⟩, nmX0, rfl⟩
  | 1, _, h => cases h; exact ⟨gLayX1, ⟨tyX1, tyX1_ok⟩, nmX1, rfl⟩
  | 2, _, h => cases h; exact ⟨gLayX2, ⟨tyX2, tyX2_ok⟩, nmX2, rfl⟩
  | 3, _, h => cases h; exact ⟨gLayX3, ⟨tyX3, tyX3_ok⟩, nmX3, rfl⟩
  | 4, _, h => cases h; exact ⟨gLayX4, ⟨tyX4, tyX4_ok⟩, nmX4, rfl⟩
  | 5, _, h => cases h; exact ⟨gLayX5, ⟨tyX5, tyX5_ok⟩, nmX5, rfl⟩
  | 6, _, h => cases h; exact ⟨gLayX6, ⟨tyX6, tyX6_ok⟩, nmX6, rfl⟩
  | 7, _, h => cases h; exact ⟨gLayX7, ⟨tyX7, tyX7_ok⟩, nmX7, rfl⟩
  | 8, _, h => cases h; exact ⟨gLayX8, ⟨tyX8, tyX8_ok⟩, nmX8, rfl⟩
  | 9, _, h => cases h; exact ⟨gLayX9, ⟨tyX9, tyX9_ok⟩, nmX9, rfl⟩
  | 10, _, h => cases h; exact ⟨gLayX10, ⟨tyX10, tyX10_ok⟩, nmX10, rfl⟩
section Rows
variable {z : gZ} {w : gD} {d MC MS n : Nat} {y : MethodName} {cc : ByteArray} {ret : Option FieldType} {Q : State → Prop} {cn sn pc : Nat} {lv lv' : List (Nat × Value)} {rest : List Value} {h : HS}
theorem g_iconst (C : GC z w d MC MS y cc n ret) {c : Int} {v : Int32} (hd : decode cc pc = .ok (.iconst c, 1)) (hv : Int32.ofInt c = v) (k : GW z w n Q cn sn (pc + 1) lv (.int v :: rest) h) : GW z w n Q cn sn pc lv rest h := fun H locs ls hR hL hl => lv_iconst C.1 C.2.1 hd hv (k H locs ls hR hL hl)
theorem g_bipush (C : GC z w d MC MS y cc n ret) {c : Int} {v : Int32} (hd : decode cc pc = .ok (.bipush c, 2)) (hv : (Int8.ofInt c).toInt32 = v) (k : GW z w n Q cn sn (pc + 2) lv (.int v :: rest) h) : GW z w n Q cn sn pc lv rest h := fun H locs ls hR hL hl => lv_bipush C.1 C.2.1 hd hv (k H locs ls hR hL hl)
theorem g_sipush (C : GC z w d MC MS y cc n ret) {c : Int} {v : Int32} (hd : decode cc pc = .ok (.sipush c, 3)) (hv : (Int16.ofInt c).toInt32 = v) (k : GW z w n Q cn sn (pc + 3) lv (.int v :: rest) h) : GW z w n Q cn sn pc lv rest h := fun H locs ls hR hL hl => lv_sipush C.1 C.2.1 hd hv (k H locs ls hR hL hl)
theorem g_lconst (C : GC z w d MC MS y cc n ret) {c : Fin 2} {v : Int64} (hd : decode cc pc = .ok (.lconst c, 1)) (hv : Int64.ofNat (c : Nat) = v) (k : GW z w n Q cn sn (pc + 1) lv (.long v :: rest) h) : GW z w n Q cn sn pc lv rest h := fun H locs ls hR hL hl => lv_lconst C.1 C.2.1 hd hv (k H locs ls hR hL hl)
theorem g_null (C : GC z w d MC MS y cc n ret)  (hd : decode cc pc = .ok (.aconst_null, 1)) (k : GW z w n Q cn sn (pc + 1) lv (.null :: rest) h) : GW z w n Q cn sn pc lv rest h := fun H locs ls hR hL hl => lv_null C.1 C.2.1 hd (k H locs ls hR hL hl)
theorem g_iadd (C : GC z w d MC MS y cc n ret) {x x2 : Int32} (hd : decode cc pc = .ok (.iadd, 1)) (k : GW z w n Q cn sn (pc + 1) lv (.int (x + x2) :: rest) h) : GW z w n Q cn sn pc lv (.int x2 :: .int x :: rest) h := fun H locs ls hR hL hl => lv_iadd C.1 C.2.1 hd (k H locs ls hR hL hl)
theorem g_isub (C : GC z w d MC MS y cc n ret) {x x2 : Int32} (hd : decode cc pc = .ok (.isub, 1)) (k : GW z w n Q cn sn (pc + 1) lv (.int (x - x2) :: rest) h) : GW z w n Q cn sn pc lv (.int x2 :: .int x :: rest) h := fun H locs ls hR hL hl => lv_isub C.1 C.2.1 hd (k H locs ls hR hL hl)
theorem g_imul (C : GC z w d MC MS y cc n ret) {x x2 : Int32} (hd : decode cc pc = .ok (.imul, 1)) (k : GW z w n Q cn sn (pc + 1) lv (.int (x * x2) :: rest) h) : GW z w n Q cn sn pc lv (.int x2 :: .int x :: rest) h := fun H locs ls hR hL hl => lv_imul C.1 C.2.1 hd (k H locs ls hR hL hl)
theorem g_iand (C : GC z w d MC MS y cc n ret) {x x2 : Int32} (hd : decode cc pc = .ok (.iand, 1)) (k : GW z w n Q cn sn (pc + 1) lv (.int (x &&& x2) :: rest) h) : GW z w n Q cn sn pc lv (.int x2 :: .int x :: rest) h := fun H locs ls hR hL hl => lv_iand C.1 C.2.1 hd (k H locs ls hR hL hl)
theorem g_ior (C : GC z w d MC MS y cc n ret) {x x2 : Int32} (hd : decode cc pc = .ok (.ior, 1)) (k : GW z w n Q cn sn (pc + 1) lv (.int (x ||| x2) :: rest) h) : GW z w n Q cn sn pc lv (.int x2 :: .int x :: rest) h := fun H locs ls hR hL hl => lv_ior C.1 C.2.1 hd (k H locs ls hR hL hl)
theorem g_ixor (C : GC z w d MC MS y cc n ret) {x x2 : Int32} (hd : decode cc pc = .ok (.ixor, 1)) (k : GW z w n Q cn sn (pc + 1) lv (.int (x ^^^ x2) :: rest) h) : GW z w n Q cn sn pc lv (.int x2 :: .int x :: rest) h := fun H locs ls hR hL hl => lv_ixor C.1 C.2.1 hd (k H locs ls hR hL hl)
theorem g_ishl (C : GC z w d MC MS y cc n ret) {x x2 : Int32} (hd : decode cc pc = .ok (.ishl, 1)) (k : GW z w n Q cn sn (pc + 1) lv (.int (x <<< (x2 &&& 31)) :: rest) h) : GW z w n Q cn sn pc lv (.int x2 :: .int x :: rest) h := fun H locs ls hR hL hl => lv_ishl C.1 C.2.1 hd (k H locs ls hR hL hl)
theorem g_ishr (C : GC z w d MC MS y cc n ret) {x x2 : Int32} (hd : decode cc pc = .ok (.ishr, 1)) (k : GW z w n Q cn sn (pc + 1) lv (.int (x >>> (x2 &&& 31)) :: rest) h) : GW z w n Q cn sn pc lv (.int x2 :: .int x :: rest) h := fun H locs ls hR hL hl => lv_ishr C.1 C.2.1 hd (k H locs ls hR hL hl)
theorem g_iushr (C : GC z w d MC MS y cc n ret) {x x2 : Int32} (hd : decode cc pc = .ok (.iushr, 1)) (k : GW z w n Q cn sn (pc + 1) lv (.int ((x.toUInt32 >>> (x2.toUInt32 &&& Int32.toUInt32 31)).toInt32) :: rest) h) : GW z w n Q cn sn pc lv (.int x2 :: .int x :: rest) h := fun H locs ls hR hL hl => lv_iushr C.1 C.2.1 hd rfl (k H locs ls hR hL hl)
theorem g_idiv (C : GC z w d MC MS y cc n ret) {x x2 : Int32} (hd : decode cc pc = .ok (.idiv, 1)) (hne : ¬ x2 = 0) (k : GW z w n Q cn sn (pc + 1) lv (.int (x / x2) :: rest) h) : GW z w n Q cn sn pc lv (.int x2 :: .int x :: rest) h := fun H locs ls hR hL hl => lv_idiv C.1 C.2.1 hd hne (k H locs ls hR hL hl)
theorem g_irem (C : GC z w d MC MS y cc n ret) {x x2 : Int32} (hd : decode cc pc = .ok (.irem, 1)) (hne : ¬ x2 = 0) (k : GW z w n Q cn sn (pc + 1) lv (.int (x - x / x2 * x2) :: rest) h) : GW z w n Q cn sn pc lv (.int x2 :: .int x :: rest) h := fun H locs ls hR hL hl => lv_irem C.1 C.2.1 hd hne (k H locs ls hR hL hl)
theorem g_ladd (C : GC z w d MC MS y cc n ret) {x x2 : Int64} (hd : decode cc pc = .ok (.ladd, 1)) (k : GW z w n Q cn sn (pc + 1) lv (.long (x + x2) :: rest) h) : GW z w n Q cn sn pc lv (.long x2 :: .long x :: rest) h := fun H locs ls hR hL hl => lv_ladd C.1 C.2.1 hd (k H locs ls hR hL hl)
theorem g_lsub (C : GC z w d MC MS y cc n ret) {x x2 : Int64} (hd : decode cc pc = .ok (.lsub, 1)) (k : GW z w n Q cn sn (pc + 1) lv (.long (x - x2) :: rest) h) : GW z w n Q cn sn pc lv (.long x2 :: .long x :: rest) h := fun H locs ls hR hL hl => lv_lsub C.1 C.2.1 hd (k H locs ls hR hL hl)
theorem g_lmul (C : GC z w d MC MS y cc n ret) {x x2 : Int64} (hd : decode cc pc = .ok (.lmul, 1)) (k : GW z w n Q cn sn (pc + 1) lv (.long (x * x2) :: rest) h) : GW z w n Q cn sn pc lv (.long x2 :: .long x :: rest) h := fun H locs ls hR hL hl => lv_lmul C.1 C.2.1 hd (k H locs ls hR hL hl)
theorem g_land (C : GC z w d MC MS y cc n ret) {x x2 : Int64} (hd : decode cc pc = .ok (.land, 1)) (k : GW z w n Q cn sn (pc + 1) lv (.long (x &&& x2) :: rest) h) : GW z w n Q cn sn pc lv (.long x2 :: .long x :: rest) h := fun H locs ls hR hL hl => lv_land C.1 C.2.1 hd (k H locs ls hR hL hl)
theorem g_lor (C : GC z w d MC MS y cc n ret) {x x2 : Int64} (hd : decode cc pc = .ok (.lor, 1)) (k : GW z w n Q cn sn (pc + 1) lv (.long (x ||| x2) :: rest) h) : GW z w n Q cn sn pc lv (.long x2 :: .long x :: rest) h := fun H locs ls hR hL hl => lv_lor C.1 C.2.1 hd (k H locs ls hR hL hl)
theorem g_lshl (C : GC z w d MC MS y cc n ret) {x : Int64} {x2 : Int32} (hd : decode cc pc = .ok (.lshl, 1)) (k : GW z w n Q cn sn (pc + 1) lv (.long (x <<< (x2.toInt64 &&& 63)) :: rest) h) : GW z w n Q cn sn pc lv (.int x2 :: .long x :: rest) h := fun H locs ls hR hL hl => lv_lshl C.1 C.2.1 hd rfl (k H locs ls hR hL hl)
theorem g_lshr (C : GC z w d MC MS y cc n ret) {x : Int64} {x2 : Int32} (hd : decode cc pc = .ok (.lshr, 1)) (k : GW z w n Q cn sn (pc + 1) lv (.long (x >>> (x2.toInt64 &&& 63)) :: rest) h) : GW z w n Q cn sn pc lv (.int x2 :: .long x :: rest) h := fun H locs ls hR hL hl => lv_lshr C.1 C.2.1 hd rfl (k H locs ls hR hL hl)
theorem g_lushr (C : GC z w d MC MS y cc n ret) {x : Int64} {x2 : Int32} (hd : decode cc pc = .ok (.lushr, 1)) (k : GW z w n Q cn sn (pc + 1) lv (.long ((x.toUInt64 >>> (x2.toInt64.toUInt64 &&& Int64.toUInt64 63)).toInt64) :: rest) h) : GW z w n Q cn sn pc lv (.int x2 :: .long x :: rest) h := fun H locs ls hR hL hl => lv_lushr C.1 C.2.1 hd rfl (k H locs ls hR hL hl)
theorem g_i2l (C : GC z w d MC MS y cc n ret) {x : Int32} (hd : decode cc pc = .ok (.i2l, 1)) (k : GW z w n Q cn sn (pc + 1) lv (.long x.toInt64 :: rest) h) : GW z w n Q cn sn pc lv (.int x :: rest) h := fun H locs ls hR hL hl => lv_i2l C.1 C.2.1 hd rfl (k H locs ls hR hL hl)
theorem g_l2i (C : GC z w d MC MS y cc n ret) {x : Int64} (hd : decode cc pc = .ok (.l2i, 1)) (k : GW z w n Q cn sn (pc + 1) lv (.int x.toInt32 :: rest) h) : GW z w n Q cn sn pc lv (.long x :: rest) h := fun H locs ls hR hL hl => lv_l2i C.1 C.2.1 hd rfl (k H locs ls hR hL hl)
theorem g_i2b (C : GC z w d MC MS y cc n ret) {x : Int32} (hd : decode cc pc = .ok (.i2b, 1)) (k : GW z w n Q cn sn (pc + 1) lv (.int x.toInt8.toInt32 :: rest) h) : GW z w n Q cn sn pc lv (.int x :: rest) h := fun H locs ls hR hL hl => lv_i2b C.1 C.2.1 hd rfl (k H locs ls hR hL hl)
theorem g_lcmp (C : GC z w d MC MS y cc n ret) {x x2 : Int64} (hd : decode cc pc = .ok (.lcmp, 1)) (k : GW z w n Q cn sn (pc + 1) lv (.int (lg_cmp x x2) :: rest) h) : GW z w n Q cn sn pc lv (.long x2 :: .long x :: rest) h := fun H locs ls hR hL hl => W.lcmp C.1 C.2.1 hd (k H locs ls hR hL hl)
theorem g_dup (C : GC z w d MC MS y cc n ret) {v : Value} (hd : decode cc pc = .ok (.dup, 1)) (hv : v.category = 1) (k : GW z w n Q cn sn (pc + 1) lv (v :: v :: rest) h) : GW z w n Q cn sn pc lv (v :: rest) h := fun H locs ls hR hL hl => lv_dup C.1 C.2.1 hd hv (k H locs ls hR hL hl)
theorem g_pop (C : GC z w d MC MS y cc n ret) {v : Value} (hd : decode cc pc = .ok (.pop, 1)) (hv : v.category = 1) (k : GW z w n Q cn sn (pc + 1) lv rest h) : GW z w n Q cn sn pc lv (v :: rest) h := fun H locs ls hR hL hl => lv_pop C.1 C.2.1 hd hv (k H locs ls hR hL hl)
theorem g_dup_x1 (C : GC z w d MC MS y cc n ret) {v v2 : Value} (hd : decode cc pc = .ok (.dup_x1, 1)) (hv : v.category = 1) (hv2 : v2.category = 1) (k : GW z w n Q cn sn (pc + 1) lv (v :: v2 :: v :: rest) h) : GW z w n Q cn sn pc lv (v :: v2 :: rest) h := fun H locs ls hR hL hl => lv_dup_x1 C.1 C.2.1 hd hv hv2 (k H locs ls hR hL hl)
theorem g_dup2 (C : GC z w d MC MS y cc n ret) {v v2 : Value} (hd : decode cc pc = .ok (.dup2, 1)) (hv : v.category = 1) (hv2 : v2.category = 1) (k : GW z w n Q cn sn (pc + 1) lv (v :: v2 :: v :: v2 :: rest) h) : GW z w n Q cn sn pc lv (v :: v2 :: rest) h := fun H locs ls hR hL hl => lv_dup2_11 C.1 C.2.1 hd hv hv2 (k H locs ls hR hL hl)
theorem g_iload_n (C : GC z w d MC MS y cc n ret) {k : Fin 4} {i : Nat} {x : Int32} (hd : decode cc pc = .ok (.iload_n k, 1)) (q : Nat) (hi : (k : Nat) = i) (hv : lv[q]? = some (i, .int x)) (kk : GW z w n Q cn sn (pc + 1) lv (.int x :: rest) h) : GW z w n Q cn sn pc lv rest h := fun H locs ls hR hL hl => lv_iload_n C.1 C.2.1 hd hi (lv_at hl q hv) (kk H locs ls hR hL hl)
theorem g_iload (C : GC z w d MC MS y cc n ret) {i : Nat} {x : Int32} (hd : decode cc pc = .ok (.iload i, 2)) (q : Nat) (hv : lv[q]? = some (i, .int x)) (kk : GW z w n Q cn sn (pc + 2) lv (.int x :: rest) h) : GW z w n Q cn sn pc lv rest h := fun H locs ls hR hL hl => lv_iload C.1 C.2.1 hd (lv_at hl q hv) (kk H locs ls hR hL hl)
theorem g_lload_n (C : GC z w d MC MS y cc n ret) {k : Fin 4} {i : Nat} {x : Int64} (hd : decode cc pc = .ok (.lload_n k, 1)) (q : Nat) (hi : (k : Nat) = i) (hv : lv[q]? = some (i, .long x)) (kk : GW z w n Q cn sn (pc + 1) lv (.long x :: rest) h) : GW z w n Q cn sn pc lv rest h := fun H locs ls hR hL hl => lv_lload_n C.1 C.2.1 hd hi (lv_at hl q hv) (kk H locs ls hR hL hl)
theorem g_lload (C : GC z w d MC MS y cc n ret) {i : Nat} {x : Int64} (hd : decode cc pc = .ok (.lload i, 2)) (q : Nat) (hv : lv[q]? = some (i, .long x)) (kk : GW z w n Q cn sn (pc + 2) lv (.long x :: rest) h) : GW z w n Q cn sn pc lv rest h := fun H locs ls hR hL hl => lv_lload C.1 C.2.1 hd (lv_at hl q hv) (kk H locs ls hR hL hl)
theorem g_aload_n (C : GC z w d MC MS y cc n ret) {k : Fin 4} {i : Nat} {x : Nat} (hd : decode cc pc = .ok (.aload_n k, 1)) (q : Nat) (hi : (k : Nat) = i) (hv : lv[q]? = some (i, .ref x)) (kk : GW z w n Q cn sn (pc + 1) lv (.ref x :: rest) h) : GW z w n Q cn sn pc lv rest h := fun H locs ls hR hL hl => lv_aload_n C.1 C.2.1 hd hi (lv_at hl q hv) (kk H locs ls hR hL hl)
theorem g_aload (C : GC z w d MC MS y cc n ret) {i : Nat} {x : Nat} (hd : decode cc pc = .ok (.aload i, 2)) (q : Nat) (hv : lv[q]? = some (i, .ref x)) (kk : GW z w n Q cn sn (pc + 2) lv (.ref x :: rest) h) : GW z w n Q cn sn pc lv rest h := fun H locs ls hR hL hl => lv_aload C.1 C.2.1 hd (lv_at hl q hv) (kk H locs ls hR hL hl)
theorem g_aload_nN (C : GC z w d MC MS y cc n ret) {k : Fin 4} {i : Nat} (hd : decode cc pc = .ok (.aload_n k, 1)) (q : Nat) (hi : (k : Nat) = i) (hv : lv[q]? = some (i, .null)) (kk : GW z w n Q cn sn (pc + 1) lv (.null :: rest) h) : GW z w n Q cn sn pc lv rest h := fun H locs ls hR hL hl => lv_aload_nN C.1 C.2.1 hd hi (lv_at hl q hv) (kk H locs ls hR hL hl)
theorem g_istore_n (C : GC z w d MC MS y cc n ret) {k : Fin 4} {i : Nat} {x : Int32} (hd : decode cc pc = .ok (.istore_n k, 1)) (ks : List Nat) (hi : (k : Nat) = i) (hn : i < n) (hv : lv_pick ((i, .int x) :: lv.filter (fun q => !(q.1 == i) && !(q.1 + 1 == i && q.2.category == 2))) ks = lv') (kk : GW z w n Q cn sn (pc + 1) lv' rest h) : GW z w n Q cn sn pc lv (.int x :: rest) h := fun H locs ls hR hL hl => lv_istore_n C.1 C.2.1 hd hi hl hn rfl (fun ls hl => kk H locs ls hR hL (lv_sub hl ks hv))
theorem g_istore (C : GC z w d MC MS y cc n ret) {i : Nat} {x : Int32} (hd : decode cc pc = .ok (.istore i, 2)) (ks : List Nat) (hn : i < n) (hv : lv_pick ((i, .int x) :: lv.filter (fun q => !(q.1 == i) && !(q.1 + 1 == i && q.2.category == 2))) ks = lv') (kk : GW z w n Q cn sn (pc + 2) lv' rest h) : GW z w n Q cn sn pc lv (.int x :: rest) h := fun H locs ls hR hL hl => lv_istore C.1 C.2.1 hd hl hn rfl (fun ls hl => kk H locs ls hR hL (lv_sub hl ks hv))
theorem g_lstore_n (C : GC z w d MC MS y cc n ret) {k : Fin 4} {i : Nat} {x : Int64} (hd : decode cc pc = .ok (.lstore_n k, 1)) (ks : List Nat) (hi : (k : Nat) = i) (hn : i + 1 < n) (hv : lv_pick ((i, .long x) :: lv.filter (fun q => !(q.1 == i) && (!(q.1 == i + 1) && !(q.1 + 1 == i && q.2.category == 2)))) ks = lv') (kk : GW z w n Q cn sn (pc + 1) lv' rest h) : GW z w n Q cn sn pc lv (.long x :: rest) h := fun H locs ls hR hL hl => lv_lstore_n C.1 C.2.1 hd hi hl hn rfl (fun ls hl => kk H locs ls hR hL (lv_sub hl ks hv))
theorem g_lstore (C : GC z w d MC MS y cc n ret) {i : Nat} {x : Int64} (hd : decode cc pc = .ok (.lstore i, 2)) (ks : List Nat) (hn : i + 1 < n) (hv : lv_pick ((i, .long x) :: lv.filter (fun q => !(q.1 == i) && (!(q.1 == i + 1) && !(q.1 + 1 == i && q.2.category == 2)))) ks = lv') (kk : GW z w n Q cn sn (pc + 2) lv' rest h) : GW z w n Q cn sn pc lv (.long x :: rest) h := fun H locs ls hR hL hl => lv_lstore C.1 C.2.1 hd hl hn rfl (fun ls hl => kk H locs ls hR hL (lv_sub hl ks hv))
theorem g_astore_n (C : GC z w d MC MS y cc n ret) {k : Fin 4} {i : Nat} {x : Nat} (hd : decode cc pc = .ok (.astore_n k, 1)) (ks : List Nat) (hi : (k : Nat) = i) (hn : i < n) (hv : lv_pick ((i, .ref x) :: lv.filter (fun q => !(q.1 == i) && !(q.1 + 1 == i && q.2.category == 2))) ks = lv') (kk : GW z w n Q cn sn (pc + 1) lv' rest h) : GW z w n Q cn sn pc lv (.ref x :: rest) h := fun H locs ls hR hL hl => lv_astore_n C.1 C.2.1 hd hi hl hn rfl (fun ls hl => kk H locs ls hR hL (lv_sub hl ks hv))
theorem g_astore (C : GC z w d MC MS y cc n ret) {i : Nat} {x : Nat} (hd : decode cc pc = .ok (.astore i, 2)) (ks : List Nat) (hn : i < n) (hv : lv_pick ((i, .ref x) :: lv.filter (fun q => !(q.1 == i) && !(q.1 + 1 == i && q.2.category == 2))) ks = lv') (kk : GW z w n Q cn sn (pc + 2) lv' rest h) : GW z w n Q cn sn pc lv (.ref x :: rest) h := fun H locs ls hR hL hl => lv_astore C.1 C.2.1 hd hl hn rfl (fun ls hl => kk H locs ls hR hL (lv_sub hl ks hv))
theorem g_iinc (C : GC z w d MC MS y cc n ret) {i : Nat} {x v : Int32} {c : Int} (hd : decode cc pc = .ok (.iinc i c, 3)) (q : Nat) (ks : List Nat) (hq : lv[q]? = some (i, .int x)) (hc : x + Int32.ofInt c = v) (hn : i < n) (hv : lv_pick ((i, Value.int v) :: lv.filter (fun q => !(q.1 == i) && !(q.1 + 1 == i && q.2.category == 2))) ks = lv') (kk : GW z w n Q cn sn (pc + 3) lv' rest h) : GW z w n Q cn sn pc lv rest h := fun H locs ls hR hL hl => lv_iinc C.1 C.2.1 hd hl hq hc hn rfl (fun ls hl => kk H locs ls hR hL (lv_sub hl ks hv))
theorem g_goto (C : GC z w d MC MS y cc n ret) {off : Int} {tgt : Nat} (hd : decode cc pc = .ok (.goto off, 3)) (ht : (pc : Int) + off = (tgt : Int)) (k : GW z w n Q cn sn tgt lv rest h) : GW z w n Q cn sn pc lv rest h := fun H locs ls hR hL hl => lv_goto C.1 C.2.1 hd ht (k H locs ls hR hL hl)
theorem g_if_eq (C : GC z w d MC MS y cc n ret) {x : Int32} {off : Int} (tgt : Nat) (hd : decode cc pc = .ok (.ifCond .eq off, 3)) (ht : (pc : Int) + off = (tgt : Int)) (kt : x = 0 → GW z w n Q cn sn tgt lv rest h) (kf : ¬ x = 0 → GW z w n Q cn sn (pc + 3) lv rest h) : GW z w n Q cn sn pc lv (.int x :: rest) h := fun H locs ls hR hL hl => lv_if_eq C.1 C.2.1 hd ht (fun c => kt c H locs ls hR hL hl) (fun c => kf c H locs ls hR hL hl)
theorem g_icmp_eq (C : GC z w d MC MS y cc n ret) {x x2 : Int32} {off : Int} (tgt : Nat) (hd : decode cc pc = .ok (.if_icmp .eq off, 3)) (ht : (pc : Int) + off = (tgt : Int)) (kt : x = x2 → GW z w n Q cn sn tgt lv rest h) (kf : ¬ x = x2 → GW z w n Q cn sn (pc + 3) lv rest h) : GW z w n Q cn sn pc lv (.int x2 :: .int x :: rest) h := fun H locs ls hR hL hl => lv_icmp_eq C.1 C.2.1 hd ht (fun c => kt c H locs ls hR hL hl) (fun c => kf c H locs ls hR hL hl)
theorem g_if_ne (C : GC z w d MC MS y cc n ret) {x : Int32} {off : Int} (tgt : Nat) (hd : decode cc pc = .ok (.ifCond .ne off, 3)) (ht : (pc : Int) + off = (tgt : Int)) (kt : ¬ x = 0 → GW z w n Q cn sn tgt lv rest h) (kf : x = 0 → GW z w n Q cn sn (pc + 3) lv rest h) : GW z w n Q cn sn pc lv (.int x :: rest) h := fun H locs ls hR hL hl => lv_if_ne C.1 C.2.1 hd ht (fun c => kt c H locs ls hR hL hl) (fun c => kf c H locs ls hR hL hl)
theorem g_icmp_ne (C : GC z w d MC MS y cc n ret) {x x2 : Int32} {off : Int} (tgt : Nat) (hd : decode cc pc = .ok (.if_icmp .ne off, 3)) (ht : (pc : Int) + off = (tgt : Int)) (kt : ¬ x = x2 → GW z w n Q cn sn tgt lv rest h) (kf : x = x2 → GW z w n Q cn sn (pc + 3) lv rest h) : GW z w n Q cn sn pc lv (.int x2 :: .int x :: rest) h := fun H locs ls hR hL hl => lv_icmp_ne C.1 C.2.1 hd ht (fun c => kt c H locs ls hR hL hl) (fun c => kf c H locs ls hR hL hl)
theorem g_if_lt (C : GC z w d MC MS y cc n ret) {x : Int32} {off : Int} (tgt : Nat) (hd : decode cc pc = .ok (.ifCond .lt off, 3)) (ht : (pc : Int) + off = (tgt : Int)) (kt : x < 0 → GW z w n Q cn sn tgt lv rest h) (kf : ¬ x < 0 → GW z w n Q cn sn (pc + 3) lv rest h) : GW z w n Q cn sn pc lv (.int x :: rest) h := fun H locs ls hR hL hl => lv_if_lt C.1 C.2.1 hd ht (fun c => kt c H locs ls hR hL hl) (fun c => kf c H locs ls hR hL hl)
theorem g_icmp_lt (C : GC z w d MC MS y cc n ret) {x x2 : Int32} {off : Int} (tgt : Nat) (hd : decode cc pc = .ok (.if_icmp .lt off, 3)) (ht : (pc : Int) + off = (tgt : Int)) (kt : x < x2 → GW z w n Q cn sn tgt lv rest h) (kf : ¬ x < x2 → GW z w n Q cn sn (pc + 3) lv rest h) : GW z w n Q cn sn pc lv (.int x2 :: .int x :: rest) h := fun H locs ls hR hL hl => lv_icmp_lt C.1 C.2.1 hd ht (fun c => kt c H locs ls hR hL hl) (fun c => kf c H locs ls hR hL hl)
theorem g_if_ge (C : GC z w d MC MS y cc n ret) {x : Int32} {off : Int} (tgt : Nat) (hd : decode cc pc = .ok (.ifCond .ge off, 3)) (ht : (pc : Int) + off = (tgt : Int)) (kt : 0 ≤ x → GW z w n Q cn sn tgt lv rest h) (kf : ¬ 0 ≤ x → GW z w n Q cn sn (pc + 3) lv rest h) : GW z w n Q cn sn pc lv (.int x :: rest) h := fun H locs ls hR hL hl => lv_if_ge C.1 C.2.1 hd ht (fun c => kt c H locs ls hR hL hl) (fun c => kf c H locs ls hR hL hl)
theorem g_icmp_ge (C : GC z w d MC MS y cc n ret) {x x2 : Int32} {off : Int} (tgt : Nat) (hd : decode cc pc = .ok (.if_icmp .ge off, 3)) (ht : (pc : Int) + off = (tgt : Int)) (kt : x2 ≤ x → GW z w n Q cn sn tgt lv rest h) (kf : ¬ x2 ≤ x → GW z w n Q cn sn (pc + 3) lv rest h) : GW z w n Q cn sn pc lv (.int x2 :: .int x :: rest) h := fun H locs ls hR hL hl => lv_icmp_ge C.1 C.2.1 hd ht (fun c => kt c H locs ls hR hL hl) (fun c => kf c H locs ls hR hL hl)
theorem g_if_gt (C : GC z w d MC MS y cc n ret) {x : Int32} {off : Int} (tgt : Nat) (hd : decode cc pc = .ok (.ifCond .gt off, 3)) (ht : (pc : Int) + off = (tgt : Int)) (kt : 0 < x → GW z w n Q cn sn tgt lv rest h) (kf : ¬ 0 < x → GW z w n Q cn sn (pc + 3) lv rest h) : GW z w n Q cn sn pc lv (.int x :: rest) h := fun H locs ls hR hL hl => lv_if_gt C.1 C.2.1 hd ht (fun c => kt c H locs ls hR hL hl) (fun c => kf c H locs ls hR hL hl)
theorem g_icmp_gt (C : GC z w d MC MS y cc n ret) {x x2 : Int32} {off : Int} (tgt : Nat) (hd : decode cc pc = .ok (.if_icmp .gt off, 3)) (ht : (pc : Int) + off = (tgt : Int)) (kt : x2 < x → GW z w n Q cn sn tgt lv rest h) (kf : ¬ x2 < x → GW z w n Q cn sn (pc + 3) lv rest h) : GW z w n Q cn sn pc lv (.int x2 :: .int x :: rest) h := fun H locs ls hR hL hl => lv_icmp_gt C.1 C.2.1 hd ht (fun c => kt c H locs ls hR hL hl) (fun c => kf c H locs ls hR hL hl)
theorem g_if_le (C : GC z w d MC MS y cc n ret) {x : Int32} {off : Int} (tgt : Nat) (hd : decode cc pc = .ok (.ifCond .le off, 3)) (ht : (pc : Int) + off = (tgt : Int)) (kt : x ≤ 0 → GW z w n Q cn sn tgt lv rest h) (kf : ¬ x ≤ 0 → GW z w n Q cn sn (pc + 3) lv rest h) : GW z w n Q cn sn pc lv (.int x :: rest) h := fun H locs ls hR hL hl => lv_if_le C.1 C.2.1 hd ht (fun c => kt c H locs ls hR hL hl) (fun c => kf c H locs ls hR hL hl)
theorem g_icmp_le (C : GC z w d MC MS y cc n ret) {x x2 : Int32} {off : Int} (tgt : Nat) (hd : decode cc pc = .ok (.if_icmp .le off, 3)) (ht : (pc : Int) + off = (tgt : Int)) (kt : x ≤ x2 → GW z w n Q cn sn tgt lv rest h) (kf : ¬ x ≤ x2 → GW z w n Q cn sn (pc + 3) lv rest h) : GW z w n Q cn sn pc lv (.int x2 :: .int x :: rest) h := fun H locs ls hR hL hl => lv_icmp_le C.1 C.2.1 hd ht (fun c => kt c H locs ls hR hL hl) (fun c => kf c H locs ls hR hL hl)
theorem g_acmp_ne (C : GC z w d MC MS y cc n ret) {rx ry : Option Nat} {off : Int} (tgt : Nat) (hd : decode cc pc = .ok (.if_acmp .ne off, 3)) (ht : (pc : Int) + off = (tgt : Int)) (kt : ¬ rx = ry → GW z w n Q cn sn tgt lv rest h) (kf : rx = ry → GW z w n Q cn sn (pc + 3) lv rest h) : GW z w n Q cn sn pc lv (va_rf ry :: va_rf rx :: rest) h := fun H locs ls hR hL hl => lv_acmp_ne C.1 C.2.1 hd ht (fun c => kt c H locs ls hR hL hl) (fun c => kf c H locs ls hR hL hl)
theorem g_ifnonnull (C : GC z w d MC MS y cc n ret) {x : Nat} {off : Int} (tgt : Nat) (hd : decode cc pc = .ok (.ifnonnull off, 3)) (ht : (pc : Int) + off = (tgt : Int)) (k : GW z w n Q cn sn tgt lv rest h) : GW z w n Q cn sn pc lv (.ref x :: rest) h := fun H locs ls hR hL hl => lv_ifnonnull C.1 C.2.1 hd ht (k H locs ls hR hL hl)
theorem g_ifnonnullN (C : GC z w d MC MS y cc n ret) {off : Int} (hd : decode cc pc = .ok (.ifnonnull off, 3)) (k : GW z w n Q cn sn (pc + 3) lv rest h) : GW z w n Q cn sn pc lv (.null :: rest) h := fun H locs ls hR hL hl => lv_ifnonnullN C.1 C.2.1 hd (k H locs ls hR hL hl)
theorem g_tableIn (C : GC z w d MC MS y cc n ret) {dflt lo hi : Int} {offs : Array Int} {len : Nat} {x : Int32} {off : Int} (tgt : Nat) (hd : decode cc pc = .ok (.tableswitch dflt lo hi offs, len)) (h1 : ¬ x.toInt < lo) (h2 : ¬ hi < x.toInt) (ho : offs[(x.toInt - lo).toNat]? = some off) (ht : (pc : Int) + off = (tgt : Int)) (k : GW z w n Q cn sn tgt lv rest h) : GW z w n Q cn sn pc lv (.int x :: rest) h := fun H locs ls hR hL hl => lv_tableIn C.1 C.2.1 hd h1 h2 ho ht (k H locs ls hR hL hl)
theorem g_tableOut (C : GC z w d MC MS y cc n ret) {dflt lo hi : Int} {offs : Array Int} {len : Nat} {x : Int32} (tgt : Nat) (hd : decode cc pc = .ok (.tableswitch dflt lo hi offs, len)) (h1 : x.toInt < lo ∨ hi < x.toInt) (ht : (pc : Int) + dflt = (tgt : Int)) (k : GW z w n Q cn sn tgt lv rest h) : GW z w n Q cn sn pc lv (.int x :: rest) h := fun H locs ls hR hL hl => lv_tableOut C.1 C.2.1 hd h1 ht (k H locs ls hR hL hl)
theorem g_lookup (C : GC z w d MC MS y cc n ret) {dflt : Int} {ps : Array (Int × Int)} {len : Nat} {x : Int32} {off : Int} (tgt : Nat) (hd : decode cc pc = .ok (.lookupswitch dflt ps, len)) (hp : (ps.toList.zip (ps.toList.drop 1)).all (fun (a, next) => a.1 < next.1) = true) (ho : Op.lookupswitch.offset ps.toList dflt x.toInt = off) (ht : (pc : Int) + off = (tgt : Int)) (k : GW z w n Q cn sn tgt lv rest h) : GW z w n Q cn sn pc lv (.int x :: rest) h := fun H locs ls hR hL hl => lv_lookup C.1 C.2.1 hd hp ho ht (k H locs ls hR hL hl)
theorem g_ldc (C : GC z w d MC MS y cc n ret) {index : Nat} {v : Int32} (hd : decode cc pc = .ok (.ldc index, 2)) (hl0 : Cond.constant y.cls index v ∈ gtb) (k : GW z w n Q cn sn (pc + 2) lv (.int v :: rest) h) : GW z w n Q cn sn pc lv rest h := fun H locs ls hR hL hl => lv_ldc C.1 C.2.1 C.2.2.2.1 (C.2.2.2.2.1 _ hl0) hd (k H locs ls hR hL hl)
theorem g_ldcw (C : GC z w d MC MS y cc n ret) {index : Nat} {v : Int32} (hd : decode cc pc = .ok (.ldc_w index, 3)) (hl0 : Cond.constant y.cls index v ∈ gtb) (k : GW z w n Q cn sn (pc + 3) lv (.int v :: rest) h) : GW z w n Q cn sn pc lv rest h := fun H locs ls hR hL hl => lv_ldcw C.1 C.2.1 C.2.2.2.1 (C.2.2.2.2.1 _ hl0) hd (k H locs ls hR hL hl)
theorem g_ldc2 (C : GC z w d MC MS y cc n ret) {index : Nat} {v : Int64} (hd : decode cc pc = .ok (.ldc2_w index, 3)) (hl0 : Cond.constantLong y.cls index v ∈ gtb) (k : GW z w n Q cn sn (pc + 3) lv (.long v :: rest) h) : GW z w n Q cn sn pc lv rest h := fun H locs ls hR hL hl => lv_ldc2 C.1 C.2.1 C.2.2.2.1 (C.2.2.2.2.1 _ hl0) hd (k H locs ls hR hL hl)
end Rows
