/-! The class's world: every cell has a kind; ints and references by address and place. -/
abbrev cS : Type := (Nat → Nat) × (Nat → Nat) × (Nat → Nat → Int32) × (Nat → Nat → Option Nat)
/-- the kind of a cell: constants lie below b0 (K tells them), the reference's cells are none of the class's -/
def ck (b0 : Nat) (S : cS) (a : Nat) : Nat := if a < b0 ∨ (b0 + 5 ≤ a ∧ a < b0 + 26) then 0 else S.1 a
def kd (b0 : Nat) (K S : cS) (a : Nat) : Nat := if a < b0 then K.1 a else ck b0 S a
def eK (b0 : Nat) (K S : cS) (a : Nat) : cS := if a < b0 then K else S
def up2 {α : Type} (f : Nat → Nat → α) (a k : Nat) (v : α) : Nat → Nat → α := fun b j => if b = a ∧ j = k then v else f b j
def gI (b0 : Nat) (K S : cS) (z k a : Nat) : Option Int32 := if kd b0 K S a = z then some ((eK b0 K S a).2.2.1 a k) else none
def gR (b0 : Nat) (K S : cS) (z k a : Nat) : Option (Option Nat) := if kd b0 K S a = z then some ((eK b0 K S a).2.2.2 a k) else none
def pI (b0 : Nat) (S : cS) (z k a : Nat) (v : Int32) : Option cS := if ck b0 S a = z then some (S.1, S.2.1, up2 S.2.2.1 a k v, S.2.2.2) else none
def pR (b0 : Nat) (S : cS) (z k a : Nat) (v : Option Nat) : Option cS := if ck b0 S a = z then some (S.1, S.2.1, S.2.2.1, up2 S.2.2.2 a k v) else none
def aL (b0 : Nat) (K S : cS) (z a : Nat) (i : Int32) : Option Int32 := if kd b0 K S a = z ∧ 0 ≤ i.toInt ∧ i.toInt < (eK b0 K S a).2.1 a then some ((eK b0 K S a).2.2.1 a i.toNatClampNeg) else none
def aT (b0 : Nat) (S : cS) (z a : Nat) (i x : Int32) : Option cS := if ck b0 S a = z ∧ 0 ≤ i.toInt ∧ i.toInt < S.2.1 a then some (S.1, S.2.1, up2 S.2.2.1 a i.toNatClampNeg x, S.2.2.2) else none
def aLR (b0 : Nat) (S : cS) (a : Nat) (i : Int32) : Option (Option Nat) := if ck b0 S a = 13 ∧ 0 ≤ i.toInt ∧ i.toInt < S.2.1 a then some (S.2.2.2 a i.toNatClampNeg) else none
def aTR (b0 : Nat) (S : cS) (a : Nat) (i : Int32) (x : Nat) : Option cS := if (ck b0 S a = 13 ∧ ck b0 S x = 2) ∧ 0 ≤ i.toInt ∧ i.toInt < S.2.1 a then some (S.1, S.2.1, S.2.2.1, up2 S.2.2.2 a i.toNatClampNeg (some x)) else none
def aN (b0 : Nat) (K S : cS) (z a : Nat) : Option Int32 := if kd b0 K S a = z then some (Int32.ofNat ((eK b0 K S a).2.1 a)) else none
def nO (S : cS) (z a : Nat) : cS := (va_up S.1 a z, S.2.1, va_up S.2.2.1 a (fun _ => 0), va_up S.2.2.2 a (fun _ => none))
def nA (S : cS) (z a n : Nat) : cS := (va_up S.1 a z, va_up S.2.1 a n, va_up S.2.2.1 a (fun _ => 0), va_up S.2.2.2 a (fun _ => none))
def om {α : Type} (o : Option Nat) (A : α) (f : Nat → α) : α := match o with
  | none => A
  | some a => f a
theorem oom {α : Type} {o : Option Nat} {A r : α} {f : Nat → α} {P : Prop} (h : om o A f = r) (k0 : o = none → A = r → P) (k1 : ∀ a, o = some a → f a = r → P) : P := by
  cases o with
  | none => exact k0 rfl h
  | some a => exact k1 a rfl h
def b3 {α β γ δ : Type} (o : Option (α × β × γ)) (f : α → β → γ → Option δ) : Option δ := match o with
  | none => none
  | some x => f x.1 x.2.1 x.2.2
def b4 {α β γ δ ε : Type} (o : Option (α × β × γ × δ)) (f : α → β → γ → δ → Option ε) : Option ε := match o with
  | none => none
  | some x => f x.1 x.2.1 x.2.2.1 x.2.2.2
theorem ob3 {α β γ δ : Type} {o : Option (α × β × γ)} {f : α → β → γ → Option δ} {r : δ} {P : Prop} (h : b3 o f = some r) (k : ∀ x y z, o = some (x, y, z) → f x y z = some r → P) : P := by
  cases o with
  | none => cases h
  | some x => exact k x.1 x.2.1 x.2.2 rfl h
theorem ob4 {α β γ δ ε : Type} {o : Option (α × β × γ × δ)} {f : α → β → γ → δ → Option ε} {r : ε} {P : Prop} (h : b4 o f = some r) (k : ∀ x y z w, o = some (x, y, z, w) → f x y z w = some r → P) : P := by
  cases o with
  | none => cases h
  | some x => exact k x.1 x.2.1 x.2.2.1 x.2.2.2 rfl h
def wr3 (n k : Nat) (o : Option (cS × Nat × Nat)) : Option (cS × Nat × Nat) := match o with
  | none => none
  | some x => some (x.1, n + x.2.1, k + x.2.2)
def wr4 {α : Type} (n k : Nat) (o : Option (α × cS × Nat × Nat)) : Option (α × cS × Nat × Nat) := match o with
  | none => none
  | some x => some (x.1, x.2.1, n + x.2.2.1, k + x.2.2.2)
theorem owr3 {n k cells slots mc ms dc ds : Nat} {S' : cS} {o : Option (cS × Nat × Nat)} {P : Prop} (h : wr3 n k o = some (S', dc, ds)) (hc : cells + dc = mc) (hs : slots + ds = ms)
    (kk : ∀ dc ds, o = some (S', dc, ds) → (cells + n) + dc = mc → (slots + k) + ds = ms → P) : P := by
  cases o with
  | none => cases h
  | some x => cases h; exact kk x.2.1 x.2.2 rfl (by omega) (by omega)
theorem owr4 {α : Type} {n k cells slots mc ms dc ds : Nat} {r : α} {S' : cS} {o : Option (α × cS × Nat × Nat)} {P : Prop} (h : wr4 n k o = some (r, S', dc, ds)) (hc : cells + dc = mc) (hs : slots + ds = ms)
    (kk : ∀ dc ds, o = some (r, S', dc, ds) → (cells + n) + dc = mc → (slots + k) + ds = ms → P) : P := by
  cases o with
  | none => cases h
  | some x => cases h; exact kk x.2.2.1 x.2.2.2 rfl (by omega) (by omega)
theorem hzn {n sz sz0 cells : Nat} (h : sz = sz0 + cells) : sz + n = sz0 + (cells + n) := by omega
theorem hr_ {c d mc : Nat} (h : c + d = mc) : c ≤ mc := by omega
theorem hr0 {c d mc : Nat} (h : c + d = mc) : c + 0 ≤ mc := by omega
def cFl (z : Nat) (S : cS) (a : Nat) : List Value := match z with
  | 1 => [va_rf (S.2.2.2 a 0), va_rf (S.2.2.2 a 1), .int (S.2.2.1 a 2), va_rf (S.2.2.2 a 3), va_rf (S.2.2.2 a 4)]
  | 2 => [.int (S.2.2.1 a 0), .int (S.2.2.1 a 1), va_rf (S.2.2.2 a 2), va_rf (S.2.2.2 a 3), va_rf (S.2.2.2 a 4), va_rf (S.2.2.2 a 5), va_rf (S.2.2.2 a 6), va_rf (S.2.2.2 a 7)]
  | 3 => [va_rf (S.2.2.2 a 0), .int (S.2.2.1 a 1), va_rf (S.2.2.2 a 2)]
  | 4 => [va_rf (S.2.2.2 a 0), .int (S.2.2.1 a 1), va_rf (S.2.2.2 a 2), va_rf (S.2.2.2 a 3), va_rf (S.2.2.2 a 4), va_rf (S.2.2.2 a 5), .int (S.2.2.1 a 6), .int (S.2.2.1 a 7)]
  | 5 => [va_rf (S.2.2.2 a 0), .int (S.2.2.1 a 1)]
  | 6 => [va_rf (S.2.2.2 a 0), .int (S.2.2.1 a 1)]
  | 7 => [va_rf (S.2.2.2 a 0), .int (S.2.2.1 a 1), .int (S.2.2.1 a 2), .int (S.2.2.1 a 3)]
  | _ => [.int (S.2.2.1 a 0), va_rf (S.2.2.2 a 1), .int (S.2.2.1 a 2)]
def cC (z : Nat) : String := match z with
  | 1 => RZ1 | 2 => RZ2 | 3 => RZ3 | 4 => RZ4 | 5 => RZ5 | 6 => RZ6 | 7 => RZ7 | _ => RZ8
def cT (z : Nat) : u_T := match z with
  | 1 => TZ1 | 2 => TZ2 | 3 => TZ3 | 4 => TZ4 | 5 => TZ5 | 6 => TZ6 | 7 => TZ7 | _ => TZ8
def cTy (z : Nat) : Nat → FieldType := match z with
  | 1 => tyZ1 | 2 => tyZ2 | 3 => tyZ3 | 4 => tyZ4 | 5 => tyZ5 | 6 => tyZ6 | 7 => tyZ7 | _ => tyZ8
def cNn (z : Nat) : Nat := match z with
  | 1 => 5 | 2 => 8 | 3 => 3 | 4 => 8 | 5 => 2 | 6 => 2 | 7 => 4 | _ => 3
theorem c18 {P : Nat → Prop} (h1 : P 1) (h2 : P 2) (h3 : P 3) (h4 : P 4) (h5 : P 5) (h6 : P 6) (h7 : P 7) (h8 : P 8) {z : Nat} (hz : 1 ≤ z ∧ z ≤ 8) : P z := by
  obtain ⟨a, b⟩ := hz
  match z, a, b with
  | 1, _, _ => exact h1
  | 2, _, _ => exact h2
  | 3, _, _ => exact h3
  | 4, _, _ => exact h4
  | 5, _, _ => exact h5
  | 6, _, _ => exact h6
  | 7, _, _ => exact h7
  | 8, _, _ => exact h8
  | z + 9, _, b => omega
theorem hcC {z : Nat} (hz : 1 ≤ z ∧ z ≤ 8) : vwCl[z]? = some (cC z, cT z, cNn z) := c18 (P := fun z => vwCl[z]? = some (cC z, cT z, cNn z)) rfl rfl rfl rfl rfl rfl rfl rfl hz
theorem wsA_c {z : Nat} (hz : 1 ≤ z ∧ z ≤ 8) : ∀ w ∈ u_ws (cC z) (cT z) (cNn z), w ∈ wsA := c18 (P := fun z => ∀ w ∈ u_ws (cC z) (cT z) (cNn z), w ∈ wsA) wsA_Z1 wsA_Z2 wsA_Z3 wsA_Z4 wsA_Z5 wsA_Z6 wsA_Z7 wsA_Z8 hz
theorem cTy_ok {z : Nat} (hz : 1 ≤ z ∧ z ≤ 8) : ∀ k, k < cNn z → parseFieldDescriptor (cT z k).2.2.1 = some (cTy z k) := c18 (P := fun z => ∀ k, k < cNn z → parseFieldDescriptor (cT z k).2.2.1 = some (cTy z k)) tyZ1_ok tyZ2_ok tyZ3_ok tyZ4_ok tyZ5_ok tyZ6_ok tyZ7_ok tyZ8_ok hz
theorem cNm {z : Nat} (hz : 1 ≤ z ∧ z ≤ 8) : ∀ a, a < cNn z → ∀ b, b < cNn z → a ≠ b → (cT z a).2.1 ≠ (cT z b).2.1 := c18 (P := fun z => ∀ a, a < cNn z → ∀ b, b < cNn z → a ≠ b → (cT z a).2.1 ≠ (cT z b).2.1) nmZ1 nmZ2 nmZ3 nmZ4 nmZ5 nmZ6 nmZ7 nmZ8 hz
theorem cFl_len {z : Nat} {S : cS} {a : Nat} (hz : 1 ≤ z ∧ z ≤ 8) : (cFl z S a).length = cNn z := c18 (P := fun z => (cFl z S a).length = cNn z) rfl rfl rfl rfl rfl rfl rfl rfl hz
def cCell (dA : Nat → ClassId) (b0 : Nat) (S : cS) (a : Nat) : Option va_E :=
  if ck b0 S a = 0 then none else if ck b0 S a ≤ 8 then some (.inr (ck b0 S a, cFl (ck b0 S a) S a)) else if ck b0 S a = 13 then some (.inl (dA 3, S.2.1 a, .inr (.inr (.inr (.inr (S.2.2.2 a)))))) else if ck b0 S a = 11 then some (.inl (dA 1, S.2.1 a, .inl (S.2.2.1 a))) else some (.inl (dA 2, S.2.1 a, .inl (S.2.2.1 a)))
def cH (dA : Nat → ClassId) (b0 : Nat) (S : cS) (hp0 : aH) : aH := fun a => match cCell dA b0 S a with
  | none => hp0 a
  | some e => some e
theorem cH_o {dA : Nat → ClassId} {b0 z a : Nat} {S : cS} {hp0 : aH} (hz : 1 ≤ z ∧ z ≤ 8) (h : ck b0 S a = z) : cH dA b0 S hp0 a = some (.inr (z, cFl z S a)) := by
  have h0 : ¬ z = 0 := by omega
  simp only [cH, cCell, h, if_neg h0, if_pos hz.2]
theorem cH_c {dA : Nat → ClassId} {b0 a : Nat} {S : cS} {hp0 : aH} (h : ck b0 S a = 11) : cH dA b0 S hp0 a = some (.inl (dA 1, S.2.1 a, .inl (S.2.2.1 a))) := by simp [cH, cCell, h]
theorem cH_b {dA : Nat → ClassId} {b0 a : Nat} {S : cS} {hp0 : aH} (h : ck b0 S a = 12) : cH dA b0 S hp0 a = some (.inl (dA 2, S.2.1 a, .inl (S.2.2.1 a))) := by simp [cH, cCell, h]
theorem cH_q {dA : Nat → ClassId} {b0 a : Nat} {S : cS} {hp0 : aH} (h : ck b0 S a = 13) : cH dA b0 S hp0 a = some (.inl (dA 3, S.2.1 a, .inr (.inr (.inr (.inr (S.2.2.2 a)))))) := by simp [cH, cCell, h]
theorem ck_b {b0 a z : Nat} {S : cS} (hz : 1 ≤ z) (h : ck b0 S a = z) : b0 ≤ a := by
  unfold ck at h
  by_cases hc : a < b0 ∨ (b0 + 5 ≤ a ∧ a < b0 + 26)
  · rw [if_pos hc] at h; omega
  · omega
/-- a change at one address -/
theorem cH_up {dA : Nat → ClassId} {b0 a : Nat} {S S1 : cS} {hp0 : aH} {e : va_E} (he : cH dA b0 S1 hp0 a = some e) (h : ∀ b, b ≠ a → cCell dA b0 S1 b = cCell dA b0 S b) : va_up (cH dA b0 S hp0) a (some e) = cH dA b0 S1 hp0 := by
  funext b
  by_cases hb : b = a
  · subst hb; rw [va_up_self, he]
  · rw [va_up_ne _ _ hb]; simp only [cH, h b hb]
theorem up2_ne {α : Type} {f : Nat → Nat → α} {a k b : Nat} {v : α} (h : b ≠ a) : up2 f a k v b = f b := by funext j; simp [up2, h]
theorem cFl_cong {z b : Nat} {S S1 : cS} (h1 : S1.2.2.1 b = S.2.2.1 b) (h2 : S1.2.2.2 b = S.2.2.2 b) : cFl z S1 b = cFl z S b := by
  unfold cFl; rw [h1, h2]
theorem cCell_cong {dA : Nat → ClassId} {b0 b : Nat} {S S1 : cS} (h0 : S1.1 b = S.1 b) (hn : S1.2.1 b = S.2.1 b) (h1 : S1.2.2.1 b = S.2.2.1 b) (h2 : S1.2.2.2 b = S.2.2.2 b) : cCell dA b0 S1 b = cCell dA b0 S b := by
  have hk : ck b0 S1 b = ck b0 S b := by simp only [ck, h0]
  simp only [cCell, hk, hn, h1, h2, cFl_cong h1 h2]
/-! what stays: links across the nest, statics, constants -/
abbrev bA (b0 : Nat) : Nat → Prop := fun q => b0 ≤ q
def isNest (w : Cond) : Bool := match w with
  | .fieldLinkNest _ _ _ _ _ _ => true
  | .methodLinkNest _ _ _ _ => true
  | _ => false
def nwA : List Cond := tables_1.filter isNest
def daysL : List Int32 := [31, 28, 31, 30, 31, 30, 31, 31, 30, 31, 30, 31]
def daysT (i : Int32) : Option Int32 := if 0 ≤ i.toInt ∧ i.toInt < 12 then some (daysL.getD i.toNatClampNeg 0) else none
def litL : List (String × Nat × String) := [("TableText$Reader", 162, "true"), ("TableText$Reader", 167, "false"), ("TableText$Page", 114, "\\n"), ("TableText$Page", 116, "\\t"), ("TableText$Page", 41, " = "), ("TableText$Page", 69, "true"), ("TableText$Page", 71, "false"), ("TableText$Page", 93, "\n"), ("TableText$Page", 95, ", ")]
/-- words that are not among the good ones, and stay all the same -/
def exN (k : Nat) : String := match k with
  | 0 => "java/lang/IllegalArgumentException" | 1 => "java/lang/IllegalStateException" | _ => "java/lang/IndexOutOfBoundsException"
def exW : List Cond := [.castable "TableText$Node" "java/lang/Object", .castable "[B" "java/lang/Cloneable",
  .selects "java/lang/StringBuilder" ⟨"java/lang/AbstractStringBuilder", "ensureCapacityInternal", "(I)V"⟩ ⟨"java/lang/AbstractStringBuilder", "ensureCapacityInternal", "(I)V"⟩, .selects "java/lang/StringBuilder" ⟨"java/lang/AbstractStringBuilder", "newCapacity", "(I)I"⟩ ⟨"java/lang/AbstractStringBuilder", "newCapacity", "(I)I"⟩,
  .declares ⟨"java/lang/RuntimeException", "<init>", "()V"⟩, .declares ⟨"java/lang/Exception", "<init>", "()V"⟩, .declares ⟨"java/lang/Throwable", "<init>", "()V"⟩,
  .castable (exN 0) (exN 0), .castable (exN 1) (exN 1), .castable (exN 2) (exN 2), .not (.castable (exN 1) (exN 0)), .not (.castable (exN 2) (exN 1))]
theorem ex_at {s : State} (h : ∀ w ∈ exW, va_Nw w s) (i : Nat) {w : Cond} (hi : exW[i]? = some w) : va_Nw w s := h w (List.mem_of_getElem? hi)
/-- a static field, whose cell lies below b0 -/
def lsT (b0 : Nat) (C n d : String) (s : State) : Prop := ∃ (c : ClassId) (k : Class) (i : Nat) (f : Field) (a : Nat) (cell : Cell), s.vm.findClass C = some c ∧ s.fieldFound? C n d = some (c, k, i, f) ∧ f.isStatic = true ∧ k.statics = some a ∧ s.heap[a]? = some cell ∧ cell.vm.isStatics = true ∧ cell.cls = c ∧
  f.slot < cell.slots.size ∧ k.staticTypes[f.slot]? = some f.type ∧ a < b0
theorem lsT.use {b0 : Nat} {C n d : String} {s : State} {args : Array Value} (h : lsT b0 C n d s) : (Cond.laysStatic C n d).before args s = true := by
  obtain ⟨c, k, i, f, a, cell, h1, h2, h3, h4, h5, h6, h7, h8, h9, -⟩ := h
  exact Cond.laysStatic_of h1 h2 h3 h4 h5 h6 h7 h8 h9
def ZX (b0 : Nat) (K : cS) (s : State) : Prop :=
  (∀ w ∈ nwA, va_Nw w s) ∧ va_Z "java/lang/String" "COMPACT_STRINGS" "Z" (.int 1) (bA b0) s s.heap ∧
  (∃ d : Nat, K.2.2.2 0 102 = some d ∧ va_Z "java/util/ArrayList" "DEFAULTCAPACITY_EMPTY_ELEMENTDATA" "[Ljava/lang/Object;" (.ref d) (bA b0) s s.heap) ∧
  va_Z "jdk/internal/util/Preconditions" "SIOOBE_FORMATTER" "Ljava/util/function/BiFunction;" (va_rf (K.2.2.2 0 100)) (bA b0) s s.heap ∧
  (∃ d : Nat, va_Z "TableText" "DAYS" "[I" (.ref d) (bA b0) s s.heap ∧ va_T .int d 12 (fun j => .int (daysL.getD j 0)) (bA b0) s s.heap) ∧
  (∀ a : Nat, a < b0 → K.1 a = 0 ∨ K.1 a = 6 ∨ K.1 a = 12 ∨ K.1 a = 13) ∧
  (∀ a : Nat, a < b0 → K.1 a = 6 → va_O "java/lang/String" a (bA b0) s s.heap ∧ ∀ (k : Nat) (v : Value), (cFl 6 K a)[k]? = some v → va_OF (TZ6 k).1 (TZ6 k).2.1 (TZ6 k).2.2.1 v a (bA b0) s s.heap) ∧
  (∀ a : Nat, a < b0 → K.1 a = 12 → va_T .byte a (K.2.1 a) (fun j => .int (K.2.2.1 a j)) (bA b0) s s.heap) ∧
  (∀ a : Nat, a < b0 → K.1 a = 13 → va_T (.object "java/lang/Object") a (K.2.1 a) (fun j => va_rf (K.2.2.2 a j)) (bA b0) s s.heap) ∧
  (∀ (j : Nat) (q : String × Nat × String), litL[j]? = some q → ∃ a : Nat, K.2.2.2 0 (j + 1) = some a ∧ vk_R q.1 q.2.1 q.2.2 a s) ∧
  va_Dc s ∧ va_AO "java/lang/Object" s ∧ (∃ mi : Nat, K.2.2.2 0 101 = some mi ∧ va_Mi "[Ljava/lang/Object;" mi s) ∧
  va_Zq "java/lang/Throwable" "UNASSIGNED_STACK" "[Ljava/lang/StackTraceElement;" (bA b0) s s.heap ∧ va_Zq "java/lang/Throwable" "SUPPRESSED_SENTINEL" "Ljava/util/List;" (bA b0) s s.heap ∧
  (∀ w ∈ exW, va_Nw w s) ∧ lsT b0 "java/lang/Throwable" "UNASSIGNED_STACK" "[Ljava/lang/StackTraceElement;" s ∧ lsT b0 "java/lang/Throwable" "SUPPRESSED_SENTINEL" "Ljava/util/List;" s
def CR (b0 : Nat) (K : cS) (Z : State → Prop) : Prop := ZC b0 Z ∧ ∀ s, Z s → ZX b0 K s
section KX
variable {p : Program} {l : Launch} {e : Env} {R : Room} {s : State} {m : MethodId} {args : Array Value} {below : List Frame} {meth : Method} {c : Code} {H : Heap} {locs : List Loc} {cells slots : Nat} {Q : State → Prop}
variable {cc : ByteArray} {pc : Nat} {ls : Array Slot} {rest : List Value} {D : va_G} {dA : Nat → ClassId} {hp0 : aH} {sz b0 nL : Nat} {cd : Cond} {ret : Option FieldType} {K S S1 : cS} {Z : State → Prop} {own ref : String}
theorem k_get {z k index a : Nat} {v : Value} (B : BX p m c cc nL s args (cd :: wsA) own meth ret D vwCl (tyL dA) b0 Z) (hR : CR b0 K Z) (I : AI D vwCl b0 (cH dA b0 S hp0) sz s.heap H locs) (hz : 1 ≤ z ∧ z ≤ 8) (hk : k < cNn z) (hlink : Cond.fieldLink own index ref (cT z k).2.1 (cT z k).2.2.1 ∈ wsA) (hsame : (cT z k).1 = ref) (h : kd b0 K S a = z) (hv : (cFl z (eK b0 K S a) a)[k]? = some v) (hdg : decode cc pc = .ok (.getfield index, 3))
    (kk : W p l e R s m args below meth c H locs cells slots Q (F0 m (pc + 3) ls (v :: rest))) : W p l e R s m args below meth c H locs cells slots Q (F0 m pc ls (.ref a :: rest)) := by
  by_cases ha : a < b0
  · unfold kd at h
    unfold eK at hv
    rw [if_pos ha] at h hv
    have X := hR.2 s B.2.2.2.2.1
    obtain ⟨-, -, -, -, -, x0, x6, -⟩ := X
    have h6 : z = 6 := by rcases x0 a ha with q | q | q | q <;> omega
    subst h6
    exact vk_getf B.1.1 B.1.2.1 ((x6 a ha h).2 k v hv) I.2.2.2 B.1.2.2.2.1 (B.1.2.2.2.2 _ (List.mem_cons_of_mem _ hlink)) (fun x hx => by rw [← hsame]; exact hx) hdg kk
  · unfold kd at h
    unfold eK at hv
    rw [if_neg ha] at h hv
    exact q_get B I (fun w hw => List.mem_cons_of_mem _ (wsA_c hz w hw)) (cH_o hz h) (hcC hz) k hk (List.mem_cons_of_mem _ hlink) hsame hv hdg kk
theorem k_getI {z k index a : Nat} {x : Int32} (B : BX p m c cc nL s args (cd :: wsA) own meth ret D vwCl (tyL dA) b0 Z) (hR : CR b0 K Z) (I : AI D vwCl b0 (cH dA b0 S hp0) sz s.heap H locs) (hz : 1 ≤ z ∧ z ≤ 8) (hk : k < cNn z) (hlink : Cond.fieldLink own index ref (cT z k).2.1 (cT z k).2.2.1 ∈ wsA) (hsame : (cT z k).1 = ref) (hv : ∀ (S : cS) (a : Nat), (cFl z S a)[k]? = some (.int (S.2.2.1 a k))) (e1 : gI b0 K S z k a = some x) (hdg : decode cc pc = .ok (.getfield index, 3))
    (kk : W p l e R s m args below meth c H locs cells slots Q (F0 m (pc + 3) ls (.int x :: rest))) : W p l e R s m args below meth c H locs cells slots Q (F0 m pc ls (.ref a :: rest)) := by
  unfold gI at e1
  by_cases h : kd b0 K S a = z
  · rw [if_pos h] at e1
    cases e1
    exact k_get B hR I hz hk hlink hsame h (hv _ a) hdg kk
  · rw [if_neg h] at e1
    cases e1
theorem k_getR {z k index a : Nat} {x : Option Nat} (B : BX p m c cc nL s args (cd :: wsA) own meth ret D vwCl (tyL dA) b0 Z) (hR : CR b0 K Z) (I : AI D vwCl b0 (cH dA b0 S hp0) sz s.heap H locs) (hz : 1 ≤ z ∧ z ≤ 8) (hk : k < cNn z) (hlink : Cond.fieldLink own index ref (cT z k).2.1 (cT z k).2.2.1 ∈ wsA) (hsame : (cT z k).1 = ref) (hv : ∀ (S : cS) (a : Nat), (cFl z S a)[k]? = some (va_rf (S.2.2.2 a k))) (e1 : gR b0 K S z k a = some x) (hdg : decode cc pc = .ok (.getfield index, 3))
    (kk : W p l e R s m args below meth c H locs cells slots Q (F0 m (pc + 3) ls (va_rf x :: rest))) : W p l e R s m args below meth c H locs cells slots Q (F0 m pc ls (.ref a :: rest)) := by
  unfold gR at e1
  by_cases h : kd b0 K S a = z
  · rw [if_pos h] at e1
    cases e1
    exact k_get B hR I hz hk hlink hsame h (hv _ a) hdg kk
  · rw [if_neg h] at e1
    cases e1
end KX
