/-! The constants at the law's entry. -/
section KS
variable {b0 : Nat} {s : State} {args : Array Value}
def litT (j : Nat) : List Int32 := match j with
  | 0 => trueL | 1 => falseL | 2 => [92, 110] | 3 => [92, 116] | 4 => [32, 61, 32] | 5 => trueL | 6 => falseL | 7 => [10] | _ => [44, 32]
theorem litT_len {j : Nat} : (litT j).length < 100 := by
  unfold litT; split <;> decide
theorem litT_asc {j : Nat} : ∀ c ∈ litT j, 0 ≤ c.toInt ∧ c.toInt < 128 := by
  unfold litT; split <;> decide
/-- A literal: its String, its bytes. -/
def LitAt (b0 : Nat) (s : State) (l : List Int32) (a v : Nat) : Prop :=
  va_O "java/lang/String" a (bA b0) s s.heap ∧ va_OF "java/lang/String" "value" "[B" (.ref v) a (bA b0) s s.heap ∧ va_OF "java/lang/String" "coder" "B" (.int 0) a (bA b0) s s.heap ∧ va_T .byte v l.length (fun j => .int (l.getD j 0)) (bA b0) s s.heap
theorem lit_at {own tx : String} {k : Nat} {l : List Int32} (hA : ∀ a : Nat, a < s.heap.size → ¬ bA b0 a) (hl : l.length < 100) (href : (Cond.stringRef own k tx).before args s = true) (hex : (Cond.exactly (.string own k) "java/lang/String").before args s = true) (hco : (Cond.eq (.field (.string own k) "java/lang/String" "coder" "B") (.int 0)).before args s = true)
    (harr : (Cond.arrayOf (.field (.string own k) "java/lang/String" "value" "[B") .byte).before args s = true) (hlen : (Cond.eq (.length (.field (.string own k) "java/lang/String" "value" "[B")) (.int (Int32.ofNat l.length))).before args s = true)
    (hel : ∀ j : Nat, j < l.length → (Cond.eq (.elem (.field (.string own k) "java/lang/String" "value" "[B") (.int (Int32.ofNat j))) (.int (l.getD j 0))).before args s = true) : ∃ a v, vk_R own k tx a s ∧ LitAt b0 s l a v := by
  obtain ⟨a, c, cA, kA, q1, -⟩ := Cond.exactly_spec (args := args) (first := s) (o := none) (s := s) (idx := []) (t := .string own k) (cls := "java/lang/String") hex
  obtain ⟨v, hv, hT⟩ := va_Tof (f := fun j => .int (l.getD j 0)) (A := bA b0) (by omega) harr (va_eqt hlen) (fun j hj => va_eqt (hel j hj)) hA
  exact ⟨a, v, vk_R.of href q1, va_Oof hex q1 hA, vk_OFof q1 hv hA, vk_OFof q1 (va_eqt hco) hA, hT⟩
theorem va_OF_inj {o n d : String} {v v' : Value} {t : Nat} {A : Nat → Prop} {H : Heap} (h : va_OF o n d v t A s H) (h' : va_OF o n d v' t A s H) : v = v' := by
  obtain ⟨cf, k, i, f, cell, h1, h2, h3, h4, h5, h6⟩ := h
  obtain ⟨cf', k', i', f', cell', g1, g2, g3, g4, g5, g6⟩ := h'
  cases h1.symm.trans g1
  cases h3.symm.trans g3
  exact Option.some.inj (h5.symm.trans g5)
theorem va_T_inj {ty : FieldType} {t n n' : Nat} {f f' : Nat → Value} {A : Nat → Prop} {H : Heap} (hn : n < 2 ^ 31) (hn' : n' < 2 ^ 31) (h : va_T ty t n f A s H) (h' : va_T ty t n' f' A s H) : n = n' ∧ ∀ j, j < n → f j = f' j := by
  obtain ⟨cell, h1, h2, h3, h4, h5, h6, h7⟩ := h
  obtain ⟨cell', g1, g2, g3, g4, g5, g6, g7⟩ := h'
  cases h1.symm.trans g1
  have e : n = n' := (nI_eq hn hn').mp (h5.symm.trans g5)
  subst e
  exact ⟨rfl, fun j hj => Option.some.inj ((h6 j hj).symm.trans (g6 j hj))⟩
theorem va_O_T {ty : FieldType} {t n : Nat} {f : Nat → Value} {A : Nat → Prop} {H : Heap} {C : String} {cC : ClassId} (hC : ClassAt s C cC) (h : va_O C t A s H) (h' : va_T ty t n f A s H) : False := by
  obtain ⟨cell, h1, h2, h3, h4⟩ := h
  obtain ⟨cell', g1, ⟨-, k, g2, comp, g3⟩, -⟩ := h'
  cases h1.symm.trans g1
  obtain ⟨c1, kC, c2, c3⟩ := hC
  have e : cC = cell.cls := Option.some.inj (c1.symm.trans h3)
  subst e
  have e2 : kC = k := Option.some.inj (c2.symm.trans g2)
  subst e2
  rw [c3] at g3
  cases g3
theorem va_T_T {ty ty' : FieldType} {t n n' : Nat} {f f' : Nat → Value} {A : Nat → Prop} {H : Heap} (hne : ty ≠ ty') (h : va_T ty t n f A s H) (h' : va_T ty' t n' f' A s H) : False := by
  obtain ⟨cell, h1, ⟨-, k, h2, comp, h3⟩, -⟩ := h
  obtain ⟨cell', g1, ⟨-, k', g2, comp', g3⟩, -⟩ := h'
  cases h1.symm.trans g1
  cases h2.symm.trans g2
  rw [h3] at g3
  cases g3
  exact hne rfl
/-- which of the nine lies there -/
def fO (A : Nat → Nat) (a : Nat) : Option Nat := (List.range 9).find? (fun j => A j == a)
theorem fO_some {A : Nat → Nat} {a j : Nat} (h : fO A a = some j) : j < 9 ∧ A j = a := by
  have h1 := List.find?_some h
  have h2 := List.mem_of_find?_eq_some h
  exact ⟨List.mem_range.mp h2, by simpa using h1⟩
theorem fO_at {A : Nat → Nat} {j : Nat} (hj : j < 9) : ∃ i, fO A (A j) = some i := by
  cases h : fO A (A j) with
  | some i => exact ⟨i, rfl⟩
  | none =>
    have := List.find?_eq_none.mp h j (List.mem_range.mpr hj)
    simp at this
def kOf (A V : Nat → Nat) (d mi : Nat) (sb : Option Nat) : cS :=
  (fun a => if a = d then 13 else match fO A a with
    | some _ => 6
    | none => match fO V a with
      | some _ => 12
      | none => 0,
   fun a => if a = d then 0 else match fO V a with
    | some j => (litT j).length
    | none => 0,
   fun a k => match fO A a with
    | some _ => 0
    | none => match fO V a with
      | some j => (litT j).getD k 0
      | none => 0,
   fun a k => if a = 0 ∧ k ≠ 0 then (if k = 102 then some d else if k = 100 then sb else if k = 101 then some mi else some (A (k - 1))) else match fO A a with
    | some j => some (V j)
    | none => none)
variable {A V : Nat → Nat} {d mi : Nat} {sb : Option Nat}
theorem kOf_key {k : Nat} (hk : k ≠ 0) : (kOf A V d mi sb).2.2.2 0 k = if k = 102 then some d else if k = 100 then sb else if k = 101 then some mi else some (A (k - 1)) := by
  unfold kOf; exact if_pos ⟨rfl, hk⟩
theorem kOf_lit {j : Nat} (hj : j < 9) : (kOf A V d mi sb).2.2.2 0 (j + 1) = some (A j) := by
  rw [kOf_key (by omega), if_neg (by omega), if_neg (by omega), if_neg (by omega)]; rfl
theorem kOf_v {a : Nat} : (kOf A V d mi sb).2.2.2 a 0 = match fO A a with
    | some j => some (V j)
    | none => none := by
  unfold kOf; simp only; rw [if_neg (fun h => h.2 rfl)]
section KS2
variable {cC : ClassId} {n : Nat} {f : Nat → Value}
theorem kA_d (hC : ClassAt s "java/lang/String" cC) (hd : va_T (.object "java/lang/Object") d 0 f (bA b0) s s.heap) (hL : ∀ j, j < 9 → LitAt b0 s (litT j) (A j) (V j)) {j : Nat} (hj : j < 9) : A j ≠ d := fun e => va_O_T hC (hL j hj).1 (e ▸ hd)
theorem kV_d (hC : ClassAt s "java/lang/String" cC) (hd : va_T (.object "java/lang/Object") d 0 f (bA b0) s s.heap) (hL : ∀ j, j < 9 → LitAt b0 s (litT j) (A j) (V j)) {j : Nat} (hj : j < 9) : V j ≠ d := fun e => va_T_T (by decide) (hL j hj).2.2.2 (e ▸ hd)
theorem kA_V (hC : ClassAt s "java/lang/String" cC) (hd : va_T (.object "java/lang/Object") d 0 f (bA b0) s s.heap) (hL : ∀ j, j < 9 → LitAt b0 s (litT j) (A j) (V j)) {i j : Nat} (hi : i < 9) (hj : j < 9) : A i ≠ V j := fun e => va_O_T hC (hL i hi).1 (e ▸ (hL j hj).2.2.2)
theorem kV_none (hC : ClassAt s "java/lang/String" cC) (hd : va_T (.object "java/lang/Object") d 0 f (bA b0) s s.heap) (hL : ∀ j, j < 9 → LitAt b0 s (litT j) (A j) (V j)) {j : Nat} (hj : j < 9) : fO A (V j) = none := by
  cases h : fO A (V j) with
  | none => rfl
  | some i => exact absurd (fO_some h).2 (kA_V hC hd hL (fO_some h).1 hj)
theorem kA_at (hC : ClassAt s "java/lang/String" cC) (hd : va_T (.object "java/lang/Object") d 0 f (bA b0) s s.heap) (hL : ∀ j, j < 9 → LitAt b0 s (litT j) (A j) (V j)) {j : Nat} (hj : j < 9) : ∃ i, fO A (A j) = some i ∧ V i = V j := by
  obtain ⟨i, hi⟩ := fO_at (A := A) hj
  obtain ⟨h9, e⟩ := fO_some hi
  have h1 := (hL i h9).2.1
  rw [e] at h1
  exact ⟨i, hi, Value.ref.inj (va_OF_inj h1 (hL j hj).2.1)⟩
theorem kV_at (hC : ClassAt s "java/lang/String" cC) (hd : va_T (.object "java/lang/Object") d 0 f (bA b0) s s.heap) (hL : ∀ j, j < 9 → LitAt b0 s (litT j) (A j) (V j)) {j : Nat} (hj : j < 9) : ∃ i, fO V (V j) = some i ∧ (litT i).length = (litT j).length ∧ ∀ k, k < (litT j).length → (litT i).getD k 0 = (litT j).getD k 0 := by
  obtain ⟨i, hi⟩ := fO_at (A := V) hj
  obtain ⟨h9, e⟩ := fO_some hi
  have h1 := (hL i h9).2.2.2
  rw [e] at h1
  have hl1 := litT_len (j := i)
  have hl2 := litT_len (j := j)
  obtain ⟨g1, g2⟩ := va_T_inj (by omega) (by omega) h1 (hL j hj).2.2.2
  exact ⟨i, hi, g1, fun k hk => Value.int.inj (g2 k (by omega))⟩
theorem kOf_str (hC : ClassAt s "java/lang/String" cC) (hd : va_T (.object "java/lang/Object") d 0 f (bA b0) s s.heap) (hL : ∀ j, j < 9 → LitAt b0 s (litT j) (A j) (V j)) (hlt : ∀ j, j < 9 → A j < b0 ∧ V j < b0) {j : Nat} (hj : j < 9) : Lit b0 (kOf A V d mi sb) j (litT j) := by
  obtain ⟨i, hi, hv⟩ := kA_at hC hd hL hj
  obtain ⟨i', hi', hn, he⟩ := kV_at hC hd hL hj
  obtain ⟨la, lv⟩ := hlt j hj
  refine ⟨A j, kOf_lit hj, la, fun S => ⟨?_, ?_, by have := litT_len (j := j); omega, fun k c hk => litT_asc c (List.mem_of_getElem? hk), V j, ?_, ?_, ?_, ?_⟩⟩
  · unfold kd; rw [if_pos la]; unfold kOf; simp only [if_neg (kA_d hC hd hL hj), hi]
  · unfold eK; rw [if_pos la]; unfold kOf; simp only [hi]
  · unfold eK; rw [if_pos la, kOf_v, hi]; simp only [hv]
  · unfold kd; rw [if_pos lv]; unfold kOf; simp only [if_neg (kV_d hC hd hL hj), kV_none hC hd hL hj, hi']
  · unfold eK; rw [if_pos lv]; unfold kOf; simp only [if_neg (kV_d hC hd hL hj), hi', hn]
  · intro k c hk
    have hk9 : k < (litT j).length := (List.getElem?_eq_some_iff.mp hk).1
    unfold eK; rw [if_pos lv]; unfold kOf; simp only [kV_none hC hd hL hj, hi', he k hk9]
    rw [List.getD_eq_getElem?_getD, hk]; rfl
theorem kOf_kinds (hC : ClassAt s "java/lang/String" cC) (hd : va_T (.object "java/lang/Object") d 0 f (bA b0) s s.heap) (hL : ∀ j, j < 9 → LitAt b0 s (litT j) (A j) (V j)) : ∀ a : Nat, (kOf A V d mi sb).1 a = 0 ∨ (kOf A V d mi sb).1 a = 6 ∨ (kOf A V d mi sb).1 a = 12 ∨ (kOf A V d mi sb).1 a = 13 := by
  intro a
  unfold kOf; simp only
  split
  · exact .inr (.inr (.inr rfl))
  · split
    · exact .inr (.inl rfl)
    · split
      · exact .inr (.inr (.inl rfl))
      · exact .inl rfl
theorem kOf_6 (hC : ClassAt s "java/lang/String" cC) (hd : va_T (.object "java/lang/Object") d 0 f (bA b0) s s.heap) (hL : ∀ j, j < 9 → LitAt b0 s (litT j) (A j) (V j)) : ∀ a : Nat, (kOf A V d mi sb).1 a = 6 → va_O "java/lang/String" a (bA b0) s s.heap ∧ ∀ (k : Nat) (v : Value), (cFl 6 (kOf A V d mi sb) a)[k]? = some v → va_OF (TZ6 k).1 (TZ6 k).2.1 (TZ6 k).2.2.1 v a (bA b0) s s.heap := by
  intro a h
  have hx : ∃ i, fO A a = some i := by
    unfold kOf at h; simp only at h
    split at h
    · cases h
    · split at h
      · rename_i i hi; exact ⟨i, hi⟩
      · split at h <;> cases h
  obtain ⟨i, hi⟩ := hx
  obtain ⟨h9, e⟩ := fO_some hi
  obtain ⟨g1, g2, g3, -⟩ := hL i h9
  rw [e] at g1 g2 g3
  refine ⟨g1, fun k v hk => ?_⟩
  have e0 : (kOf A V d mi sb).2.2.2 a 0 = some (V i) := by rw [kOf_v, hi]
  have e1 : (kOf A V d mi sb).2.2.1 a 1 = 0 := by unfold kOf; simp only [hi]
  match k, hk with
  | 0, hk =>
    have : v = .ref (V i) := by
      have := Option.some.inj hk
      rw [← this, e0]; rfl
    rw [this]; exact g2
  | 1, hk =>
    have : v = .int 0 := by
      have := Option.some.inj hk
      rw [← this, e1]
    rw [this]; exact g3
  | k + 2, hk => cases hk
theorem kOf_12 (hC : ClassAt s "java/lang/String" cC) (hd : va_T (.object "java/lang/Object") d 0 f (bA b0) s s.heap) (hL : ∀ j, j < 9 → LitAt b0 s (litT j) (A j) (V j)) : ∀ a : Nat, (kOf A V d mi sb).1 a = 12 → va_T .byte a ((kOf A V d mi sb).2.1 a) (fun j => .int ((kOf A V d mi sb).2.2.1 a j)) (bA b0) s s.heap := by
  intro a h
  have hx : a ≠ d ∧ fO A a = none ∧ ∃ i, fO V a = some i := by
    unfold kOf at h; simp only at h
    split at h
    · cases h
    · rename_i hne
      split at h
      · cases h
      · rename_i hn
        split at h
        · rename_i i hi; exact ⟨hne, hn, i, hi⟩
        · cases h
  obtain ⟨hne, hn, i, hi⟩ := hx
  obtain ⟨h9, e⟩ := fO_some hi
  have g := (hL i h9).2.2.2
  rw [e] at g
  have e1 : (kOf A V d mi sb).2.1 a = (litT i).length := by unfold kOf; simp only [if_neg hne, hi]
  have e2 : ∀ j, (kOf A V d mi sb).2.2.1 a j = (litT i).getD j 0 := fun j => by unfold kOf; simp only [hn, hi]
  rw [e1]
  simp only [e2]
  exact g
theorem kOf_13 (hC : ClassAt s "java/lang/String" cC) (hd : va_T (.object "java/lang/Object") d 0 f (bA b0) s s.heap) (hL : ∀ j, j < 9 → LitAt b0 s (litT j) (A j) (V j)) : ∀ a : Nat, (kOf A V d mi sb).1 a = 13 → va_T (.object "java/lang/Object") a ((kOf A V d mi sb).2.1 a) (fun j => va_rf ((kOf A V d mi sb).2.2.2 a j)) (bA b0) s s.heap := by
  intro a h
  have hx : a = d := by
    unfold kOf at h; simp only at h
    split at h
    · assumption
    · split at h
      · cases h
      · split at h <;> cases h
  subst hx
  have e1 : (kOf A V a mi sb).2.1 a = 0 := by unfold kOf; simp only [if_pos]
  rw [e1]
  obtain ⟨cell, h1, h2, h3, h4, h5, h6, h7⟩ := hd
  exact ⟨cell, h1, h2, h3, h4, h5, fun j hj => absurd hj (Nat.not_lt_zero _), h7⟩
theorem kOf_KF (hC : ClassAt s "java/lang/String" cC) (hd : va_T (.object "java/lang/Object") d 0 f (bA b0) s s.heap) (hL : ∀ j, j < 9 → LitAt b0 s (litT j) (A j) (V j)) (hlt : ∀ j, j < 9 → A j < b0 ∧ V j < b0) (hdl : d < b0) : KF b0 (kOf A V d mi sb) := by
  have L := fun j (hj : j < 9) => kOf_str (mi := mi) (sb := sb) hC hd hL hlt hj
  refine ⟨⟨mi, by rw [kOf_key (by decide)]; rfl⟩, ⟨d, by rw [kOf_key (by decide)]; rfl, hdl, by unfold kOf; simp only [if_pos], by unfold kOf; simp only [if_pos]⟩, L 0 (by decide), L 1 (by decide), L 2 (by decide), L 3 (by decide), L 4 (by decide), L 5 (by decide), L 6 (by decide), L 7 (by decide), L 8 (by decide)⟩
end KS2
end KS
