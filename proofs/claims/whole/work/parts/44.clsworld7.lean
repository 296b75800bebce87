/-! The class's world, on: copies of arrays, clones, arrays of references, class objects. -/
def cpB (b0 : Nat) (S : cS) (a0 : Nat) (sp : Int32) (a : Nat) (dp k : Int32) : Option cS :=
  if (ck b0 S a0 = 12 ∧ ck b0 S a = 12) ∧ (¬ sp < 0 ∧ ¬ dp < 0 ∧ ¬ k < 0) ∧ (sp.toNatClampNeg + k.toNatClampNeg ≤ S.2.1 a0 ∧ dp.toNatClampNeg + k.toNatClampNeg ≤ S.2.1 a) ∧ (∀ i, i < k.toNatClampNeg → fits .byte (.int (S.2.2.1 a0 (sp.toNatClampNeg + i))) = true)
  then some (S.1, S.2.1, va_up S.2.2.1 a (va_cpy (S.2.2.1 a0) (S.2.2.1 a) sp.toNatClampNeg dp.toNatClampNeg k.toNatClampNeg), S.2.2.2) else none
/-- what may lie in an array of objects: null, or a node -/
def isN (b0 : Nat) (S : cS) (r : Option Nat) : Bool := match r with
  | none => true
  | some y => ck b0 S y == 2
def cpR (b0 : Nat) (S : cS) (a0 : Nat) (sp : Int32) (a : Nat) (dp k : Int32) : Option cS :=
  if (ck b0 S a0 = 13 ∧ ck b0 S a = 13) ∧ (¬ sp < 0 ∧ ¬ dp < 0 ∧ ¬ k < 0) ∧ (sp.toNatClampNeg + k.toNatClampNeg ≤ S.2.1 a0 ∧ dp.toNatClampNeg + k.toNatClampNeg ≤ S.2.1 a) ∧ (∀ i, i < k.toNatClampNeg → isN b0 S (S.2.2.2 a0 (sp.toNatClampNeg + i)) = true)
  then some (S.1, S.2.1, S.2.2.1, va_up S.2.2.2 a (va_cpy (S.2.2.2 a0) (S.2.2.2 a) sp.toNatClampNeg dp.toNatClampNeg k.toNatClampNeg)) else none
def cLb (b0 : Nat) (S : cS) (a0 a : Nat) : Option cS :=
  if (b0 ≤ a ∧ ¬ (b0 + 5 ≤ a ∧ a < b0 + 26)) ∧ ck b0 S a0 = 12 ∧ ∀ i, i < S.2.1 a0 → fits .byte (.int (S.2.2.1 a0 i)) = true
  then some (va_up S.1 a 12, va_up S.2.1 a (S.2.1 a0), va_up S.2.2.1 a (S.2.2.1 a0), va_up S.2.2.2 a (fun _ => none)) else none
section KK
variable {p : Program} {l : Launch} {e : Env} {R : Room} {s : State} {m : MethodId} {args : Array Value} {below : List Frame} {meth : Method} {c : Code} {H : Heap} {locs : List Loc} {cells slots : Nat} {Q : State → Prop}
variable {cc : ByteArray} {pc : Nat} {ls : Array Slot} {rest : List Value} {D : va_G} {dA : Nat → ClassId} {hp0 hp : aH} {sz b0 nL : Nat} {cd : Cond} {ret : Option FieldType} {K S S1 : cS} {Z : State → Prop} {own host : String} {cl : List vw_C} {tys : List (ClassId × FieldType)} {Ts : List Cond} {H0 : Heap}
variable {rv : Option Value} {index n maxL fr lo mc ms b z : Nat} {x y y0 : MethodName} {bytes : ByteArray} {retc : Option FieldType} {As st0 : List Value} {lo0 : List (Option Value)}
theorem k_copyb {a0 a : Nat} {sp dp k : Int32} (B : BX p m c cc nL s args (cd :: wsA) own meth ret D vwCl (tyL dA) b0 Z) (hl : lx ls lo0) (hlo : lo0.length = nL) (I : AI D vwCl b0 (cH dA b0 S hp0) sz s.heap H locs)
    (hlink : Cond.methodLink own index arraycopyName ∈ wsA) (hnat : Cond.native arraycopyName ∈ wsA) (hstat : Cond.static arraycopyName ∈ wsA) (hini : Cond.initialized "java/lang/System" ∈ wsA) (e1 : cpB b0 S a0 sp a dp k = some S1)
    (hframes : 1 ≤ R.frames) (hlocals : (rest.map fun v => v.category).sum + (nativeFrameWords "java/lang/System" "arraycopy" 5 + 11) ≤ R.locals) (hdg : decode cc pc = .ok (.invokestatic index, 3))
    (kk : ∀ (H1 : Heap) (locs1 : List Loc), AI D vwCl b0 (cH dA b0 S1 hp0) sz s.heap H1 locs1 → W p l e R s m args below meth c H1 locs1 cells slots Q (F0 m (pc + 3) ls rest)) : W p l e R s m args below meth c H locs cells slots Q (F0 m pc ls (.int k :: .int dp :: .ref a :: .int sp :: .ref a0 :: rest)) := by
  unfold cpB at e1
  split at e1
  · rename_i h
    cases e1
    obtain ⟨⟨h1, h2⟩, ⟨h3, h4, h5⟩, ⟨h6, h7⟩, h8⟩ := h
    refine q_copyb (t0 := 2) B hl hlo I (List.mem_cons_of_mem _ hlink) (List.mem_cons_of_mem _ hnat) (List.mem_cons_of_mem _ hstat) (List.mem_cons_of_mem _ hini) (cH_b h1) (cH_b h2) (ck_b (by decide) h2) rfl rfl h3 h4 h5 h6 h7 h8 hframes hlocals hdg fun H1 locs1 J => kk H1 locs1 (J.of ?_)
    refine cH_up ?_ (fun b hb => cCell_cong rfl rfl (va_up_ne _ _ hb) rfl)
    have := cH_b (dA := dA) (hp0 := hp0) (b0 := b0) (a := a) (S := (S.1, S.2.1, va_up S.2.2.1 a (va_cpy (S.2.2.1 a0) (S.2.2.1 a) sp.toNatClampNeg dp.toNatClampNeg k.toNatClampNeg), S.2.2.2)) h2
    rw [this]
    simp [va_up]
  · cases e1
theorem k_clone {a : Nat} (B : BX p m c cc nL s args (cd :: wsA) own meth ret D vwCl (tyL dA) b0 Z) (hR : CR b0 K Z) (hl : lx ls lo0) (hlo : lo0.length = nL) (I : AI D vwCl b0 (cH dA b0 S hp0) sz s.heap H locs)
    (hlink : Cond.methodLink own index ⟨"[B", "clone", "()Ljava/lang/Object;"⟩ ∈ wsA) (hsame : Cond.sameMethod "[B" "java/lang/Object" "clone" "()Ljava/lang/Object;" ∈ wsA) (hnat : Cond.native ⟨"java/lang/Object", "clone", "()Ljava/lang/Object;"⟩ ∈ wsA) (hinst : Cond.instanceMethod ⟨"java/lang/Object", "clone", "()Ljava/lang/Object;"⟩ ∈ wsA)
    (hsel : Cond.selects "[B" ⟨"[B", "clone", "()Ljava/lang/Object;"⟩ ⟨"java/lang/Object", "clone", "()Ljava/lang/Object;"⟩ ∈ wsA) (e1 : cLb b0 S a sz = some S1)
    (hframes : 1 ≤ R.frames) (hlocals : (rest.map fun v => v.category).sum + 14 ≤ R.locals) (hcells : cells + 1 ≤ R.cells) (hslots : slots + S.2.1 a ≤ R.slots) (hdg : decode cc pc = .ok (.invokevirtual index, 3))
    (kk : ∀ H1 : Heap, AI D vwCl b0 (cH dA b0 S1 hp0) (sz + 1) s.heap H1 locs → W p l e R s m args below meth c H1 locs (cells + 1) (slots + S.2.1 a) Q (F0 m (pc + 3) ls (.ref sz :: rest))) : W p l e R s m args below meth c H locs cells slots Q (F0 m pc ls (.ref a :: rest)) := by
  have X17 := ex_at (hR.2 s B.2.2.2.2.1).2.2.2.2.2.2.2.2.2.2.2.2.2.2.2.1 1 rfl
  unfold cLb at e1
  split at e1
  · rename_i h
    cases e1
    obtain ⟨h1, h2, h3⟩ := h
    refine q_clone (t0 := 2) (ty := .byte) B hl hlo I (List.mem_cons_of_mem _ hlink) (List.mem_cons_of_mem _ hsame) (List.mem_cons_of_mem _ hnat) (List.mem_cons_of_mem _ hinst) (List.mem_cons_of_mem _ hsel) (va_Nw.use (A := args) rfl X17) (cH_b h2) rfl ?_ ?_ hframes hlocals hcells hslots hdg fun H1 J => kk H1 (J.of ?_)
    · exact ((B.2.2.2.1).2 2 _ rfl).2
    · intro i v hv
      have hv' : (arrV (dA 2) (S.2.1 a) (fun j => .int (S.2.2.1 a j))).slots[i]? = some v := hv
      have hi : i < S.2.1 a := by
        have := (Array.getElem?_eq_some_iff.mp hv').1
        rwa [arrV_size] at this
      rw [arrV_read _ _ hi] at hv'
      cases hv'
      exact h3 i hi
    · refine cH_up ?_ (fun b hb => cCell_cong (va_up_ne _ _ hb) (va_up_ne _ _ hb) (va_up_ne _ _ hb) (va_up_ne _ _ hb))
      have := cH_b (dA := dA) (hp0 := hp0) (b0 := b0) (a := sz) (S := (va_up S.1 sz 12, va_up S.2.1 sz (S.2.1 a), va_up S.2.2.1 sz (S.2.2.1 a), va_up S.2.2.2 sz (fun _ => none))) (ck_new h1 (by simp [va_up]))
      rw [this]
      simp [va_up]
  · cases e1
theorem k_castB {a : Nat} (B : BX p m c cc nL s args (cd :: wsA) own meth ret D vwCl (tyL dA) b0 Z) (I : AI D vwCl b0 (cH dA b0 S hp0) sz s.heap H locs) (h : ck b0 S a = 12) (hlink : Cond.classLink own index "[B" ∈ wsA) (hdg : decode cc pc = .ok (.checkcast index, 3))
    (kk : W p l e R s m args below meth c H locs cells slots Q (F0 m (pc + 3) ls (.ref a :: rest))) : W p l e R s m args below meth c H locs cells slots Q (F0 m pc ls (.ref a :: rest)) :=
  va_castA (D := D) (cl := vwCl) (ws := [(a, .inl (dA 2, S.2.1 a, .inl (S.2.2.1 a)))]) B.1.1 B.1.2.1 B.1.2.2.2.1 (B.1.2.2.2.2 _ (List.mem_cons_of_mem _ hlink)) (fun k q hq => by
    have hz : k < 1 := (List.getElem?_eq_some_iff.mp hq).1
    rw [show k = 0 by omega] at hq
    cases hq
    exact I.1 a _ (cH_b h)) 0 rfl ((B.2.2.2.1).2 2 _ rfl).2 hdg kk
theorem k_newq {n : Int32} (B : BX p m c cc nL s args (cd :: wsA) own meth ret D vwCl (tyL dA) b0 Z) (hR : CR b0 K Z) (I : AI D vwCl b0 (cH dA b0 S hp0) sz s.heap H locs) (hlink : Cond.classLink own index "java/lang/Object" ∈ wsA) (hcells : cells + 1 ≤ R.cells) (hslots : slots + n.toNatClampNeg ≤ R.slots) (e1 : nAo b0 S 13 sz n = some S1) (hdg : decode cc pc = .ok (.anewarray index, 3))
    (kk : ∀ H1 : Heap, AI D vwCl b0 (cH dA b0 S1 hp0) (sz + 1) s.heap H1 locs → W p l e R s m args below meth c H1 locs (cells + 1) (slots + n.toNatClampNeg) Q (F0 m (pc + 3) ls (.ref sz :: rest))) : W p l e R s m args below meth c H locs cells slots Q (F0 m pc ls (.int n :: rest)) := by
  have X := (hR.2 s B.2.2.2.2.1).2.2.2.2.2.2.2.2.2.2.2.1
  unfold nAo at e1
  split at e1
  · rename_i h
    cases e1
    obtain ⟨h1, h2, h3⟩ := h
    have hn : ¬ n < 0 := fun q => by
      have := Int32.lt_iff_toInt_lt.mp q
      have e0 : (0 : Int32).toInt = 0 := by decide
      omega
    have hN : n.toNatClampNeg = n.toInt.toNat := rfl
    refine W.anew B.1.1 B.1.2.1 B.1.2.2.2.1 (B.1.2.2.2.2 _ (List.mem_cons_of_mem _ hlink)) (va_AO.use X) rfl hdg rfl hn (by omega) hcells hslots fun cA kA comp f1 f2 f3 f4 => ?_
    obtain ⟨kA', comp', g1, g2, g3, g4⟩ := ((B.2.2.2.1).2 3 _ rfl).2
    cases g4.symm.trans f1
    have i2 := I.2.1
    have eH : (F0 m pc ls (.int n :: rest)).pc + 3 = pc + 3 := rfl
    rw [i2]
    refine kk _ ((I.new (e := .inl (dA 3, n.toNatClampNeg, .inr (.inr (.inr (.inr (fun _ => none)))))) ?_ ?_ ?_).of ?_)
    · show (H.push _)[sz]? = some _
      rw [← i2, Array.getElem?_push_size, vp_cell_q]
      exact congrArg some (arrV_new _ _ _)
    · rw [Array.size_push, i2]
    · intro q hq
      rw [Array.getElem?_push, if_neg (by rw [i2]; exact Nat.ne_of_lt hq)]
    · refine cH_up ?_ (fun b hb => cCell_cong (va_up_ne _ _ hb) (va_up_ne _ _ hb) (va_up_ne _ _ hb) (va_up_ne _ _ hb))
      have := cH_q (dA := dA) (hp0 := hp0) (b0 := b0) (a := sz) (S := nA S 13 sz n.toNatClampNeg) (ck_new h1 (by simp [nA, va_up]))
      rw [this]
      simp [nA, va_up]
  · cases e1
theorem k_copyr {a0 a : Nat} {sp dp k : Int32} (B : BX p m c cc nL s args (cd :: wsA) own meth ret D vwCl (tyL dA) b0 Z) (hR : CR b0 K Z) (hl : lx ls lo0) (hlo : lo0.length = nL) (I : AI D vwCl b0 (cH dA b0 S hp0) sz s.heap H locs)
    (hlink : Cond.methodLink own index arraycopyName ∈ wsA) (hnat : Cond.native arraycopyName ∈ wsA) (hstat : Cond.static arraycopyName ∈ wsA) (hini : Cond.initialized "java/lang/System" ∈ wsA) (e1 : cpR b0 S a0 sp a dp k = some S1)
    (hframes : 1 ≤ R.frames) (hlocals : (rest.map fun v => v.category).sum + (nativeFrameWords "java/lang/System" "arraycopy" 5 + 11) ≤ R.locals) (hdg : decode cc pc = .ok (.invokestatic index, 3))
    (kk : ∀ (H1 : Heap) (locs1 : List Loc), AI D vwCl b0 (cH dA b0 S1 hp0) sz s.heap H1 locs1 → W p l e R s m args below meth c H1 locs1 cells slots Q (F0 m (pc + 3) ls rest)) : W p l e R s m args below meth c H locs cells slots Q (F0 m pc ls (.int k :: .int dp :: .ref a :: .int sp :: .ref a0 :: rest)) := by
  have X16 := ex_at (hR.2 s B.2.2.2.2.1).2.2.2.2.2.2.2.2.2.2.2.2.2.2.2.1 0 rfl
  unfold cpR at e1
  split at e1
  · rename_i h
    cases e1
    obtain ⟨⟨h1, h2⟩, ⟨h3, h4, h5⟩, ⟨h6, h7⟩, h8⟩ := h
    have hts : ∀ w ∈ wsA, w.before args s = true := fun w hw => B.1.2.2.2.2 w (List.mem_cons_of_mem _ hw)
    obtain ⟨⟨hx, hb, hml, hown, -⟩, -, -, hK, -⟩ := B
    have nn : ∀ z : Int32, ¬ z < 0 → z.toInt = (z.toNatClampNeg : Int) := by
      intro z hz
      have hz0 : (0 : Int) ≤ z.toInt := by
        have := Int32.not_lt.mp hz
        simpa using Int32.le_iff_toInt_le.mp this
      show z.toInt = ((z.toInt.toNat : Nat) : Int)
      omega
    have hba : b0 ≤ a := ck_b (by decide) h2
    intro T hT X
    have hc0 : H[a0]? = some (vp_cell (dA 3) (S.2.1 a0, .inr (.inr (.inr (.inr (S.2.2.2 a0)))))) := I.1 a0 _ (cH_q h1)
    have hc1 : H[a]? = some (vp_cell (dA 3) (S.2.1 a, .inr (.inr (.inr (.inr (S.2.2.2 a)))))) := I.1 a _ (cH_q h2)
    obtain ⟨-, k0, hk0, cm0, hkk0⟩ := (hK.2 3 _ rfl).1 (S.2.1 a0) (fun j => va_rf (S.2.2.2 a0 j))
    obtain ⟨-, k1, hk1, cm1, hkk1⟩ := (hK.2 3 _ rfl).1 (S.2.1 a) (fun j => va_rf (S.2.2.2 a j))
    obtain ⟨cN, tO, f1, f2, f3⟩ := Cond.castable_spec (va_Nw.use (A := args) rfl X16)
    obtain ⟨vm', X', step⟩ := X.arraycopy hx hown (hts _ hlink) (hts _ hnat) (hts _ hstat) (hts _ hini) (src := a0) (dst := a) (cs := vp_cell (dA 3) (S.2.1 a0, .inr (.inr (.inr (.inr (S.2.2.2 a0)))))) (cd := vp_cell (dA 3) (S.2.1 a, .inr (.inr (.inr (.inr (S.2.2.2 a)))))) (srcPos := sp) (destPos := dp) (n := k) (by rw [hT]; exact hc0) (by rw [hT]; exact hc1)
      (fun _ h => by cases h) (fun _ h => by cases h) (fun h => by cases h) (fun h => by cases h) hk0 hk1 hkk0 hkk1 rfl h3 h4 h5
      (by rw [nn sp h3, nn k h5]; show ¬ _ > ((arrV (dA 3) (S.2.1 a0) (fun j => va_rf (S.2.2.2 a0 j))).slots.size : Int); rw [arrV_size]; omega)
      (by rw [nn dp h4, nn k h5]; show ¬ _ > ((arrV (dA 3) (S.2.1 a) (fun j => va_rf (S.2.2.2 a j))).slots.size : Int); rw [arrV_size]; omega)
      (fun vm₁ hal i hi => by
        have e : (vp_cell (dA 3) (S.2.1 a0, .inr (.inr (.inr (.inr (S.2.2.2 a0)))))).slots.getD (sp.toNatClampNeg + i) .null = va_rf (S.2.2.2 a0 (sp.toNatClampNeg + i)) := by
          show (arrV (dA 3) (S.2.1 a0) (fun j => va_rf (S.2.2.2 a0 j))).slots.getD _ _ = _
          rw [Array.getD_eq_getD_getElem?, arrV_read _ _ (by omega)]
          rfl
        rw [e]
        have h8i := h8 i hi
        cases hy : S.2.2.2 a0 (sp.toNatClampNeg + i) with
        | none => exact ⟨rfl, trivial⟩
        | some y =>
          rw [hy] at h8i
          have hy2 : ck b0 S y = 2 := by simpa [isN] using h8i
          obtain ⟨cellV, g1, g2, g3⟩ := q_recv hK I (hcC (z := 2) (by decide)) (cH_o (z := 2) (by decide) hy2)
          obtain ⟨kA, comp, r1, r2, r3, -⟩ := (hK.2 3 _ rfl).2
          cases hk1.symm.trans r1
          cases hkk1.symm.trans r2
          obtain ⟨kC, hkC, -⟩ := Vm.findClass_spec g3
          obtain ⟨kE, hkE, -⟩ := Vm.findClass_spec r3
          obtain ⟨kC', hkC', -⟩ := hal.2.2 _ _ hkC
          obtain ⟨kE', hkE', -⟩ := hal.2.2 _ _ hkE
          refine ⟨rfl, cellV, (show T.heap[y]? = some cellV by rw [hT]; exact g1), (fun q h => by rw [h] at g2; cases g2), ⟨kC', hkC'⟩, ?_, ?_⟩
          · exact ⟨kE', hkE'⟩
          · show vm₁.assignable _ _ = true
            rw [hal.assignable]
            cases g3.symm.trans f1
            cases r3.symm.trans f2
            exact f3)
      (g := F0 m pc ls (.int k :: .int dp :: .ref a :: .int sp :: .ref a0 :: rest)) rfl (by rw [hml, ← hlo]; exact hl.1) (rest := rest) rfl (by rw [hb]; exact hdg) hframes (by show 2 * 0 + _ + _ ≤ _; omega)
    have e1 : copied (vp_cell (dA 3) (S.2.1 a0, .inr (.inr (.inr (.inr (S.2.2.2 a0)))))) (vp_cell (dA 3) (S.2.1 a, .inr (.inr (.inr (.inr (S.2.2.2 a)))))) sp dp k = vp_cell (dA 3) (S.2.1 a, .inr (.inr (.inr (.inr (va_cpy (S.2.2.2 a0) (S.2.2.2 a) sp.toNatClampNeg dp.toNatClampNeg k.toNatClampNeg))))) := by
      rw [vp_cell_q, vp_cell_q, vp_cell_q]
      exact va_copied (fun z => va_rf z) (dA 3) (dA 3) (S.2.2.2 a0) (S.2.2.2 a) h6
    rw [e1] at X' step
    generalize hcw : vp_cell (dA 3) (S.2.1 a, .inr (.inr (.inr (.inr (va_cpy (S.2.2.2 a0) (S.2.2.2 a) sp.toNatClampNeg dp.toNatClampNeg k.toNatClampNeg))))) = cw at X' step
    have hla : a < H.size := (Array.getElem?_eq_some_iff.mp hc1).1
    have hheap : ((T.setVm vm').setCell a cw).heap = H.setIfInBounds a cw := by rw [← hT]; rfl
    have oq : ∀ q : Nat, q ≠ a → (H.setIfInBounds a cw)[q]? = H[q]? := fun q hq => by simp [Array.getElem?_setIfInBounds, Ne.symm hq]
    obtain ⟨i1, i2, i3, i4, i5, i6⟩ := I
    have J : AI D vwCl b0 (va_up (cH dA b0 S hp0) a (some (.inl (dA 3, S.2.1 a, .inr (.inr (.inr (.inr (va_cpy (S.2.2.2 a0) (S.2.2.2 a) sp.toNatClampNeg dp.toNatClampNeg k.toNatClampNeg)))))))) sz s.heap (H.setIfInBounds a cw) (locs ++ ((vp_cell (dA 3) (S.2.1 a0, .inr (.inr (.inr (.inr (S.2.2.2 a0)))))).stretch sp.toNatClampNeg k.toNatClampNeg).zipIdx.map (fun q => { base := a, slot := dp.toNatClampNeg + q.snd })) := ⟨i1.up (show (H.setIfInBounds a cw)[a]? = some _ by rw [← hcw]; simp [Array.getElem?_setIfInBounds, hla]) oq, by simp; exact i2, i3, by simp; exact i4, fun q g1 g2 => by
        rw [oq q (fun e => g2 (by rw [e]; exact hba))]
        exact i5 q g1 g2, fun q hq => by
        rcases List.mem_append.mp hq with h | h
        · exact i6 q h
        · obtain ⟨z, -, hz⟩ := List.mem_map.mp h
          rw [← hz]
          exact hba⟩
    obtain ⟨t, a1, b1⟩ := kk _ _ (J.of (by
      refine cH_up ?_ (fun b hb => cCell_cong rfl rfl rfl (va_up_ne _ _ hb))
      have := cH_q (dA := dA) (hp0 := hp0) (b0 := b0) (a := a) (S := (S.1, S.2.1, S.2.2.1, va_up S.2.2.2 a (va_cpy (S.2.2.2 a0) (S.2.2.2 a) sp.toNatClampNeg dp.toNatClampNeg k.toNatClampNeg))) h2
      rw [this]
      simp [va_up])) _ hheap X'
    exact ⟨t, step t a1, b1⟩
  · cases e1
theorem k_aast {a v : Nat} {i : Int32} (B : BX p m c cc nL s args (cd :: wsA) own meth ret D vwCl (tyL dA) b0 Z) (hR : CR b0 K Z) (I : AI D vwCl b0 (cH dA b0 S hp0) sz s.heap H locs) (e1 : aTR b0 S a i v = some S1) (hdg : decode cc pc = .ok (.aastore, 1))
    (kk : ∀ (H1 : Heap) (locs1 : List Loc), AI D vwCl b0 (cH dA b0 S1 hp0) sz s.heap H1 locs1 → W p l e R s m args below meth c H1 locs1 cells slots Q (F0 m (pc + 1) ls rest)) : W p l e R s m args below meth c H locs cells slots Q (F0 m pc ls (.ref v :: .int i :: .ref a :: rest)) := by
  have X16 := ex_at (hR.2 s B.2.2.2.2.1).2.2.2.2.2.2.2.2.2.2.2.2.2.2.2.1 0 rfl
  unfold aTR at e1
  split at e1
  · rename_i h
    cases e1
    obtain ⟨⟨h1, h2⟩, h3⟩ := h
    have hin := rin h3
    have hlt : i.toNatClampNeg < S.2.1 a := Nat.not_le.mp fun q => hin (Or.inr q)
    have h0 : ¬ i < 0 := fun q => hin (Or.inl q)
    have hK := B.2.2.2.1
    obtain ⟨r', hr', cellV, g1, g2, g3, -⟩ := I.1 v _ (cH_o (z := 2) (by decide) h2)
    have hcls := (hK.1 2 _ (hcC (by decide))).2
    obtain ⟨kA, comp, k1, k2, k3, -⟩ := (hK.2 3 _ rfl).2
    obtain ⟨kE, hkE, -⟩ := Vm.findClass_spec k3
    obtain ⟨c0, t1, f1, f2, f3⟩ := Cond.castable_spec (va_Nw.use (A := args) rfl X16)
    cases hcls.1.symm.trans f1
    cases k3.symm.trans f2
    obtain ⟨kC, hkC, -⟩ := hcls.2
    refine W.aast B.1.1 B.1.2.1 (I.1 a _ (cH_q h1)) (fun q h => by cases h) (fun h => by cases h) k1 k2 rfl hkE ⟨h0, by show _ < (arrV _ _ _).slots.size; rw [arrV_size]; exact hlt⟩ g1 (fun q h => by rw [g3] at h; cases h) (by rw [g2]; exact hkC) (by rw [g2]; exact f3) rfl rfl hdg fun H1 e z oq => ?_
    refine kk H1 _ (AI.of (hp := va_up (cH dA b0 S hp0) a (some (.inl (dA 3, S.2.1 a, .inr (.inr (.inr (.inr (va_up (S.2.2.2 a) i.toNatClampNeg (some v))))))))) ⟨I.1.up ?_ oq, by rw [z]; exact I.2.1, I.2.2.1, I.2.2.2.put z oq (ck_b (by decide) h1)⟩ ?_)
    · show H1[a]? = some (vp_cell _ _)
      rw [e]
      rw [vp_cell_q, vp_cell_q, arrV_store]
      congr 2
      funext q
      by_cases hq : q = i.toNatClampNeg
      · subst hq
        simp [updV, va_up, va_rf]
      · simp [updV, va_up, hq]
    · refine cH_up ?_ (fun b hb => cCell_cong rfl rfl rfl (up2_ne hb))
      have := cH_q (dA := dA) (hp0 := hp0) (b0 := b0) (a := a) (S := (S.1, S.2.1, S.2.2.1, up2 S.2.2.2 a i.toNatClampNeg (some v))) h1
      rw [this]
      have e2 : up2 S.2.2.2 a i.toNatClampNeg (some v) a = va_up (S.2.2.2 a) i.toNatClampNeg (some v) := by funext j; simp [up2, va_up]
      simp only [e2]
  · cases e1
theorem k_ldcO {mi : Nat} (B : BX p m c cc nL s args (cd :: wsA) own meth ret D vwCl (tyL dA) b0 Z) (hR : CR b0 K Z) (hlink : Cond.classLink own index "[Ljava/lang/Object;" ∈ wsA) (e1 : K.2.2.2 0 101 = some mi) (hdg : decode cc pc = .ok (.ldc index, 2))
    (kk : W p l e R s m args below meth c H locs cells slots Q (F0 m (pc + 2) ls (.ref mi :: rest))) : W p l e R s m args below meth c H locs cells slots Q (F0 m pc ls rest) := by
  obtain ⟨mi', h1, h2⟩ := (hR.2 s B.2.2.2.2.1).2.2.2.2.2.2.2.2.2.2.2.2.1
  cases h1.symm.trans e1
  exact va_ldcM B.1.1 B.1.2.1 B.1.2.2.2.1 (B.1.2.2.2.2 _ (List.mem_cons_of_mem _ hlink)) h2 hdg kk
theorem k_getC {mi a : Nat} (B : BX p m c cc nL s args (cd :: wsA) own meth ret D vwCl (tyL dA) b0 Z) (hR : CR b0 K Z) (hl : lx ls lo0) (hlo : lo0.length = nL) (I : AI D vwCl b0 (cH dA b0 S hp0) sz s.heap H locs) (h : ck b0 S a = 13) (hlink : Cond.methodLink own index ⟨"java/lang/Object", "getClass", "()Ljava/lang/Class;"⟩ ∈ wsA)
    (hsel : Cond.selects "[Ljava/lang/Object;" ⟨"java/lang/Object", "getClass", "()Ljava/lang/Class;"⟩ ⟨"java/lang/Object", "getClass", "()Ljava/lang/Class;"⟩ ∈ wsA) (hinst : Cond.instanceMethod ⟨"java/lang/Object", "getClass", "()Ljava/lang/Class;"⟩ ∈ wsA) (hnat : Cond.native ⟨"java/lang/Object", "getClass", "()Ljava/lang/Class;"⟩ ∈ wsA) (e1 : K.2.2.2 0 101 = some mi)
    (hframes : 1 ≤ R.frames) (hlocals : (rest.map fun v => v.category).sum + 14 ≤ R.locals) (hdg : decode cc pc = .ok (.invokevirtual index, 3))
    (kk : W p l e R s m args below meth c H locs cells slots Q (F0 m (pc + 3) ls (.ref mi :: rest))) : W p l e R s m args below meth c H locs cells slots Q (F0 m pc ls (.ref a :: rest)) := by
  obtain ⟨mi', h1, h2⟩ := (hR.2 s B.2.2.2.2.1).2.2.2.2.2.2.2.2.2.2.2.2.1
  cases h1.symm.trans e1
  have hd := (hR.2 s B.2.2.2.2.1).2.2.2.2.2.2.2.2.2.2.1
  have hts : ∀ w ∈ wsA, w.before args s = true := fun w hw => B.1.2.2.2.2 w (List.mem_cons_of_mem _ hw)
  refine va_getC B.1.1 B.1.2.1 (by rw [B.1.2.2.1, ← hlo]; exact hl.1.symm) B.1.2.2.2.1 (hts _ hlink) hd.use (hts _ hsel) (hts _ hinst) (hts _ hnat) h2 ⟨_, I.1 a _ (cH_q h), rfl, va_nmO ((B.2.2.2.1).2 3 _ rfl).2 rfl⟩ hframes hlocals hdg kk
theorem k_selE (B : BX p m c cc nL s args (cd :: wsA) own meth ret D vwCl (tyL dA) b0 Z) (hR : CR b0 K Z) : (Cond.selects (cC 7) ⟨"java/lang/AbstractStringBuilder", "ensureCapacityInternal", "(I)V"⟩ ⟨"java/lang/AbstractStringBuilder", "ensureCapacityInternal", "(I)V"⟩).before args s = true := va_Nw.use (A := args) rfl (ex_at (hR.2 s B.2.2.2.2.1).2.2.2.2.2.2.2.2.2.2.2.2.2.2.2.1 2 rfl)
theorem k_selN (B : BX p m c cc nL s args (cd :: wsA) own meth ret D vwCl (tyL dA) b0 Z) (hR : CR b0 K Z) : (Cond.selects (cC 7) ⟨"java/lang/AbstractStringBuilder", "newCapacity", "(I)I"⟩ ⟨"java/lang/AbstractStringBuilder", "newCapacity", "(I)I"⟩).before args s = true := va_Nw.use (A := args) rfl (ex_at (hR.2 s B.2.2.2.2.1).2.2.2.2.2.2.2.2.2.2.2.2.2.2.2.1 3 rfl)
/-- a method of the class above that the receiver's class keeps: found by 'selects' of its class -/
theorem k_callX (B : BX p m c cc nL s args (cd :: wsA) own meth ret D vwCl (tyL dA) b0 Z) (hR : CR b0 K Z) (hl : lx ls lo0) (hlo : lo0.length = nL) (I : AI D vwCl b0 (cH dA b0 S hp0) sz s.heap H locs)
    (hM : Ct l D vwCl (tyL dA) b0 Z y (.code y bytes maxL retc :: wsA) fr lo (.ref b :: As) (cH dA b0 S hp0) sz rv (cH dA b0 S1 hp0) mc ms) (kw : (Cond.code y bytes maxL retc ∈ wsA ∧ Cond.initialized y.cls ∈ wsA ∧ Cond.methodLink own index y ∈ wsA ∧ Cond.instanceMethod y ∈ wsA) ∧ y.cls ≠ "java/lang/invoke/MethodHandle" ∧ y.cls ≠ "java/lang/invoke/VarHandle" ∧ (parseMethodDescriptor y.desc).map (fun d => d.parameters.length) = some n) (hsel : (Cond.selects (cC z) y y).before args s = true) (hz : 1 ≤ z ∧ z ≤ 8) (hk : kd b0 K S b = z) (hn : As.length = n)
    (hfr : fr + 1 ≤ R.frames) (hlc : 8 + (maxL + 11) + lo ≤ R.locals) (hst : st0 = As.reverse ++ .ref b :: rest) (hW : (rest.map fun v => v.category).sum ≤ 8) (hdg : decode cc pc = .ok (.invokevirtual index, 3)) (hcells : cells + mc ≤ R.cells) (hslots : slots + ms ≤ R.slots)
    (kk : ∀ (H1 : Heap) (locs1 : List Loc), AI D vwCl b0 (cH dA b0 S1 hp0) (sz + mc) s.heap H1 locs1 → W p l e R s m args below meth c H1 locs1 (cells + mc) (slots + ms) Q (F0 m (pc + 3) ls (rv.toList ++ rest))) :
    W p l e R s m args below meth c H locs cells slots Q (F0 m pc ls st0) := by
  have hts : ∀ w ∈ wsA, w.before args s = true := fun w hw => B.1.2.2.2.2 w (List.mem_cons_of_mem _ hw)
  exact q_call (va_runV (As := As) (rest := rest) (b := b) (C := cC z) ⟨B.1.1, B.1.2.1, B.1.2.2.1, B.1.2.2.2.1, hts⟩ hM ⟨callB_of n hts (gC kw.1.1) rfl rfl rfl (hts _ kw.1.2.1) (hts _ kw.1.2.2.1) kw.2 ⟨hfr, hlc⟩, hts _ kw.1.2.2.2, hsel⟩ ⟨(q_pre (av := .ref b :: As) B I).1, k_recv B hR I hz hk, (q_pre (av := .ref b :: As) B I).2⟩ rfl hn (by rw [← hlo]; exact hl.1) hst (lv_room hW) hdg ⟨hcells, hslots⟩) I kk
theorem gO {own : String} {idx : Nat} {C owner : String} {x y : MethodName} {cd : Cond} (h1 : Cond.methodLink own idx x ∈ wsA) (h2 : Cond.sameMethod x.cls owner x.name x.desc ∈ wsA) (h3 : Cond.instanceMethod ⟨owner, x.name, x.desc⟩ ∈ wsA) (h4 : Cond.selects C x y ∈ wsA) (h5 : Cond.instanceMethod y ∈ wsA) (h7 : Cond.initialized y.cls ∈ wsA) (h6 : cd ∈ wsA) : GoodIn wsA (va_wsO own idx C owner x y (cd :: wsA)) := fun w hw => wsA_good (by
  unfold va_wsO at hw
  rcases List.mem_append.mp hw with h | h
  · simp only [List.mem_cons, List.not_mem_nil, or_false] at h
    rcases h with rfl | rfl | rfl | rfl | rfl | rfl
    · exact h1
    · exact h2
    · exact h3
    · exact h4
    · exact h5
    · exact h7
  · rcases List.mem_cons.mp h with rfl | h
    · exact h6
    · exact h)
/-- a method that the receiver's class has made anew -/
theorem k_callO {b00 : ByteArray} {m00 : Nat} {r00 : Option FieldType} {owner : String} (B : BX p m c cc nL s args (cd :: wsA) own meth ret D vwCl (tyL dA) b0 Z) (hR : CR b0 K Z) (hl : lx ls lo0) (hlo : lo0.length = nL) (I : AI D vwCl b0 (cH dA b0 S hp0) sz s.heap H locs)
    (hM : Ct l D vwCl (tyL dA) b0 Z y (.code y bytes maxL retc :: wsA) fr lo (.ref b :: As) (cH dA b0 S hp0) sz rv (cH dA b0 S1 hp0) mc ms) (kw : GoodIn wsA (va_wsO own index (cC z) owner x y (.code y bytes maxL retc :: wsA)) ∧ Cond.code ⟨owner, x.name, x.desc⟩ b00 m00 r00 ∈ wsA ∧ owner ≠ "java/lang/invoke/MethodHandle" ∧ owner ≠ "java/lang/invoke/VarHandle" ∧ (parseMethodDescriptor x.desc).map (fun d => d.parameters.length) = some n) (hz : 1 ≤ z ∧ z ≤ 8) (hk : kd b0 K S b = z) (hn : As.length = n)
    (hfr : fr + 1 ≤ R.frames) (hlc : 8 + (maxL + 11) + lo ≤ R.locals) (hst : st0 = As.reverse ++ .ref b :: rest) (hW : (rest.map fun v => v.category).sum ≤ 8) (hdg : decode cc pc = .ok (.invokevirtual index, 3)) (hcells : cells + mc ≤ R.cells) (hslots : slots + ms ≤ R.slots)
    (kk : ∀ (H1 : Heap) (locs1 : List Loc), AI D vwCl b0 (cH dA b0 S1 hp0) (sz + mc) s.heap H1 locs1 → W p l e R s m args below meth c H1 locs1 (cells + mc) (slots + ms) Q (F0 m (pc + 3) ls (rv.toList ++ rest))) :
    W p l e R s m args below meth c H locs cells slots Q (F0 m pc ls st0) := by
  have hts : ∀ w ∈ wsA, w.before args s = true := fun w hw => B.1.2.2.2.2 w (List.mem_cons_of_mem _ hw)
  exact q_call (va_runU (As := As) (rest := rest) (b := b) (C := cC z) ⟨B.1.1, B.1.2.1, B.1.2.2.1, B.1.2.2.2.1, hts⟩ hM (va_cwO n hts kw.1 rfl rfl rfl kw.2.1 kw.2.2 ⟨hfr, hlc⟩) ⟨(q_pre (av := .ref b :: As) B I).1, k_recv B hR I hz hk, (q_pre (av := .ref b :: As) B I).2⟩ rfl hn (by rw [← hlo]; exact hl.1) hst (lv_room hW) hdg ⟨hcells, hslots⟩) I kk
end KK
