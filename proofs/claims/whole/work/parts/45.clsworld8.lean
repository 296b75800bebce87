/-! The class's world, on: a field that the class above declares. -/
def ifc {α : Type} (b0 : Nat) (S : cS) (z a : Nat) (o : Option α) : Option α := if ck b0 S a = z then o else none
theorem oifc {α : Type} {b0 z a : Nat} {S : cS} {o : Option α} {r : α} {P : Prop} (h : ifc b0 S z a o = some r) (k : ck b0 S a = z → o = some r → P) : P := by
  unfold ifc at h
  by_cases hc : ck b0 S a = z
  · rw [if_pos hc] at h; exact k hc h
  · rw [if_neg hc] at h; cases h
theorem wmod : Cond.sameField "java/util/ArrayList" "java/util/AbstractList" "modCount" "I" ∈ wsA := List.mem_filter.mpr ⟨List.mem_of_getElem? (i := 272) (by decide +kernel), by decide +kernel⟩
theorem mA_acn : Cond.native arraycopyName ∈ wsA := List.mem_filter.mpr ⟨List.mem_of_getElem? (i := 395) (by decide +kernel), by decide +kernel⟩
theorem mA_acs : Cond.static arraycopyName ∈ wsA := List.mem_filter.mpr ⟨List.mem_of_getElem? (i := 394) (by decide +kernel), by decide +kernel⟩
theorem mA_sys : Cond.initialized "java/lang/System" ∈ wsA := List.mem_filter.mpr ⟨List.mem_of_getElem? (i := 118) (by decide +kernel), by decide +kernel⟩
theorem mA_cl1 : Cond.sameMethod "[B" "java/lang/Object" "clone" "()Ljava/lang/Object;" ∈ wsA := List.mem_filter.mpr ⟨List.mem_of_getElem? (i := 384) (by decide +kernel), by decide +kernel⟩
theorem mA_cl2 : Cond.native ⟨"java/lang/Object", "clone", "()Ljava/lang/Object;"⟩ ∈ wsA := List.mem_filter.mpr ⟨List.mem_of_getElem? (i := 385) (by decide +kernel), by decide +kernel⟩
theorem mA_cl3 : Cond.instanceMethod ⟨"java/lang/Object", "clone", "()Ljava/lang/Object;"⟩ ∈ wsA := List.mem_filter.mpr ⟨List.mem_of_getElem? (i := 386) (by decide +kernel), by decide +kernel⟩
theorem mA_cl4 : Cond.selects "[B" ⟨"[B", "clone", "()Ljava/lang/Object;"⟩ ⟨"java/lang/Object", "clone", "()Ljava/lang/Object;"⟩ ∈ wsA := List.mem_filter.mpr ⟨List.mem_of_getElem? (i := 387) (by decide +kernel), by decide +kernel⟩
theorem mA_gc1 : Cond.selects "[Ljava/lang/Object;" ⟨"java/lang/Object", "getClass", "()Ljava/lang/Class;"⟩ ⟨"java/lang/Object", "getClass", "()Ljava/lang/Class;"⟩ ∈ wsA := List.mem_filter.mpr ⟨List.mem_of_getElem? (i := 1459) (by decide +kernel), by decide +kernel⟩
theorem mA_gc2 : Cond.instanceMethod ⟨"java/lang/Object", "getClass", "()Ljava/lang/Class;"⟩ ∈ wsA := List.mem_filter.mpr ⟨List.mem_of_getElem? (i := 811) (by decide +kernel), by decide +kernel⟩
theorem mA_gc3 : Cond.native ⟨"java/lang/Object", "getClass", "()Ljava/lang/Class;"⟩ ∈ wsA := List.mem_filter.mpr ⟨List.mem_of_getElem? (i := 827) (by decide +kernel), by decide +kernel⟩
section KM
variable {p : Program} {l : Launch} {e : Env} {R : Room} {s : State} {m : MethodId} {args : Array Value} {below : List Frame} {meth : Method} {c : Code} {H : Heap} {locs : List Loc} {cells slots : Nat} {Q : State → Prop}
variable {cc : ByteArray} {pc : Nat} {ls : Array Slot} {rest : List Value} {D : va_G} {dA : Nat → ClassId} {hp0 hp : aH} {sz b0 nL : Nat} {cd : Cond} {ret : Option FieldType} {K S S1 : cS} {Z : State → Prop} {own : String}
theorem k_getM {index a : Nat} {x : Int32} (B : BX p m c cc nL s args (cd :: wsA) own meth ret D vwCl (tyL dA) b0 Z) (hR : CR b0 K Z) (I : AI D vwCl b0 (cH dA b0 S hp0) sz s.heap H locs) (hlink : Cond.fieldLink own index "java/util/ArrayList" (cT 8 0).2.1 (cT 8 0).2.2.1 ∈ wsA) (e1 : gI b0 K S 8 0 a = some x) (hdg : decode cc pc = .ok (.getfield index, 3))
    (kk : W p l e R s m args below meth c H locs cells slots Q (F0 m (pc + 3) ls (.int x :: rest))) : W p l e R s m args below meth c H locs cells slots Q (F0 m pc ls (.ref a :: rest)) := by
  unfold gI at e1
  split at e1
  · rename_i h
    cases e1
    have X := hR.2 s B.2.2.2.2.1
    obtain ⟨h1, h2, -⟩ := kd_made X (z := 8) (by decide) h
    have kk' : W p l e R s m args below meth c H locs cells slots Q (F0 m (pc + 3) ls (.int (S.2.2.1 a 0) :: rest)) := by rw [h2] at kk; exact kk
    exact va_get (D := D) (ws := [(a, .inr (8, cFl 8 S a))]) B.1.1 B.1.2.1 B.1.2.2.2.2 (fun w hw => List.mem_cons_of_mem _ (wsA_c (z := 8) (by decide) w hw)) B.1.2.2.2.1 B.2.2.2.1 (fun k q hq => by
      have hz : k < 1 := (List.getElem?_eq_some_iff.mp hq).1
      rw [show k = 0 by omega] at hq
      cases hq
      exact I.1 a _ (cH_o (z := 8) (by decide) h1)) 0 rfl (hcC (z := 8) (by decide)) 0 (by decide) (B.1.2.2.2.2 _ (List.mem_cons_of_mem _ hlink)) (fun x h => u_same (B.1.2.2.2.2 _ (List.mem_cons_of_mem _ wmod)) x h) rfl hdg kk'
  · cases e1
theorem k_putM {index a : Nat} {v : Int32} (B : BX p m c cc nL s args (cd :: wsA) own meth ret D vwCl (tyL dA) b0 Z) (I : AI D vwCl b0 (cH dA b0 S hp0) sz s.heap H locs) (hlink : Cond.fieldLink own index "java/util/ArrayList" (cT 8 0).2.1 (cT 8 0).2.2.1 ∈ wsA) (e1 : pI b0 S 8 0 a v = some S1) (hdg : decode cc pc = .ok (.putfield index, 3))
    (kk : ∀ (H1 : Heap) (locs1 : List Loc), AI D vwCl b0 (cH dA b0 S1 hp0) sz s.heap H1 locs1 → W p l e R s m args below meth c H1 locs1 cells slots Q (F0 m (pc + 3) ls rest)) : W p l e R s m args below meth c H locs cells slots Q (F0 m pc ls (.int v :: .ref a :: rest)) := by
  unfold pI at e1
  split at e1
  · rename_i h
    cases e1
    have hba : b0 ≤ a := ck_b (by decide) h
    obtain ⟨⟨hx, hb, -, hown, hts⟩, -, -, hK, -⟩ := B
    have hin : ∀ w ∈ u_ws (cC 8) (cT 8) (cNn 8), w ∈ (cd :: wsA) := fun w hw => List.mem_cons_of_mem _ (wsA_c (z := 8) (by decide) w hw)
    have hap := va_apart (own := own) hts hin (cTy 8) (cTy_ok (by decide)) (cNm (by decide)) hK (hcC (by decide))
    obtain ⟨r, h1, cell, q1, q2, q3, q4⟩ := I.1 a _ (cH_o (z := 8) (by decide) h)
    have hr : r = (cC 8, cT 8, cNn 8) := Option.some.inj (h1.symm.trans (hcC (z := 8) (by decide)))
    subst hr
    obtain ⟨hS, hfc, kC, hkC, hkind⟩ := hK.1 8 _ (hcC (by decide))
    have hk : 0 < cNn 8 := by decide
    obtain ⟨cf, kf, fi, f, hi, hsl⟩ := hS 0 hk
    have hlay := hts _ (hin _ (u_in_lay hk))
    unfold u_lay at hlay
    rw [if_neg (by decide)] at hlay
    have hst := (u_facts hfc hkC (u_lays hts hin hk) hi).1
    have h6 := u_store hfc hkC hkind hlay hi (cTy_ok (z := 8) (by decide) 0 hk) (v := .int v) rfl rfl
    refine W.putK hx hb (f := f) ⟨hown, hts _ (List.mem_cons_of_mem _ hlink), ⟨_, _, _, u_same (hts _ (List.mem_cons_of_mem _ wmod)) _ hi⟩, hst⟩ (by rw [q2]; exact h6) q1 q3 (by rw [hsl]; exact k2_hasslot (q4 0 hk)) rfl rfl hdg fun H' e1 e2 e3 => ?_
    rw [hsl] at e1 ⊢
    refine kk H' _ (AI.of (hp := va_up (cH dA b0 S hp0) a (some (.inr (8, (cFl 8 S a).set 0 (.int v))))) ⟨I.1.up ⟨_, hcC (z := 8) (by decide), t_OB.to (V := updV (vp_V (cFl 8 S a)) 0 (.int v)) ⟨_, e1, q2, q3, t_set q4 hap hk (.int v)⟩ (fun j _ => vp_updV_set (by rw [cFl_len (z := 8) (by decide)]; decide) (.int v) j)⟩ e3, by rw [e2]; exact I.2.1, I.2.2.1, I.2.2.2.put e2 e3 hba⟩ ?_)
    exact cH_pI (z := 8) (by decide) h (fun _ _ _ => cset_8_0 _ _ _)
  · cases e1
end KM
