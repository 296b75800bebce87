/-! What the class's world stands on stays: under warming, and where no cell below b0 changes. -/
section ZZ
variable {b0 : Nat} {K : cS} {s U : State}
theorem lsT.on {C n d : String} (hW : s.WarmedH U.vm) (hq : ∀ q : Nat, q < b0 → U.heap[q]? = s.heap[q]?) (h : lsT b0 C n d s) : lsT b0 C n d U := by
  obtain ⟨c, k, i, f, a, cell, h1, h2, h3, h4, h5, h6, h7, h8, h9, h10⟩ := h
  obtain ⟨k', hi', he⟩ := State.fieldFound?_setVm hW.alike h2
  exact ⟨c, k', i, f, a, cell, by rw [hW.alike.findClass]; exact h1, hi', h3, by rw [he]; exact h4, by rw [hq a h10]; exact h5, h6, h7, h8, by rw [he]; exact h9, h10⟩
theorem nw_on (hW : s.WarmedH U.vm) (h : ∀ w ∈ nwA, va_Nw w s) : ∀ w ∈ nwA, va_Nw w U := by
  intro w hw
  have hi : isNest w = true := (List.mem_filter.mp hw).2
  have h0 := h w hw
  unfold isNest at hi
  split at hi
  · exact va_Nw.warmF hW h0
  · exact va_Nw.warmM hW h0
  · cases hi
theorem sel_on {C : String} {x : MethodName} (hx : x.cls ≠ "java/lang/invoke/MethodHandle" ∧ x.cls ≠ "java/lang/invoke/VarHandle") (hW : s.WarmedH U.vm) (h : va_Nw (.selects C x x) s) : va_Nw (.selects C x x) U := by
  obtain ⟨c, r, m, hc, hf, hn, -⟩ := Cond.selects_spec h
  exact va_tabs rfl (rfl : (s.setVm U.vm).vm = U.vm) (by rw [Cond.selects_setVm hW.alike hn hx]; exact h)
theorem ncast_on {C T : String} (hW : s.WarmedH U.vm) (h : va_Nw (.not (.castable C T)) s) : va_Nw (.not (.castable C T)) U := by
  have e : (Cond.not (.castable C T)).before #[] U = (Cond.not (.castable C T)).before #[] s := by
    simp only [Cond.before, Cond.holds, Cond.value, hW.alike.findClass, hW.alike.assignable]
  show (Cond.not (.castable C T)).before #[] U = true
  rw [e]; exact h
theorem ex_on (hW : s.WarmedH U.vm) (h : ∀ w ∈ exW, va_Nw w s) : ∀ w ∈ exW, va_Nw w U := by
  intro w hw
  have h0 := h w hw
  obtain ⟨i, hi⟩ := List.getElem?_of_mem hw
  match i, hi with
  | 0, hi => cases hi; exact va_Nw.warmC hW h0
  | 1, hi => cases hi; exact va_Nw.warmC hW h0
  | 2, hi => cases hi; exact sel_on (by decide) hW h0
  | 3, hi => cases hi; exact sel_on (by decide) hW h0
  | 4, hi => cases hi; exact va_Nw.warmD hW h0
  | 5, hi => cases hi; exact va_Nw.warmD hW h0
  | 6, hi => cases hi; exact va_Nw.warmD hW h0
  | 7, hi => cases hi; exact va_Nw.warmC hW h0
  | 8, hi => cases hi; exact va_Nw.warmC hW h0
  | 9, hi => cases hi; exact va_Nw.warmC hW h0
  | 10, hi => cases hi; exact ncast_on hW h0
  | 11, hi => cases hi; exact ncast_on hW h0
  | i + 12, hi => cases hi
theorem ZX.on (hW : s.WarmedH U.vm) (hq : ∀ q : Nat, q < b0 → U.heap[q]? = s.heap[q]?) (h : ZX b0 K s) : ZX b0 K U := by
  have hv := hW.alike
  have kq : ∀ a : Nat, a < s.heap.size → ¬ bA b0 a → U.heap[a]? = s.heap[a]? := fun a _ h => hq a (Nat.not_le.mp h)
  obtain ⟨z1, z2, ⟨d, z3, z3'⟩, z4, ⟨d5, z5, z5'⟩, z6, z7, z8, z9, z10, z11, z12, ⟨mi, z13, z13'⟩, z14, z15, z16, z17, z18⟩ := h
  refine ⟨nw_on hW z1, (z2.moved hv).kept kq, ⟨d, z3, (z3'.moved hv).kept kq⟩, (z4.moved hv).kept kq, ⟨d5, (z5.moved hv).kept kq, (z5'.moved hv).kept kq⟩, z6, ?_, ?_, ?_, ?_, z11.moved hv, z12.moved hv, ⟨mi, z13, z13'.moved hv⟩, (z14.moved hv).kept kq, (z15.moved hv).kept kq, ex_on hW z16, z17.on hW hq, z18.on hW hq⟩
  · exact fun a ha hk => ⟨(((z7 a ha hk).1).moved hv).kept kq, fun k v hv' => (((z7 a ha hk).2 k v hv').moved hv).kept kq⟩
  · exact fun a ha hk => ((z8 a ha hk).moved hv).kept kq
  · exact fun a ha hk => ((z9 a ha hk).moved hv).kept kq
  · exact fun j q hj => by
      obtain ⟨a, h1, h2⟩ := z10 j q hj
      exact ⟨a, h1, vk_R.warm hW h2⟩
theorem CRx : CR b0 K (ZX b0 K) := ⟨fun _ _ h hW hq => h.on hW hq, fun _ h => h⟩
end ZZ
