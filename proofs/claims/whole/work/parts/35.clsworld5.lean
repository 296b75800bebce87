/-! The class's world, on: the table of days. -/
section KD
variable {p : Program} {l : Launch} {e : Env} {R : Room} {s : State} {m : MethodId} {args : Array Value} {below : List Frame} {meth : Method} {c : Code} {H : Heap} {locs : List Loc} {cells slots : Nat} {Q : State → Prop}
variable {cc : ByteArray} {pc : Nat} {ls : Array Slot} {rest : List Value} {D : va_G} {dA : Nat → ClassId} {hp0 hp : aH} {sz b0 nL : Nat} {cd : Cond} {ret : Option FieldType} {K S S1 : cS} {Z : State → Prop} {own host : String}
theorem k_getDays {index : Nat} (B : BX p m c cc nL s args (cd :: wsA) own meth ret D vwCl (tyL dA) b0 Z) (hR : CR b0 K Z) (I : AI D vwCl b0 (cH dA b0 S hp0) sz s.heap H locs) (hlink : Cond.fieldLinkNest own index "TableText" "DAYS" "[I" host ∈ nwA) (hdg : decode cc pc = .ok (.getstatic index, 3))
    (kk : ∀ d : Nat, va_T .int d 12 (fun j => .int (daysL.getD j 0)) (bA b0) s s.heap → W p l e R s m args below meth c H locs cells slots Q (F0 m (pc + 3) ls (.ref d :: rest))) : W p l e R s m args below meth c H locs cells slots Q (F0 m pc ls rest) := by
  have X := hR.2 s B.2.2.2.2.1
  obtain ⟨d, h1, h2⟩ := X.2.2.2.2.1
  exact va_getsN B.1.1 B.1.2.1 h1 I.2.2.2 B.1.2.2.2.1 (va_Nw.use rfl (X.1 _ hlink)) (fun _ h => h) hdg (kk d h2)
theorem k_days {d : Nat} {i x : Int32} (B : BX p m c cc nL s args (cd :: wsA) own meth ret D vwCl (tyL dA) b0 Z) (I : AI D vwCl b0 (cH dA b0 S hp0) sz s.heap H locs) (hD : va_T .int d 12 (fun j => .int (daysL.getD j 0)) (bA b0) s s.heap) (e1 : daysT i = some x) (hdg : decode cc pc = .ok (.iaload, 1))
    (kk : W p l e R s m args below meth c H locs cells slots Q (F0 m (pc + 1) ls (.int x :: rest))) : W p l e R s m args below meth c H locs cells slots Q (F0 m pc ls (.int i :: .ref d :: rest)) := by
  unfold daysT at e1
  by_cases h : 0 ≤ i.toInt ∧ i.toInt < 12
  · rw [if_pos h] at e1
    cases e1
    obtain ⟨cell, c1, c2, c3, c4, c5, c6, c7⟩ := hD.kept I.2.2.2.2.1
    have hin : vp_in i 12 := rin h
    have hlt : i.toNatClampNeg < 12 := Nat.not_le.mp fun q => hin (Or.inr q)
    exact W.iald (v := .int (daysL.getD i.toNatClampNeg 0)) B.1.1 B.1.2.1 c1 c2 c3 (fun q => by rcases q with q | q; exact hin (Or.inl q); omega) (c6 _ hlt) rfl rfl hdg kk
  · rw [if_neg h] at e1
    cases e1
end KD
