/-! A call that throws, and the handler that catches: the class in the table may be met for the first time. -/
def FdV (e : Env) (s : State) (f : JFrame) (a : Addr) (h : Handler) (s' : State) : Prop :=
  ∀ (Q : Handler → Pre) (E : CtlPost) (d : Bool) (acts : List Action), wp (findHandler f a) Q E e d acts s ↔ Q h d acts s'
theorem go_cold {E : CtlPost} {e : Env} {d : Bool} {acts : List Action} {s : State} {f : JFrame} {a : Addr} {Q : Handler → Pre} {x : ExceptionTableEntry} {t : List ExceptionTableEntry} {c : ClassId} {cell : Cell} {vm' : Vm} (hx : covers x f.pc = true) (h0 : x.catchType ≠ 0)
    (hg : (Jvm.resolveClass f.method.cls x.catchType).Gives e.toSetting s.vm (.ok c) vm') (hsz : vm'.classes.size ≤ s.vm.classes.size) (hcell : s.heap[a]? = some cell) (hobj : ∀ k, cell.vm ≠ .statics k)
    (hk : ∃ k, vm'.classes[cell.cls]? = some k) (hc : ∃ k, vm'.classes[c]? = some k) :
    wp (findHandler.go f a (x :: t)) Q E e d acts s ↔
      if vm'.assignable cell.cls c = true then Q (.found x.handlerPc) d acts (s.setVm vm') else wp (findHandler.go f a t) Q E e d acts (s.setVm vm') := by
  simp only [covers] at hx
  obtain ⟨ha, ht⟩ := hg.op (op := VmOp.resolveClass f.method.cls x.catchType) rfl
  cases hfit : vm'.assignable cell.cls c
  · simp [findHandler.go, hx, h0, ha, ht, hsz, hcell, hobj, hk, hc, hfit, VmOp.dirties, VmOp.acts]
  · simp [findHandler.go, hx, h0, ha, ht, hsz, hcell, hobj, hk, hc, hfit, VmOp.dirties, VmOp.acts]
theorem stepCatchV {e : Env} {s s' : State} {a : Addr} {f : JFrame} {r : List Frame} {pc : Nat} (hfind : FdV e s f a (.found pc) s') :
    (stepThrowing e s a (.java f :: r)).Is (s'.setFrames (.java { f with pc := pc, stack := [.ref a] } :: r)) [] := by
  simp only [stepThrowing, searchFrame, vmDo]
  generalize hr : Sem.go _ e false [] s = res
  obtain ⟨as, rfl, ha⟩ := Sem.eq_ok_of hr (a := Handler.found pc) (s' := s') (acts' := []) (by simp [hfind _ _ _ _])
  exact ⟨rfl, ha⟩
theorem caughtV {tb : Tables} {e : Env} {s target : State} {g : JFrame} {c : Code} {below : List Frame} {a : Addr} {vm' : Vm} (h : At s g.method c below) {pc : Nat} (hfind : FdV e ((s.setTop g).pushFrame (.throwing a)) g a (.found pc) (((s.setVm vm').setTop g).pushFrame (.throwing a)))
    (hrest : Steps tb e below ((s.setVm vm').setTop { g with pc := pc, stack := [.ref a] }) target) :
    Steps tb e below ((s.setTop g).pushFrame (.throwing a)) target := by
  obtain ⟨hgo, hw⟩ := h.throwing a
  refine Steps.head hgo hw ?_
  rw [stepThread_throwing (frames_entered h.top _), (stepCatchV (s := (s.setTop g).pushFrame (.throwing a)) hfind).1]
  obtain ⟨g₀, hg⟩ := Option.isSome_iff_exists.mp h.top
  obtain ⟨r, hr⟩ := State.topJava?_eq_some.mp hg
  have hr' : (s.setVm vm').frames = .java g₀ :: r := hr
  rw [State.pushFrame, State.setFrames_setFrames, State.setTop_of_frames _ hr', State.setFrames_setFrames]
  rw [State.setTop_of_frames _ hr'] at hrest
  rw [hr]
  exact hrest
section CA
variable {p : Program} {l : Launch} {e : Env} {R : Room} {s : State} {m : MethodId} {args : Array Value} {below : List Frame} {meth : Method} {c : Code} {H : Heap} {locs : List Loc} {cells slots : Nat} {Q : State → Prop} {T : State}
/-- what a catch type says at the walk's state -/
theorem catchEntry (X : Stand p l e R s m args below meth c T locs cells slots) {own Cn : String} {index : Nat} (hown : s.vm.findClass own = some m.cls) (hl : (Cond.classLink own index Cn).before args s = true) :
    ∃ cC : ClassId, s.vm.findClass Cn = some cC ∧ (Jvm.resolveClass m.cls index).Gives e.toSetting T.vm (.ok cC) (T.vm.noted m.cls index (.cls cC)) ∧ s.WarmedH (T.vm.noted m.cls index (.cls cC)) := by
  have hpl : e.platform.magicAccessors = ({} : Platform).magicAccessors := by rw [X.admits.platform]
  obtain ⟨cc, hfcc, hcl⟩ := Cond.classLink_spec hown hl e.platform hpl
  obtain ⟨h1, h2, -⟩ := State.classEntry (e := e) X.warmed hcl
  exact ⟨cc, hfcc, h1, h2⟩
theorem st_fc {s : State} {C : String} {c : ClassId} {vm' : Vm} (h : s.vm.findClass C = some c) (hW : s.WarmedH vm') : ∃ k, vm'.classes[c]? = some k := by
  obtain ⟨k, hk, -⟩ := Vm.findClass_spec h
  obtain ⟨k', hk', -⟩ := hW.alike.2.2 _ _ hk
  exact ⟨k', hk'⟩
theorem catch1 (X : Stand p l e R s m args below meth c T locs cells slots) {own Xn Cn : String} {index : Nat} (hown : s.vm.findClass own = some m.cls) {x : ExceptionTableEntry} {rest : List ExceptionTableEntry} (hs : c.exceptionTable.toList = x :: rest) {g : JFrame} (hg : g.method = m) (hx : covers x g.pc = true) (hi : x.catchType = index) (h0 : index ≠ 0)
    (hl : (Cond.classLink own index Cn).before args s = true) (hca : (Cond.castable Xn Cn).before args s = true) {a : Addr} {cell : Cell} (hcell : T.heap[a]? = some cell) (hvm : cell.vm = .none) (hcls : s.vm.findClass Xn = some cell.cls) :
    ∃ vm', Stand p l e R s m args below meth c (T.setVm vm') locs cells slots ∧ ∀ target, Steps p.tables e below ((T.setVm vm').setTop { g with pc := x.handlerPc, stack := [.ref a] }) target → Steps p.tables e below ((T.setTop g).pushFrame (.throwing a)) target := by
  subst hi
  obtain ⟨cC, hf, hG, hW⟩ := catchEntry X hown hl
  obtain ⟨c1, t1, f1, f2, f3⟩ := Cond.castable_spec hca
  cases hcls.symm.trans f1
  cases hf.symm.trans f2
  refine ⟨_, X.noted hW, fun target h => caughtV (vm' := T.vm.noted m.cls x.catchType (.cls cC)) (by rw [hg]; exact X.here) ?_ h⟩
  intro Q' E d acts
  have hm : ((T.setTop g).pushFrame (.throwing a)).vm = T.vm := Stand.throwing_vm T g a
  have hh : ((T.setTop g).pushFrame (.throwing a)).heap = T.heap := Stand.throwing_heap T g a
  rw [W.findHandler_eq (meth := meth) (code := c) (by rw [hm, hg]; exact X.method') X.code, hs]
  rw [go_cold (vm' := T.vm.noted m.cls x.catchType (.cls cC)) (c := cC) (cell := cell) hx h0 (by rw [hm, hg]; exact hG) (by rw [hm]; have h2 := hW.2.1; have h3 := X.warmed.2.1; omega) (by rw [hh]; exact hcell) (fun k h => by rw [hvm] at h; cases h) (st_fc hcls hW) (st_fc hf hW),
    if_pos (by rw [hW.alike.assignable]; exact f3)]
  have e1 : ((T.setTop g).pushFrame (.throwing a)).setVm (T.vm.noted m.cls x.catchType (.cls cC)) = ((T.setVm (T.vm.noted m.cls x.catchType (.cls cC))).setTop g).pushFrame (.throwing a) := by rfl
  rw [e1]
theorem catch2 (X : Stand p l e R s m args below meth c T locs cells slots) {own Xn C1 C2 : String} {i1 i2 : Nat} (hown : s.vm.findClass own = some m.cls) {x1 x2 : ExceptionTableEntry} {rest : List ExceptionTableEntry} (hs : c.exceptionTable.toList = x1 :: x2 :: rest) {g : JFrame} (hg : g.method = m) (hx1 : covers x1 g.pc = true) (hx2 : covers x2 g.pc = true) (hi1 : x1.catchType = i1) (hi2 : x2.catchType = i2) (h01 : i1 ≠ 0) (h02 : i2 ≠ 0)
    (hl1 : (Cond.classLink own i1 C1).before args s = true) (hl2 : (Cond.classLink own i2 C2).before args s = true) (hno : (Cond.not (.castable Xn C1)).before args s = true) (hca : (Cond.castable Xn C2).before args s = true) {a : Addr} {cell : Cell} (hcell : T.heap[a]? = some cell) (hvm : cell.vm = .none) (hcls : s.vm.findClass Xn = some cell.cls) :
    ∃ vm', Stand p l e R s m args below meth c (T.setVm vm') locs cells slots ∧ ∀ target, Steps p.tables e below ((T.setVm vm').setTop { g with pc := x2.handlerPc, stack := [.ref a] }) target → Steps p.tables e below ((T.setTop g).pushFrame (.throwing a)) target := by
  subst hi1; subst hi2
  obtain ⟨cA, hfA, hGA, hWA⟩ := catchEntry X hown hl1
  have X1 := X.noted hWA
  obtain ⟨cC, hf, hG, hW⟩ := catchEntry X1 hown hl2
  obtain ⟨c1, t1, f1, f2, f3⟩ := Cond.castable_spec hca
  cases hcls.symm.trans f1
  cases hf.symm.trans f2
  have hnot : s.vm.assignable cell.cls cA = false := by
    cases hb : s.vm.assignable cell.cls cA with
    | false => rfl
    | true => simp [Cond.before, Cond.holds, Cond.value, hcls, hfA, hb] at hno
  have hV : (T.setVm (T.vm.noted m.cls x1.catchType (.cls cA))).vm = T.vm.noted m.cls x1.catchType (.cls cA) := rfl
  rw [hV] at hG hW
  generalize hvA : T.vm.noted m.cls x1.catchType (.cls cA) = vA at hGA hWA X1 hG hW hV
  generalize hvB : vA.noted m.cls x2.catchType (.cls cC) = vB at hG hW
  refine ⟨vB, X.noted hW, fun target h => caughtV (vm' := vB) (by rw [hg]; exact X.here) ?_ h⟩
  intro Q' E d acts
  have hm : ((T.setTop g).pushFrame (.throwing a)).vm = T.vm := Stand.throwing_vm T g a
  have hh : ((T.setTop g).pushFrame (.throwing a)).heap = T.heap := Stand.throwing_heap T g a
  rw [W.findHandler_eq (meth := meth) (code := c) (by rw [hm, hg]; exact X.method') X.code, hs]
  rw [go_cold (vm' := vA) (c := cA) (cell := cell) hx1 h01 (by rw [hm, hg]; exact hGA) (by rw [hm]; have h2 := hWA.2.1; have h3 := X.warmed.2.1; omega) (by rw [hh]; exact hcell) (fun k h => by rw [hvm] at h; cases h) (st_fc hcls hWA) (st_fc hfA hWA),
    if_neg (by rw [hWA.alike.assignable, hnot]; decide)]
  rw [go_cold (s := (((T.setTop g).pushFrame (.throwing a)).setVm vA)) (vm' := vB) (c := cC) (cell := cell) hx2 h02 (by rw [hg]; exact hG) (by show _ ≤ vA.classes.size; have h2 := hW.2.1; have h3 := hWA.2.1; omega) (by show ((T.setTop g).pushFrame (.throwing a)).heap[a]? = _; rw [hh]; exact hcell) (fun k h => by rw [hvm] at h; cases h) (st_fc hcls hW) (st_fc hf hW),
    if_pos (by rw [hW.alike.assignable]; exact f3)]
  have e1 : (((T.setTop g).pushFrame (.throwing a)).setVm vA).setVm vB = ((T.setVm vB).setTop g).pushFrame (.throwing a) := by rfl
  rw [e1]
end CA
