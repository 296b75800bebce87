/-! Methods that throw: contracts, and the row of 'throw new X()'. -/
def MT (below : List Frame) (Qc : Array Value → State → Outcome → State → Prop) (a : Array Value) (s : State) (mc ms : Nat) (free : Addr → Prop) : State → Prop := fun t =>
  ∃ o, t.status = .running ∧ Ended t below o ∧ Qc a s o t ∧ ∃ L, FramedT s o t L mc ms ∧ ∀ q ∈ L, free q.base
def MetT (l : Launch) (y : MethodName) (ws : List Cond) (rm : Room) (Pc : Array Value → State → Prop) (Qc : Array Value → State → Outcome → State → Prop) (mc ms : Nat) (free : Addr → Prop) : Prop :=
  MetFree l y (headSpec ws rm) Pc (fun _ _ _ _ _ => True) (fun a st o t => Qc a st o t ∧ ∃ L, FramedT st o t L mc ms ∧ ∀ q ∈ L, free q.base)
def CTh (D : va_G) (cl : List vw_C) (b0 : Nat) (X : String) (hp : aH) (sz : Nat) : Array Value → State → Outcome → State → Prop :=
  fun _ st oc t => ∃ (a : Nat) (cell : Cell), oc = .threw a ∧ t.heap.size = sz ∧ AH D cl hp t.heap ∧ va_F (fun q => b0 ≤ q) st t ∧ t.heap[a]? = some cell ∧ cell.vm = .none ∧ st.vm.findClass X = some cell.cls
def CtT (l : Launch) (D : va_G) (cl : List vw_C) (tys : List (ClassId × FieldType)) (b0 : Nat) (Z : State → Prop) (y : MethodName) (ws : List Cond) (fr lo : Nat) (av : List Value) (hp : aH) (sz : Nat) (X : String) : Prop :=
  MetT l y ws { frames := fr, cells := 1, slots := 6, locals := lo } (va_Pc av (CP D cl tys b0 Z hp sz)) (CTh D cl b0 X hp (sz + 1)) 1 6 (fun q => b0 ≤ q)
theorem ct_ofT {l : Launch} {D : va_G} {cl : List vw_C} {tys : List (ClassId × FieldType)} {b0 : Nat} {Z : State → Prop} {y : MethodName} {ws ws' : List Cond} {fr lo : Nat} {av : List Value} {hp : aH} {sz : Nat} {X : String} {cc : ByteArray} {maxL : Nat} {ret : Option FieldType} {lo0 : List (Option Value)}
    (hZ : ZC b0 Z) (hy : plainFor y = true) (hw : ws = Cond.code y cc maxL ret :: ws') (hlen : (lg_sl av).length ≤ maxL) (hlo : lo0.length = maxL) (hla : lx_all 0 lo0 (lv_args 0 av))
    (body : ∀ (p : Program) (e : Env) (s : State) (m : MethodId) (args : Array Value) (below : List Frame) (meth : Method) (c : Code) (ls : Array Slot), BX p m c cc maxL s args ws y.cls meth ret D cl tys b0 Z → c.exceptionTable.isEmpty = true → lx ls lo0 → AI D cl b0 hp sz s.heap s.heap [] →
      W p l e { frames := fr, cells := 1, slots := 6, locals := lo } s m args below meth c s.heap [] 0 0 (MT below (CTh D cl b0 X hp (sz + 1)) args s 1 6 (fun q => b0 ≤ q)) (F0 m 0 ls [])) :
    CtT l D cl tys b0 Z y ws fr lo av hp sz X := by
  unfold CtT MetT
  refine MetFree.of_bodySF (code := cc) (maxLocals := maxL) (ret := ret) hy ?_ ?_
  · intro args s m h hn
    obtain ⟨meth, c, h1, h2, h3, h4, h5, h6, -, -⟩ := Cond.code_spec hn (atoms_spec (ws := ws) h _ (by rw [hw]; exact List.mem_cons_self))
    exact ⟨meth, c, h1, h2, h3, h4, h5, h6⟩
  · intro p e s m args below meth c s₁ B hml hv _
    have hh0 : s₁.heap = s.heap := by rw [B.state]; rfl
    obtain ⟨rfl, hsz, hb0, hA, hK, hZs⟩ := hv
    have hts := atoms_spec (ws := ws) B.pre
    have hown : s.vm.findClass y.cls = some m.cls := findClass_of_methodNamed B.named
    have hl := lv_entry av (n := maxL) hlen
    rw [lg_entry_eq]
    generalize (lg_sl av ++ List.replicate (maxL - (lg_sl av).length) Slot.unset).toArray = ls at hl ⊢
    obtain ⟨t, a1, o, b1, b2, b3⟩ := body p e s m _ below meth c ls ⟨⟨B.exec, B.bytes, hml, hown, hts⟩, B.returns, B.notSynchronized, hK, hZs, hZ⟩ (B.noHandlers (hts _ (by rw [hw]; exact List.mem_cons_self))) ⟨by rw [hl.1, hlo], hl.2.1, fun i v h => hl.2.2 (i, v) (by have := lx_all_at _ _ _ hla i v h; rwa [Nat.zero_add] at this)⟩ ⟨hA, hsz, by rw [hsz]; exact hb0, va_S.rf⟩ s₁ hh0 (Stand.of_body B)
    exact ⟨t, o, a1, b1, b2, ⟨b3.1, b3.2⟩⟩
theorem zq_isRef {C n d : String} {A : Nat → Prop} {s : State} {args : Array Value} (h : va_Zq C n d A s s.heap) : (Cond.isRef (.static C n d)).before args s = true := by
  rcases h with ⟨cf, kf, fi, f, a, cell, h1, h2, h3, h4, h5, h6, h7, h8⟩ | ⟨t, cf, kf, fi, f, a, cell, h1, h2, h3, h4, h5, h6, h7, h8⟩
  · have := Term.static_eval (args := args) (first := s) (o := none) (idx := []) h1 h2 h4 h5 h6 h7
    simp [Cond.before, Cond.holds, Cond.value, this]
  · have := Term.static_eval (args := args) (first := s) (o := none) (idx := []) h1 h2 h4 h5 h6 h7
    simp [Cond.before, Cond.holds, Cond.value, this]
section TH
variable {p : Program} {l : Launch} {e : Env} {R : Room} {s : State} {m : MethodId} {args : Array Value} {below : List Frame} {meth : Method} {c : Code} {H : Heap} {locs : List Loc} {cells slots : Nat} {Q : State → Prop} {T : State}
variable {cc : ByteArray} {pc : Nat} {ls : Array Slot} {rest : List Value} {D : va_G} {dA : Nat → ClassId} {hp0 hp : aH} {sz b0 nL : Nat} {cd : Cond} {ret : Option FieldType} {K S S1 : cS} {Z : State → Prop} {own : String} {lo0 : List (Option Value)}
def reb (s T : State) : State := { s with heap := T.heap, slotsUsed := T.slotsUsed }
theorem st_rebase (X : Stand p l e R s m args below meth c T locs cells slots) {R' : Room} (h1 : R'.frames ≤ R.frames) (h2 : R'.locals ≤ R.locals) (h3 : cells + R'.cells ≤ R.cells) (h4 : slots + R'.slots ≤ R.slots) :
    Stand p l e R' (reb s T) m args below meth c T [] 0 0 := by
  have hz := X.heapSize
  have hu := X.used
  have hb := X.book
  refine ⟨X.admits, X.cas, X.clock, X.frames, ?_, X.hears, X.method, X.code, X.here, X.tail, X.warmed, X.limits, X.bytes, ?_⟩
  · have h := X.room
    simp only [State.hasRoom, Bool.and_eq_true, decide_eq_true_eq] at h ⊢
    obtain ⟨⟨⟨⟨a1, a2, a3, a4, a5, a6⟩, a7⟩, a8⟩, a9⟩ := h
    have e1 : (reb s T).localsInUse = s.localsInUse := rfl
    have e2 : (reb s T).frames = s.frames := rfl
    have e3 : (reb s T).me = s.me := rfl
    have e4 : (reb s T).heap = T.heap := rfl
    have e5 : (reb s T).slotsUsed = T.slotsUsed := rfl
    rw [e1, e2, e3, e4, e5]
    exact ⟨⟨⟨⟨by omega, by omega, by omega, by omega, by omega, a6⟩, by omega⟩, by omega⟩, hb⟩
  · obtain ⟨q1, -⟩ := X.same
    refine ⟨q1, Nat.le_refl _, Nat.le_refl _, ?_, ?_, fun a c h => ⟨c, h, rfl, rfl, fun i _ => rfl⟩⟩
    · show T.slotsUsed = T.slotsUsed + ((T.heap.toList.drop T.heap.size).map (·.slots.size)).sum
      rw [List.drop_eq_nil_of_le (Nat.le_of_eq (by simp))]
      rfl
    · show ((T.heap.toList.drop T.heap.size).map (·.slots.size)).sum ≤ 0
      rw [List.drop_eq_nil_of_le (Nat.le_of_eq (by simp))]
      exact Nat.le_refl _
theorem same_reb (X : Stand p l e R s m args below meth c T locs cells slots) : s.sameButNew (reb s T) locs cells slots := by
  obtain ⟨q1, q2, q3, q4, q5, q6⟩ := X.same
  refine ⟨?_, q2, q3, q4, q5, q6⟩
  obtain ⟨t, ht, -⟩ := State.frames_cons X.frames
  show reb s T = { s.setFrames s.frames with heap := T.heap, slotsUsed := T.slotsUsed }
  rw [State.setFrames_self ht]
  rfl
theorem same_cells {s U : State} {k n : Nat} (h : s.sameButNew U [] k n) {q : Nat} (hq : q < s.heap.size) : U.heap[q]? = s.heap[q]? := by
  obtain ⟨-, -, -, -, -, h6⟩ := h
  have hc : s.heap[q]? = some s.heap[q] := Array.getElem?_eq_getElem hq
  obtain ⟨c', h1, h2, h3, h4⟩ := h6 q _ hc
  rw [h1, hc]
  have : c'.slots = s.heap[q].slots := Array.ext_getElem? (fun i => h4 i (by simp))
  rw [h2, this]
theorem k_throw {X : String} {ic index : Nat} (B : BX p m c cc nL s args (cd :: wsA) own meth ret D vwCl (tyL dA) b0 Z) (hR : CR b0 K Z) (hE : c.exceptionTable.isEmpty = true) (hf : l.flags = pinnedFlags ++ [noTraceFlag]) (hl : lx ls lo0) (hlo : lo0.length = nL) (I : AI D vwCl b0 (cH dA b0 S hp0) sz s.heap H locs)
    (hat : ∀ s' : State, s'.vm = s.vm → Z s' → ∀ a ∈ Bundle.ownAtoms0 own ic X ["java/lang/RuntimeException", "java/lang/Exception"], a.before args s' = true) (hX : Bundle.fit X = true) (hcl : Cond.classLink own index X ∈ wsA) (hins : Cond.instantiable X 6 ∈ wsA) (hini : Cond.initialized X ∈ wsA)
    (hfr : 6 ≤ R.frames) (hlc : (rest.map fun v => v.category).sum + 100 ≤ R.locals) (hcells : cells + 1 ≤ R.cells) (hslots : slots + 6 ≤ R.slots)
    (d1 : decode cc pc = .ok (.new index, 3)) (d2 : decode cc (pc + 3) = .ok (.dup, 1)) (d3 : decode cc (pc + 4) = .ok (.invokespecial ic, 3)) (d4 : decode cc (pc + 7) = .ok (.athrow, 1)) :
    W p l e R s m args below meth c H locs cells slots (MT below (CTh D vwCl b0 X (cH dA b0 S hp0) (sz + 1)) args s (cells + 1) (slots + 6) (fun q => b0 ≤ q)) (F0 m pc ls rest) := by
  intro T hT X0
  have hts : ∀ w ∈ wsA, w.before args s = true := fun w hw => B.1.2.2.2.2 w (List.mem_cons_of_mem _ hw)
  obtain ⟨⟨hx, hb, hml, hown, -⟩, -, hlk, -, hZs, hZC⟩ := B
  have Y := st_rebase (R' := { frames := R.frames, cells := 1, slots := 6, locals := R.locals }) X0 (Nat.le_refl _) (Nat.le_refl _) hcells hslots
  have hZ' : Z (reb s T) := hZC s (reb s T) hZs (State.WarmedH.refl s) (fun q hq => by
    show T.heap[q]? = s.heap[q]?
    rw [hT]
    exact I.2.2.2.2.1 q (Nat.lt_of_lt_of_le hq I.2.2.1) (by omega))
  have hwd : ∀ w ∈ wsA, w.before args (reb s T) = true := fun w hw => by
    have := hts w hw
    exact word_at (s := s) (U := reb s T) (State.WarmedH.refl s) (wsA_good hw).2 this
  have htr : e.platform.stackTraces = false := Launch.traces_off hf X0.admits
  obtain ⟨vm₁, cX, kX, hfX, hkX, -, -, X₁, st1⟩ := Y.newCold hx (own := own) (C := X) (index := index) (n := 6) hown (hwd _ hcl) (hwd _ hins) (hwd _ hini)
    (g := F0 m pc ls rest) rfl (by rw [hb]; exact d1) (Nat.le_refl _) (Nat.le_refl _)
  generalize hT1 : (T.setVm vm₁).pushCell { cls := cX, slots := kX.instanceTypes.map defaultValue, vm := .none } = T1 at X₁ st1
  have hcellA : T1.heap[T.heap.size]? = some (freshCell cX kX) := by rw [← hT1]; exact State.heap_pushCell_size _ _
  have hlsz : ls.size = c.maxLocals := by rw [hml, ← hlo]; exact hl.1
  obtain ⟨U, hsteps, hrun, hend, hW, hsame, ce, hce, KO⟩ := X₁.ctorThrow0 hx htr (own := own) (cls := X) (names := ["java/lang/RuntimeException", "java/lang/Exception"]) (ic := ic) hown hX (by decide +kernel)
    (hat _ rfl hZ') (fun y hy => by cases hy) hfX hkX hcellA (Nat.le_refl _)
    (g := F0 m (pc + 4) ls (.ref T.heap.size :: .ref T.heap.size :: rest)) rfl hlsz rfl rfl (rest := rest) rfl
    (by rw [hb]; exact d3) (by rw [hb]; exact d4) (covers_of_empty hE _) (by show 2 + 3 < R.frames; omega) (by show 2 * 0 + (1 + (rest.map fun v => v.category).sum) + 80 ≤ R.locals; omega) hlk
  have hTsz : T.heap.size = sz := by rw [hT]; exact I.2.1
  have hcells' : ∀ q : Nat, q < sz → U.heap[q]? = H[q]? := fun q hq => by
    have := same_cells (U := { U with vm := (reb s T).vm }) hsame (q := q) (by show q < T.heap.size; omega)
    rw [← hT]
    exact this
  refine ⟨U, st1 _ ?_, .threw T.heap.size, hrun, hend, ⟨T.heap.size, ce, rfl, ?_, ?_, ?_, hce, KO.vm, KO.cls⟩, locs, ⟨⟨_, rfl⟩, ?_, ?_⟩, I.2.2.2.2.2⟩
  · show Steps p.tables e below (T1.setTop (F0 m (pc + 3) ls (.ref T.heap.size :: rest))) U
    have hd : decode c.code (pc + 3) = .ok (.dup, 1) := by rw [hb]; exact d2
    jvm_step X₁.here [X₁.here.top, hx, hd]
    exact ⟨rfl, hsteps⟩
  · have h1 : U.heap.size ≤ T.heap.size + 1 := hsame.2.2.1
    have h2 : T.heap.size < U.heap.size := (Array.getElem?_eq_some_iff.mp hce).1
    omega
  · intro q x hq
    have h0 := I.1 q x hq
    exact h0.kept (hcells' q (by have := h0.lt; rw [I.2.1] at this; exact this))
  · have h2 : T.heap.size < U.heap.size := (Array.getElem?_eq_some_iff.mp hce).1
    have h3 := I.2.2.2.1
    rw [I.2.1] at h3
    refine ⟨by omega, fun q h4 h5 => ?_⟩
    rw [hcells' q (by omega)]
    exact I.2.2.2.2.1 q h4 h5
  · exact hW
  · have h := State.sameButNew.trans (same_reb X0) hsame
    simp only [List.append_nil, Nat.zero_add] at h
    exact h
end TH
