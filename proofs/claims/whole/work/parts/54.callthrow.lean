/-! A call by a throwing contract; methods with handlers; the law's long array. -/
section CT
variable {p : Program} {l : Launch} {e : Env} {R : Room} {s : State} {m : MethodId} {args : Array Value} {below : List Frame} {meth : Method} {c : Code} {H : Heap} {locs : List Loc} {cells slots : Nat} {Q : State → Prop}
variable {cc : ByteArray} {pc : Nat} {ls : Array Slot} {rest : List Value} {D : va_G} {dA : Nat → ClassId} {hp0 hp : aH} {sz b0 nL : Nat} {cd : Cond} {ret : Option FieldType} {K S S1 : cS} {Z : State → Prop} {own : String} {cl : List vw_C} {tys : List (ClassId × FieldType)} {Ts : List Cond} {H0 : Heap}
variable {rv : Option Value} {index n maxL fr lo mc ms b z : Nat} {y : MethodName} {bytes : ByteArray} {retc : Option FieldType} {As st0 : List Value} {lo0 : List (Option Value)}
theorem k_callT {X : String} (B : BX p m c cc nL s args (cd :: wsA) own meth ret D vwCl (tyL dA) b0 Z) (hR : CR b0 K Z) (hl : lx ls lo0) (hlo : lo0.length = nL) (I : AI D vwCl b0 (cH dA b0 S hp0) sz s.heap H locs)
    (hM : CtT l D vwCl (tyL dA) b0 Z y (.code y bytes maxL retc :: wsA) fr lo (.ref b :: As) (cH dA b0 S hp0) sz X) (kw : kW own index (cC z) y (.code y bytes maxL retc) n) (hz : 1 ≤ z ∧ z ≤ 8) (hk : kd b0 K S b = z) (hn : As.length = n)
    (hfr : fr + 1 ≤ R.frames) (hlc : 8 + (maxL + 11) + lo ≤ R.locals) (hst : st0 = As.reverse ++ .ref b :: rest) (hW : (rest.map fun v => v.category).sum ≤ 8) (hdg : decode cc pc = .ok (.invokevirtual index, 3)) (hcells : cells + 1 ≤ R.cells) (hslots : slots + 6 ≤ R.slots)
    (kk : ∀ (T' : State) (locs1 : List Loc) (a : Nat) (cell : Cell), AI D vwCl b0 (cH dA b0 S hp0) (sz + 1) s.heap T'.heap locs1 → T'.heap[a]? = some cell → cell.vm = .none → s.vm.findClass X = some cell.cls → Stand p l e R s m args below meth c T' locs1 (cells + 1) (slots + 6) →
      ∃ t, Steps p.tables e below ((T'.setTop (F0 m pc ls rest)).pushFrame (.throwing a)) t ∧ Q t) :
    W p l e R s m args below meth c H locs cells slots Q (F0 m pc ls st0) := by
  have hts : ∀ w ∈ wsA, w.before args s = true := fun w hw => B.1.2.2.2.2 w (List.mem_cons_of_mem _ hw)
  have cw : CallW R s args own (cC z) index y bytes maxL retc (.code y bytes maxL retc :: wsA) { frames := fr, cells := 1, slots := 6, locals := lo } 1 6 n := cwV n hts kw.1 rfl rfl rfl kw.2 ⟨hfr, hlc⟩
  have hp : PreV s H (cC z) b (va_Pc (.ref b :: As) (CP D vwCl (tyL dA) b0 Z (cH dA b0 S hp0) sz)) As := ⟨(q_pre (av := .ref b :: As) B I).1, k_recv B hR I hz hk, (q_pre (av := .ref b :: As) B I).2⟩
  obtain ⟨⟨-, -, -, -, hws, hcw, hcode, hini, hy, hlen, hlink⟩, hinst, hsel⟩ := cw
  obtain ⟨hblind, ⟨cellB, hcB, hoB, hclB⟩, hPc⟩ := hp
  obtain ⟨hx, hb, hml, hown, -⟩ := B.1
  intro T hT X0
  obtain ⟨mk, methM, hnamed, hmethM, hstM, habM⟩ := Cond.instanceMethod_spec hinst
  obtain ⟨methM', cM, hmethM', hcM, -, hlM, -, -, -, hsigM⟩ := Cond.code_spec hnamed hcode
  cases hmethM.symm.trans hmethM'
  obtain ⟨c2, r2, m2, q1, q2, q3, q4, kP, hkP, hkPi⟩ := Cond.selects_spec hsel
  cases hclB.symm.trans q1
  cases (State.methodFound?_of_named hnamed hy).symm.trans q2
  cases hnamed.symm.trans q3
  have hselP : selectMethod e.platform s.vm cellB.cls mk = .method mk := by rw [Launch.admits_selectMethod X0.admits]; exact q4
  have hlsz : ls.size = c.maxLocals := by rw [hml, ← hlo]; exact hl.1
  have hdg' : decode c.code pc = .ok (.invokevirtual index, 3) := by rw [hb]; exact hdg
  obtain ⟨vm₁, X₁, hstep₁⟩ := X0.invokevirtual hx hown hlink hnamed hmethM hstM hkP hkPi hy (a := b) (cell := cellB) (by rw [hT]; exact hcB)
    (fun z h => by rw [h] at hoB; cases hoB) hselP hmethM habM hkP hkPi (g := F0 m pc ls st0) rfl (argsL := As) (rest := rest) (by rw [hn]; exact hlen _ hsigM) hst hdg'
  have hnT : (T.setVm vm₁).methodNamed? y = some mk := X₁.named hnamed
  obtain ⟨kY, hkY, -⟩ := className_of_methodNamed hnT
  have hW1 : s.WarmedH (T.setVm vm₁).vm := X₁.warmed
  have hinitY : kY.init = .initialized := Cond.initialized_spec (findClass_of_methodNamed hnT) hkY (word_at (a' := args) (U := T.setVm vm₁) hW1 (Or.inl (by first | rfl | simp [Cond.onTables, Cond.keeps, Cond.steady])) hini)
  have happ : (headSpec (.code y bytes maxL retc :: wsA) { frames := fr, cells := 1, slots := 6, locals := lo }).appliesLoose y e.platform ((T.setVm vm₁).calling (F0 m pc ls rest) mk (Value.ref b :: As).toArray) = true :=
    Spec.appliesLoose_calling (g := F0 m pc ls rest) X₁.here hdg' hnT hkY hinitY
      (X₁.room_calling (g := F0 m pc ls rest) (R' := { frames := fr, cells := 1, slots := 6, locals := lo }) hlsz (show (T.setVm vm₁).vm.method? mk = some methM by rw [hW1.alike.method?]; exact hmethM) hcM hfr (by
        have hW' : ((F0 m pc ls rest).stack.map fun v => v.category).sum ≤ 8 := hW
        have hlo' : ({ frames := fr, cells := 1, slots := 6, locals := lo } : Room).locals = lo := rfl
        rw [hlM]; show 2 * 0 + _ + _ + _ ≤ _; omega) hcells hslots) (atoms_intro fun w hw => hws w hw _ _ hW1)
  obtain ⟨mid, hmid⟩ := X₁.here.above
  have hfrm : ((T.setVm vm₁).setTop (F0 m pc ls rest)).frames = (.java (F0 m pc ls rest) :: mid) ++ below := by rw [State.frames_setTop' _ X₁.here.top, hmid]; rfl
  have hPP : va_Pc (.ref b :: As) (CP D vwCl (tyL dA) b0 Z (cH dA b0 S hp0) sz) (Value.ref b :: As).toArray ((T.setVm vm₁).calling (F0 m pc ls rest) mk (Value.ref b :: As).toArray) := hblind _ _ _ _ (hPc (T.setVm vm₁) hT hW1)
  unfold CtT MetT at hM
  obtain ⟨o, s₂, hsteps, -, hend, hq⟩ := Steps.callFree hM p X₁.admits X₁.cas X₁.clock (acts := []) hfrm happ hPP trivial
  obtain ⟨⟨a, cell, rfl, hsz2, hA2, hF2, hca, hcv, hcc⟩, L, ⟨-, hWm, hsm⟩, hL⟩ := hq
  have hfr1 : ((T.setVm vm₁).setTop (F0 m pc ls rest)).frames = .java (F0 m pc ls rest) :: below := by rw [State.frames_setTop' _ X₁.here.top, X₁.tail]
  rw [hfr1] at hend
  obtain ⟨T', X', hW', hsame', ht⟩ := X₁.outOfThrown (g := F0 m pc ls rest) rfl (mk := mk) (a := (Value.ref b :: As).toArray) hend hWm hsm
  have hh : T'.heap = s₂.heap := by rw [ht]; exact (Stand.throwing_heap T' _ a).symm
  have hstH : ((T.setVm vm₁).calling (F0 m pc ls rest) mk (Value.ref b :: As).toArray).heap = H := by rw [← hT]; rfl
  obtain ⟨iA, iz, ib, iS⟩ := I
  obtain ⟨f1, f2⟩ := hF2
  have f1' : H.size ≤ s₂.heap.size := by rw [← hstH]; exact f1
  have f2' : ∀ q : Nat, q < H.size → ¬ b0 ≤ q → s₂.heap[q]? = H[q]? := fun q h1 h2 => by
    have hh2 := f2 q (by show q < T.heap.size; rw [hT]; exact h1) h2
    exact hh2.trans (congrArg (fun h : Heap => h[q]?) hstH)
  obtain ⟨t, a1, b1⟩ := kk T' (locs ++ L) a cell ⟨by rw [hh]; exact hA2, by rw [hh]; exact hsz2, ib, ⟨Nat.le_trans iS.1 (by rw [hh]; exact f1'), fun q h1 h2 => by rw [hh, f2' q (Nat.lt_of_lt_of_le h1 iS.1) h2]; exact iS.2.1 q h1 h2, fun q hq => by
      rcases List.mem_append.mp hq with h | h
      · exact iS.2.2 q h
      · exact hL q h⟩⟩ (by rw [hh]; exact hca) hcv (by
        have hcc' : vm₁.findClass X = some cell.cls := hcc
        have ha : s.vm.Alike vm₁ := hW1.alike
        rw [ha.findClass] at hcc'; exact hcc') X'
  exact ⟨t, hstep₁ _ (fun acts => by rw [doInvoke_state]; exact hsteps.trans (by rw [ht]; exact a1)), b1⟩
theorem ct_ofW {y : MethodName} {ws ws' : List Cond} {av : List Value} {hp' : aH} {hh : List (Nat × Nat × Nat × Nat)}
    (hZ : ZC b0 Z) (hy : plainName y.cls = true) (hw : ws = Cond.codeWith y cc maxL ret hh :: ws') (hlen : (lg_sl av).length ≤ maxL) (hlo : lo0.length = maxL) (hla : lx_all 0 lo0 (lv_args 0 av))
    (body : ∀ (p : Program) (e : Env) (s : State) (m : MethodId) (args : Array Value) (below : List Frame) (meth : Method) (c : Code) (ls : Array Slot), BX p m c cc maxL s args ws y.cls meth ret D cl tys b0 Z → c.exceptionTable.toList.map (fun h => (h.startPc, h.endPc, h.handlerPc, h.catchType)) = hh → lx ls lo0 → AI D cl b0 hp sz s.heap s.heap [] →
      W p l e { frames := fr, cells := mc, slots := ms, locals := lo } s m args below meth c s.heap [] 0 0 (MQ below (CQ D cl b0 rv hp' (sz + mc)) args s mc ms (fun q => b0 ≤ q)) (F0 m 0 ls [])) :
    Ct l D cl tys b0 Z y ws fr lo av hp sz rv hp' mc ms := by
  refine va_MetW (cc := cc) (maxL := maxL) (ret := ret) (hh := hh) hy hw ?_
  intro p e s m args below meth c s₁ B hml hv
  obtain ⟨rfl, hsz, hb0, hA, hK, hZs⟩ := hv
  have hts := atoms_spec (ws := ws) B.pre
  have hown : s.vm.findClass y.cls = some m.cls := findClass_of_methodNamed B.named
  have hl := lv_entry av (n := maxL) hlen
  rw [lg_entry_eq]
  generalize (lg_sl av ++ List.replicate (maxL - (lg_sl av).length) Slot.unset).toArray = ls at hl ⊢
  have hx : c.exceptionTable.toList.map (fun h => (h.startPc, h.endPc, h.handlerPc, h.catchType)) = hh := by
    obtain ⟨m9, meth9, c9, hn9, h1, h2, -, -, h5, -⟩ := Cond.codeWith_spec (hts _ (by rw [hw]; exact List.mem_cons_self))
    cases B.named.symm.trans hn9
    cases B.method.symm.trans h1
    cases (Stand.of_body B).code.symm.trans h2
    exact h5
  exact body p e s m _ below meth c ls ⟨⟨B.exec, B.bytes, hml, hown, hts⟩, B.returns, B.notSynchronized, hK, hZs, hZ⟩ hx ⟨by rw [hl.1, hlo], hl.2.1, fun i v h => hl.2.2 (i, v) (by have := lx_all_at _ _ _ hla i v h; rwa [Nat.zero_add] at this)⟩ ⟨hA, hsz, by rw [hsz]; exact hb0, va_S.rf⟩
theorem q_last {a t0 : Nat} {cA : ClassId} {n : Nat} {f : Nat → Int64} {i : Int32} {x : Int64} (B : BX p m c cc nL s args Ts own meth ret D cl tys b0 Z) (I : AI D cl b0 hp sz H0 H locs) (he : hp a = some (.inl (cA, n, .inr (.inl f)))) (hba : b0 ≤ a) (ht : tys[t0]? = some (cA, .long)) (hin : vp_in i n) (hdg : decode cc pc = .ok (.lastore, 1))
    (kk : ∀ (H1 : Heap) (locs1 : List Loc), AI D cl b0 (va_up hp a (some (.inl (cA, n, .inr (.inl (va_up f i.toNatClampNeg x)))))) sz H0 H1 locs1 → W p l e R s m args below meth c H1 locs1 cells slots Q (F0 m (pc + 1) ls rest)) : W p l e R s m args below meth c H locs cells slots Q (F0 m pc ls (.long x :: .int i :: .ref a :: rest)) := by
  obtain ⟨⟨hx, hb, -, -, -⟩, -, -, hK, -⟩ := B
  refine W.last hx hb (I.1 a _ he) ((hK.2 t0 _ ht).1 n (fun j => .long (f j))) (fun q => by cases q) (by show ¬ (i < 0 ∨ (arrV _ _ _).slots.size ≤ _); rw [arrV_size]; exact hin) rfl rfl hdg fun H1 e z oq => ?_
  refine kk H1 _ ⟨I.1.up ?_ oq, by rw [z]; exact I.2.1, I.2.2.1, I.2.2.2.put z oq hba⟩
  show H1[a]? = some (vp_cell _ _)
  rw [e, vp_cell_l, vp_cell_l, arrV_store]
  congr 2
  funext q
  by_cases hq : q = i.toNatClampNeg
  · subst hq; simp [updV, va_up]
  · simp [updV, va_up, hq]
end CT
