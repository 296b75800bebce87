/-! The class's world, on: calls, ends of methods that make cells, constants. -/
abbrev kW (own : String) (index : Nat) (C : String) (y : MethodName) (cdy : Cond) (n : Nat) : Prop := GoodIn wsA (wsV own index C y (cdy :: wsA)) ∧ y.cls = C ∧ y.cls ≠ "java/lang/invoke/MethodHandle" ∧ y.cls ≠ "java/lang/invoke/VarHandle" ∧ (parseMethodDescriptor y.desc).map (fun d => d.parameters.length) = some n
abbrev kWS (own : String) (index : Nat) (y : MethodName) (cdy : Cond) (n : Nat) : Prop := GoodIn wsA (va_wsS own index y (cdy :: wsA)) ∧ y.cls ≠ "java/lang/invoke/MethodHandle" ∧ y.cls ≠ "java/lang/invoke/VarHandle" ∧ (parseMethodDescriptor y.desc).map (fun d => d.parameters.length) = some n
/-- words of a call of a nest mate's -/
abbrev kWN (own : String) (index : Nat) (host : String) (y : MethodName) (cdy : Cond) (n : Nat) : Prop := cdy ∈ wsA ∧ Cond.methodLinkNest own index y host ∈ nwA ∧ Cond.initialized y.cls ∈ wsA ∧ y.cls ≠ "java/lang/invoke/MethodHandle" ∧ y.cls ≠ "java/lang/invoke/VarHandle" ∧ (parseMethodDescriptor y.desc).map (fun d => d.parameters.length) = some n
abbrev kWI (own : String) (index : Nat) (y : MethodName) (cdy : Cond) (n : Nat) : Prop := (cdy ∈ wsA ∧ Cond.initialized y.cls ∈ wsA ∧ Cond.methodLink own index y ∈ wsA ∧ Cond.instanceMethod y ∈ wsA) ∧ y.name = "<init>" ∧ y.cls ≠ "java/lang/invoke/MethodHandle" ∧ y.cls ≠ "java/lang/invoke/VarHandle" ∧ (parseMethodDescriptor y.desc).map (fun d => d.parameters.length) = some n
section KV
variable {p : Program} {l : Launch} {e : Env} {R : Room} {s : State} {m : MethodId} {args : Array Value} {below : List Frame} {meth : Method} {c : Code} {H : Heap} {locs : List Loc} {cells slots : Nat} {Q : State → Prop}
variable {cc : ByteArray} {pc : Nat} {ls : Array Slot} {rest : List Value} {D : va_G} {dA : Nat → ClassId} {hp0 hp : aH} {sz b0 nL : Nat} {cd : Cond} {ret : Option FieldType} {K S S1 : cS} {Z : State → Prop} {own ref host : String} {cl : List vw_C} {tys : List (ClassId × FieldType)} {Ts : List Cond} {H0 : Heap}
variable {rv : Option Value} {index n maxL fr lo mc ms b z : Nat} {y : MethodName} {bytes : ByteArray} {retc : Option FieldType} {As st0 : List Value} {lo0 : List (Option Value)}
theorem k_recv (B : BX p m c cc nL s args (cd :: wsA) own meth ret D vwCl (tyL dA) b0 Z) (hR : CR b0 K Z) (I : AI D vwCl b0 (cH dA b0 S hp0) sz s.heap H locs) (hz : 1 ≤ z ∧ z ≤ 8) (h : kd b0 K S b = z) : ∃ cell : Cell, H[b]? = some cell ∧ cell.vm.isStatics = false ∧ s.vm.findClass (cC z) = some cell.cls := by
  have X := hR.2 s B.2.2.2.2.1
  by_cases ha : b < b0
  · unfold kd at h
    rw [if_pos ha] at h
    have h6 : z = 6 := by rcases X.2.2.2.2.2.1 b ha with q | q | q | q <;> omega
    subst h6
    obtain ⟨cell, h1, h2, h3, -⟩ := (X.2.2.2.2.2.2.1 b ha h).1.kept I.2.2.2.2.1
    exact ⟨cell, h1, h2, h3⟩
  · unfold kd at h
    rw [if_neg ha] at h
    exact q_recv B.2.2.2.1 I (hcC hz) (cH_o hz h)
theorem k_callV (B : BX p m c cc nL s args (cd :: wsA) own meth ret D vwCl (tyL dA) b0 Z) (hR : CR b0 K Z) (hl : lx ls lo0) (hlo : lo0.length = nL) (I : AI D vwCl b0 (cH dA b0 S hp0) sz s.heap H locs)
    (hM : Ct l D vwCl (tyL dA) b0 Z y (.code y bytes maxL retc :: wsA) fr lo (.ref b :: As) (cH dA b0 S hp0) sz rv (cH dA b0 S1 hp0) mc ms) (kw : kW own index (cC z) y (.code y bytes maxL retc) n) (hz : 1 ≤ z ∧ z ≤ 8) (hk : kd b0 K S b = z) (hn : As.length = n)
    (hfr : fr + 1 ≤ R.frames) (hlc : 8 + (maxL + 11) + lo ≤ R.locals) (hst : st0 = As.reverse ++ .ref b :: rest) (hW : (rest.map fun v => v.category).sum ≤ 8) (hdg : decode cc pc = .ok (.invokevirtual index, 3)) (hcells : cells + mc ≤ R.cells) (hslots : slots + ms ≤ R.slots)
    (kk : ∀ (H1 : Heap) (locs1 : List Loc), AI D vwCl b0 (cH dA b0 S1 hp0) (sz + mc) s.heap H1 locs1 → W p l e R s m args below meth c H1 locs1 (cells + mc) (slots + ms) Q (F0 m (pc + 3) ls (rv.toList ++ rest))) :
    W p l e R s m args below meth c H locs cells slots Q (F0 m pc ls st0) := by
  have hts : ∀ w ∈ wsA, w.before args s = true := fun w hw => B.1.2.2.2.2 w (List.mem_cons_of_mem _ hw)
  exact q_call (va_runV (As := As) (rest := rest) (b := b) (C := cC z) ⟨B.1.1, B.1.2.1, B.1.2.2.1, B.1.2.2.2.1, hts⟩ hM (cwV n hts kw.1 rfl rfl rfl kw.2 ⟨hfr, hlc⟩) ⟨(q_pre (av := .ref b :: As) B I).1, k_recv B hR I hz hk, (q_pre (av := .ref b :: As) B I).2⟩ rfl hn (by rw [← hlo]; exact hl.1) hst (lv_room hW) hdg ⟨hcells, hslots⟩) I kk
theorem k_callVN (B : BX p m c cc nL s args (cd :: wsA) own meth ret D vwCl (tyL dA) b0 Z) (hR : CR b0 K Z) (hl : lx ls lo0) (hlo : lo0.length = nL) (I : AI D vwCl b0 (cH dA b0 S hp0) sz s.heap H locs)
    (hM : Ct l D vwCl (tyL dA) b0 Z y (.code y bytes maxL retc :: wsA) fr lo (.ref b :: As) (cH dA b0 S hp0) sz rv (cH dA b0 S1 hp0) mc ms) (kw : kWN own index host y (.code y bytes maxL retc) n ∧ Cond.instanceMethod y ∈ wsA ∧ Cond.selects (cC z) y y ∈ wsA) (hz : 1 ≤ z ∧ z ≤ 8) (hk : kd b0 K S b = z) (hn : As.length = n)
    (hfr : fr + 1 ≤ R.frames) (hlc : 8 + (maxL + 11) + lo ≤ R.locals) (hst : st0 = As.reverse ++ .ref b :: rest) (hW : (rest.map fun v => v.category).sum ≤ 8) (hdg : decode cc pc = .ok (.invokevirtual index, 3)) (hcells : cells + mc ≤ R.cells) (hslots : slots + ms ≤ R.slots)
    (kk : ∀ (H1 : Heap) (locs1 : List Loc), AI D vwCl b0 (cH dA b0 S1 hp0) (sz + mc) s.heap H1 locs1 → W p l e R s m args below meth c H1 locs1 (cells + mc) (slots + ms) Q (F0 m (pc + 3) ls (rv.toList ++ rest))) :
    W p l e R s m args below meth c H locs cells slots Q (F0 m pc ls st0) := by
  have hts : ∀ w ∈ wsA, w.before args s = true := fun w hw => B.1.2.2.2.2 w (List.mem_cons_of_mem _ hw)
  have X := hR.2 s B.2.2.2.2.1
  exact q_call (va_runVN (As := As) (rest := rest) (b := b) (C := cC z) ⟨B.1.1, B.1.2.1, B.1.2.2.1, B.1.2.2.2.1, hts⟩ hM ⟨va_cnB n hts (gC kw.1.1) rfl rfl rfl (X.1 _ kw.1.2.1) (hts _ kw.1.2.2.1) kw.1.2.2.2 ⟨hfr, hlc⟩, hts _ kw.2.1, hts _ kw.2.2⟩ ⟨(q_pre (av := .ref b :: As) B I).1, k_recv B hR I hz hk, (q_pre (av := .ref b :: As) B I).2⟩ rfl hn (by rw [← hlo]; exact hl.1) hst (lv_room hW) hdg ⟨hcells, hslots⟩) I kk
theorem k_callS (B : BX p m c cc nL s args (cd :: wsA) own meth ret D vwCl (tyL dA) b0 Z) (hl : lx ls lo0) (hlo : lo0.length = nL) (I : AI D vwCl b0 (cH dA b0 S hp0) sz s.heap H locs)
    (hM : Ct l D vwCl (tyL dA) b0 Z y (.code y bytes maxL retc :: wsA) fr lo As (cH dA b0 S hp0) sz rv (cH dA b0 S1 hp0) mc ms) (kw : kWS own index y (.code y bytes maxL retc) n) (hn : As.length = n)
    (hfr : fr + 1 ≤ R.frames) (hlc : 8 + (maxL + 11) + lo ≤ R.locals) (hst : st0 = As.reverse ++ rest) (hW : (rest.map fun v => v.category).sum ≤ 8) (hdg : decode cc pc = .ok (.invokestatic index, 3)) (hcells : cells + mc ≤ R.cells) (hslots : slots + ms ≤ R.slots)
    (kk : ∀ (H1 : Heap) (locs1 : List Loc), AI D vwCl b0 (cH dA b0 S1 hp0) (sz + mc) s.heap H1 locs1 → W p l e R s m args below meth c H1 locs1 (cells + mc) (slots + ms) Q (F0 m (pc + 3) ls (rv.toList ++ rest))) :
    W p l e R s m args below meth c H locs cells slots Q (F0 m pc ls st0) := by
  have hts : ∀ w ∈ wsA, w.before args s = true := fun w hw => B.1.2.2.2.2 w (List.mem_cons_of_mem _ hw)
  exact q_call (va_runS (As := As) (rest := rest) ⟨B.1.1, B.1.2.1, B.1.2.2.1, B.1.2.2.2.1, hts⟩ hM (va_cwS n hts kw.1 rfl rfl rfl kw.2 ⟨hfr, hlc⟩) (q_pre (av := As) B I) rfl hn (by rw [← hlo]; exact hl.1) hst (lv_room hW) hdg ⟨hcells, hslots⟩) I kk
theorem k_callSN (B : BX p m c cc nL s args (cd :: wsA) own meth ret D vwCl (tyL dA) b0 Z) (hR : CR b0 K Z) (hl : lx ls lo0) (hlo : lo0.length = nL) (I : AI D vwCl b0 (cH dA b0 S hp0) sz s.heap H locs)
    (hM : Ct l D vwCl (tyL dA) b0 Z y (.code y bytes maxL retc :: wsA) fr lo As (cH dA b0 S hp0) sz rv (cH dA b0 S1 hp0) mc ms) (kw : kWN own index host y (.code y bytes maxL retc) n ∧ Cond.static y ∈ wsA) (hn : As.length = n)
    (hfr : fr + 1 ≤ R.frames) (hlc : 8 + (maxL + 11) + lo ≤ R.locals) (hst : st0 = As.reverse ++ rest) (hW : (rest.map fun v => v.category).sum ≤ 8) (hdg : decode cc pc = .ok (.invokestatic index, 3)) (hcells : cells + mc ≤ R.cells) (hslots : slots + ms ≤ R.slots)
    (kk : ∀ (H1 : Heap) (locs1 : List Loc), AI D vwCl b0 (cH dA b0 S1 hp0) (sz + mc) s.heap H1 locs1 → W p l e R s m args below meth c H1 locs1 (cells + mc) (slots + ms) Q (F0 m (pc + 3) ls (rv.toList ++ rest))) :
    W p l e R s m args below meth c H locs cells slots Q (F0 m pc ls st0) := by
  have hts : ∀ w ∈ wsA, w.before args s = true := fun w hw => B.1.2.2.2.2 w (List.mem_cons_of_mem _ hw)
  have X := hR.2 s B.2.2.2.2.1
  exact q_call (va_runSN (As := As) (rest := rest) ⟨B.1.1, B.1.2.1, B.1.2.2.1, B.1.2.2.2.1, hts⟩ hM ⟨va_cnB n hts (gC kw.1.1) rfl rfl rfl (X.1 _ kw.1.2.1) (hts _ kw.1.2.2.1) kw.1.2.2.2 ⟨hfr, hlc⟩, hts _ kw.2, trivial⟩ (q_pre (av := As) B I) rfl hn (by rw [← hlo]; exact hl.1) hst (lv_room hW) hdg ⟨hcells, hslots⟩) I kk
theorem k_callI (B : BX p m c cc nL s args (cd :: wsA) own meth ret D vwCl (tyL dA) b0 Z) (hl : lx ls lo0) (hlo : lo0.length = nL) (I : AI D vwCl b0 (cH dA b0 S hp0) sz s.heap H locs)
    (hM : Ct l D vwCl (tyL dA) b0 Z y (.code y bytes maxL none :: wsA) fr lo (.ref b :: As) (cH dA b0 S hp0) sz none (cH dA b0 S1 hp0) mc ms) (kw : kWI own index y (.code y bytes maxL none) n) (hn : As.length = n)
    (hfr : fr + 1 ≤ R.frames) (hlc : 8 + (maxL + 11) + lo ≤ R.locals) (hst : st0 = As.reverse ++ .ref b :: rest) (hW : (rest.map fun v => v.category).sum ≤ 8) (hdg : decode cc pc = .ok (.invokespecial index, 3)) (hcells : cells + mc ≤ R.cells) (hslots : slots + ms ≤ R.slots)
    (kk : ∀ (H1 : Heap) (locs1 : List Loc), AI D vwCl b0 (cH dA b0 S1 hp0) (sz + mc) s.heap H1 locs1 → W p l e R s m args below meth c H1 locs1 (cells + mc) (slots + ms) Q (F0 m (pc + 3) ls rest)) :
    W p l e R s m args below meth c H locs cells slots Q (F0 m pc ls st0) := by
  have hts : ∀ w ∈ wsA, w.before args s = true := fun w hw => B.1.2.2.2.2 w (List.mem_cons_of_mem _ hw)
  exact q_call (va_runI (As := As) (rest := rest) (b := b) ⟨B.1.1, B.1.2.1, B.1.2.2.1, B.1.2.2.2.1, hts⟩ hM (cwI n hts (gC kw.1.1) rfl rfl rfl (hts _ kw.1.2.1) (hts _ kw.1.2.2.1) (hts _ kw.1.2.2.2) kw.2.1 kw.2.2 ⟨hfr, hlc⟩) (q_pre (av := .ref b :: As) B I) rfl hn (by rw [← hlo]; exact hl.1) hst (lv_room hW) hdg ⟨hcells, hslots⟩) I kk
theorem k_callIN (B : BX p m c cc nL s args (cd :: wsA) own meth ret D vwCl (tyL dA) b0 Z) (hR : CR b0 K Z) (hl : lx ls lo0) (hlo : lo0.length = nL) (I : AI D vwCl b0 (cH dA b0 S hp0) sz s.heap H locs)
    (hM : Ct l D vwCl (tyL dA) b0 Z y (.code y bytes maxL none :: wsA) fr lo (.ref b :: As) (cH dA b0 S hp0) sz none (cH dA b0 S1 hp0) mc ms) (kw : kWN own index host y (.code y bytes maxL none) n ∧ y.name = "<init>" ∧ Cond.instanceMethod y ∈ wsA) (hn : As.length = n)
    (hfr : fr + 1 ≤ R.frames) (hlc : 8 + (maxL + 11) + lo ≤ R.locals) (hst : st0 = As.reverse ++ .ref b :: rest) (hW : (rest.map fun v => v.category).sum ≤ 8) (hdg : decode cc pc = .ok (.invokespecial index, 3)) (hcells : cells + mc ≤ R.cells) (hslots : slots + ms ≤ R.slots)
    (kk : ∀ (H1 : Heap) (locs1 : List Loc), AI D vwCl b0 (cH dA b0 S1 hp0) (sz + mc) s.heap H1 locs1 → W p l e R s m args below meth c H1 locs1 (cells + mc) (slots + ms) Q (F0 m (pc + 3) ls rest)) :
    W p l e R s m args below meth c H locs cells slots Q (F0 m pc ls st0) := by
  have hts : ∀ w ∈ wsA, w.before args s = true := fun w hw => B.1.2.2.2.2 w (List.mem_cons_of_mem _ hw)
  have X := hR.2 s B.2.2.2.2.1
  exact q_call (va_runIN (As := As) (rest := rest) (b := b) ⟨B.1.1, B.1.2.1, B.1.2.2.1, B.1.2.2.2.1, hts⟩ hM ⟨va_cnB n hts (gC kw.1.1) rfl rfl rfl (X.1 _ kw.1.2.1) (hts _ kw.1.2.2.1) kw.1.2.2.2 ⟨hfr, hlc⟩, kw.2.1, hts _ kw.2.2⟩ (q_pre (av := .ref b :: As) B I) rfl hn (by rw [← hlo]; exact hl.1) hst (lv_room hW) hdg ⟨hcells, hslots⟩) I kk
theorem k_obj {a : Nat} (B : BX p m c cc nL s args (cd :: wsA) own meth ret D vwCl (tyL dA) b0 Z) (hl : lx ls lo0) (hlo : lo0.length = nL) (hlink : Cond.methodLink own index objectInit ∈ wsA) (hinst : Cond.instanceMethod objectInit ∈ wsA) (hcode : Cond.code objectInit ⟨#[0xb1]⟩ 1 none ∈ wsA) (hfr : 1 ≤ R.frames) (hlc : (rest.map fun v => v.category).sum + 12 ≤ R.locals) (hdg : decode cc pc = .ok (.invokespecial index, 3))
    (kk : W p l e R s m args below meth c H locs cells slots Q (F0 m (pc + 3) ls rest)) : W p l e R s m args below meth c H locs cells slots Q (F0 m pc ls (.ref a :: rest)) := by
  have hts : ∀ w ∈ wsA, w.before args s = true := fun w hw => B.1.2.2.2.2 w (List.mem_cons_of_mem _ hw)
  exact W.objInit B.1.1 B.1.2.1 B.1.2.2.2.1 (hts _ hlink) (hts _ hinst) (hts _ hcode) rfl (by rw [B.1.2.2.1, ← hlo]; exact hl.1) rfl hdg hfr (by have : (F0 m pc ls (.ref a :: rest)).monitorRoom = 0 := rfl; rw [this]; omega) kk
theorem k_ldc {j a : Nat} {tx : String} (B : BX p m c cc nL s args (cd :: wsA) own meth ret D vwCl (tyL dA) b0 Z) (hR : CR b0 K Z) (hj : litL[j]? = some (own, index, tx)) (e1 : K.2.2.2 0 (j + 1) = some a) (hdg : decode cc pc = .ok (.ldc index, 2))
    (kk : W p l e R s m args below meth c H locs cells slots Q (F0 m (pc + 2) ls (.ref a :: rest))) : W p l e R s m args below meth c H locs cells slots Q (F0 m pc ls rest) := by
  obtain ⟨a', h1, h2⟩ := (hR.2 s B.2.2.2.2.1).2.2.2.2.2.2.2.2.2.1 j _ hj
  cases h1.symm.trans e1
  exact va_ldcS B.1.1 B.1.2.1 B.1.2.2.2.1 h2 hdg kk
theorem k_compact (B : BX p m c cc nL s args (cd :: wsA) own meth ret D vwCl (tyL dA) b0 Z) (hR : CR b0 K Z) (I : AI D vwCl b0 (cH dA b0 S hp0) sz s.heap H locs) (hlink : Cond.fieldLink own index "java/lang/String" "COMPACT_STRINGS" "Z" ∈ wsA) (hdg : decode cc pc = .ok (.getstatic index, 3))
    (kk : W p l e R s m args below meth c H locs cells slots Q (F0 m (pc + 3) ls (.int 1 :: rest))) : W p l e R s m args below meth c H locs cells slots Q (F0 m pc ls rest) :=
  va_gets B.1.1 B.1.2.1 (hR.2 s B.2.2.2.2.1).2.1 I.2.2.2 B.1.2.2.2.1 (B.1.2.2.2.2 _ (List.mem_cons_of_mem _ hlink)) (fun _ h => h) hdg kk
theorem k_sioobe (B : BX p m c cc nL s args (cd :: wsA) own meth ret D vwCl (tyL dA) b0 Z) (hR : CR b0 K Z) (I : AI D vwCl b0 (cH dA b0 S hp0) sz s.heap H locs) (hlink : Cond.fieldLink own index "jdk/internal/util/Preconditions" "SIOOBE_FORMATTER" "Ljava/util/function/BiFunction;" ∈ wsA) (hdg : decode cc pc = .ok (.getstatic index, 3))
    (kk : W p l e R s m args below meth c H locs cells slots Q (F0 m (pc + 3) ls (va_rf (K.2.2.2 0 100) :: rest))) : W p l e R s m args below meth c H locs cells slots Q (F0 m pc ls rest) :=
  va_gets B.1.1 B.1.2.1 (hR.2 s B.2.2.2.2.1).2.2.2.1 I.2.2.2 B.1.2.2.2.1 (B.1.2.2.2.2 _ (List.mem_cons_of_mem _ hlink)) (fun _ h => h) hdg kk
theorem k_dflt {a : Nat} (B : BX p m c cc nL s args (cd :: wsA) own meth ret D vwCl (tyL dA) b0 Z) (hR : CR b0 K Z) (I : AI D vwCl b0 (cH dA b0 S hp0) sz s.heap H locs) (hlink : Cond.fieldLink own index "java/util/ArrayList" "DEFAULTCAPACITY_EMPTY_ELEMENTDATA" "[Ljava/lang/Object;" ∈ wsA) (e1 : K.2.2.2 0 102 = some a) (hdg : decode cc pc = .ok (.getstatic index, 3))
    (kk : W p l e R s m args below meth c H locs cells slots Q (F0 m (pc + 3) ls (.ref a :: rest))) : W p l e R s m args below meth c H locs cells slots Q (F0 m pc ls rest) := by
  obtain ⟨d, h1, h2⟩ := (hR.2 s B.2.2.2.2.1).2.2.1
  cases h1.symm.trans e1
  exact va_gets B.1.1 B.1.2.1 h2 I.2.2.2 B.1.2.2.2.1 (B.1.2.2.2.2 _ (List.mem_cons_of_mem _ hlink)) (fun _ h => h) hdg kk
theorem k_castY {a : Nat} (B : BX p m c cc nL s args (cd :: wsA) own meth ret D vwCl (tyL dA) b0 Z) (hR : CR b0 K Z) (I : AI D vwCl b0 (cH dA b0 S hp0) sz s.heap H locs) (hz : 1 ≤ z ∧ z ≤ 8) (h : kd b0 K S a = z) (hlink : Cond.classLink own index (cC z) ∈ wsA) (hdg : decode cc pc = .ok (.checkcast index, 3))
    (kk : W p l e R s m args below meth c H locs cells slots Q (F0 m (pc + 3) ls (.ref a :: rest))) : W p l e R s m args below meth c H locs cells slots Q (F0 m pc ls (.ref a :: rest)) :=
  va_castE B.1.1 B.1.2.1 B.1.2.2.2.1 (B.1.2.2.2.2 _ (List.mem_cons_of_mem _ hlink)) (k_recv B hR I hz h) hdg kk
theorem k_inst {a : Nat} (B : BX p m c cc nL s args (cd :: wsA) own meth ret D vwCl (tyL dA) b0 Z) (hR : CR b0 K Z) (I : AI D vwCl b0 (cH dA b0 S hp0) sz s.heap H locs) (hz : 1 ≤ z ∧ z ≤ 8) (h : kd b0 K S a = z) (hlink : Cond.classLink own index (cC z) ∈ wsA) (hdg : decode cc pc = .ok (.instanceof index, 3))
    (kk : W p l e R s m args below meth c H locs cells slots Q (F0 m (pc + 3) ls (.int 1 :: rest))) : W p l e R s m args below meth c H locs cells slots Q (F0 m pc ls (.ref a :: rest)) :=
  va_instE B.1.1 B.1.2.1 B.1.2.2.2.1 (B.1.2.2.2.2 _ (List.mem_cons_of_mem _ hlink)) (k_recv B hR I hz h) hdg kk
variable {sz0 : Nat}
theorem q_iretA {v : Int32} (B : BX p m c cc nL s args Ts own meth ret D cl tys b0 Z) (I : AI D cl b0 hp sz s.heap H locs) (hz : sz = sz0 + cells) (hc : cells + 0 = mc) (hs : slots + 0 = ms) (hret : ret = some .int) (hd : decode cc pc = .ok (.ireturn, 1)) :
    W p l e R s m args below meth c H locs cells slots (MQ below (CQ D cl b0 (some (.int v)) hp (sz0 + mc)) args s mc ms (fun q => b0 ≤ q)) (F0 m pc ls [.int v]) := by
  subst hc; subst hs; subst hz
  exact q_iret B I hret hd
theorem q_zretA {v : Int32} {ty : FieldType} (B : BX p m c cc nL s args Ts own meth ret D cl tys b0 Z) (I : AI D cl b0 hp sz s.heap H locs) (hz : sz = sz0 + cells) (hc : cells + 0 = mc) (hs : slots + 0 = ms) (hret : ret = some ty) (hn : narrow ty (.int v) = .int v) (hd : decode cc pc = .ok (.ireturn, 1)) :
    W p l e R s m args below meth c H locs cells slots (MQ below (CQ D cl b0 (some (.int v)) hp (sz0 + mc)) args s mc ms (fun q => b0 ≤ q)) (F0 m pc ls [.int v]) := by
  subst hc; subst hs; subst hz
  exact q_zret B I hret hn hd
theorem q_vretA (B : BX p m c cc nL s args Ts own meth ret D cl tys b0 Z) (I : AI D cl b0 hp sz s.heap H locs) (hz : sz = sz0 + cells) (hc : cells + 0 = mc) (hs : slots + 0 = ms) (hret : ret = none) (hd : decode cc pc = .ok (.return_, 1)) :
    W p l e R s m args below meth c H locs cells slots (MQ below (CQ D cl b0 none hp (sz0 + mc)) args s mc ms (fun q => b0 ≤ q)) (F0 m pc ls []) := by
  subst hc; subst hs; subst hz
  exact q_vret B I hret hd
theorem q_aretA {r : Option Nat} {rt : FieldType} (B : BX p m c cc nL s args Ts own meth ret D cl tys b0 Z) (I : AI D cl b0 hp sz s.heap H locs) (hz : sz = sz0 + cells) (hc : cells + 0 = mc) (hs : slots + 0 = ms) (hret : ret = some rt) (hrt : (∃ n, rt = .object n) ∨ ∃ t, rt = .array t) (hd : decode cc pc = .ok (.areturn, 1)) :
    W p l e R s m args below meth c H locs cells slots (MQ below (CQ D cl b0 (some (va_rf r)) hp (sz0 + mc)) args s mc ms (fun q => b0 ≤ q)) (F0 m pc ls [va_rf r]) := by
  subst hc; subst hs; subst hz
  exact q_aret B I hret hrt hd
end KV
theorem nf_1 : ∀ (S : cS) (a : Nat) (j : Nat), j < cNn 1 → defaultValue (cTy 1 j) = vp_V (cFl 1 (nO S 1 a) a) j := fun S a j hj => by
  match j, hj with
  | 0, _ => simp [cTy, tyZ1, cFl, nO, va_up, vp_V, va_rf, defaultValue]
  | 1, _ => simp [cTy, tyZ1, cFl, nO, va_up, vp_V, va_rf, defaultValue]
  | 2, _ => simp [cTy, tyZ1, cFl, nO, va_up, vp_V, va_rf, defaultValue]
  | 3, _ => simp [cTy, tyZ1, cFl, nO, va_up, vp_V, va_rf, defaultValue]
  | 4, _ => simp [cTy, tyZ1, cFl, nO, va_up, vp_V, va_rf, defaultValue]
  | j + 5, hj => exact absurd hj (by show ¬ j + 5 < 5; omega)
theorem nf_2 : ∀ (S : cS) (a : Nat) (j : Nat), j < cNn 2 → defaultValue (cTy 2 j) = vp_V (cFl 2 (nO S 2 a) a) j := fun S a j hj => by
  match j, hj with
  | 0, _ => simp [cTy, tyZ2, cFl, nO, va_up, vp_V, va_rf, defaultValue]
  | 1, _ => simp [cTy, tyZ2, cFl, nO, va_up, vp_V, va_rf, defaultValue]
  | 2, _ => simp [cTy, tyZ2, cFl, nO, va_up, vp_V, va_rf, defaultValue]
  | 3, _ => simp [cTy, tyZ2, cFl, nO, va_up, vp_V, va_rf, defaultValue]
  | 4, _ => simp [cTy, tyZ2, cFl, nO, va_up, vp_V, va_rf, defaultValue]
  | 5, _ => simp [cTy, tyZ2, cFl, nO, va_up, vp_V, va_rf, defaultValue]
  | 6, _ => simp [cTy, tyZ2, cFl, nO, va_up, vp_V, va_rf, defaultValue]
  | 7, _ => simp [cTy, tyZ2, cFl, nO, va_up, vp_V, va_rf, defaultValue]
  | j + 8, hj => exact absurd hj (by show ¬ j + 8 < 8; omega)
theorem nf_3 : ∀ (S : cS) (a : Nat) (j : Nat), j < cNn 3 → defaultValue (cTy 3 j) = vp_V (cFl 3 (nO S 3 a) a) j := fun S a j hj => by
  match j, hj with
  | 0, _ => simp [cTy, tyZ3, cFl, nO, va_up, vp_V, va_rf, defaultValue]
  | 1, _ => simp [cTy, tyZ3, cFl, nO, va_up, vp_V, va_rf, defaultValue]
  | 2, _ => simp [cTy, tyZ3, cFl, nO, va_up, vp_V, va_rf, defaultValue]
  | j + 3, hj => exact absurd hj (by show ¬ j + 3 < 3; omega)
theorem nf_4 : ∀ (S : cS) (a : Nat) (j : Nat), j < cNn 4 → defaultValue (cTy 4 j) = vp_V (cFl 4 (nO S 4 a) a) j := fun S a j hj => by
  match j, hj with
  | 0, _ => simp [cTy, tyZ4, cFl, nO, va_up, vp_V, va_rf, defaultValue]
  | 1, _ => simp [cTy, tyZ4, cFl, nO, va_up, vp_V, va_rf, defaultValue]
  | 2, _ => simp [cTy, tyZ4, cFl, nO, va_up, vp_V, va_rf, defaultValue]
  | 3, _ => simp [cTy, tyZ4, cFl, nO, va_up, vp_V, va_rf, defaultValue]
  | 4, _ => simp [cTy, tyZ4, cFl, nO, va_up, vp_V, va_rf, defaultValue]
  | 5, _ => simp [cTy, tyZ4, cFl, nO, va_up, vp_V, va_rf, defaultValue]
  | 6, _ => simp [cTy, tyZ4, cFl, nO, va_up, vp_V, va_rf, defaultValue]
  | 7, _ => simp [cTy, tyZ4, cFl, nO, va_up, vp_V, va_rf, defaultValue]
  | j + 8, hj => exact absurd hj (by show ¬ j + 8 < 8; omega)
theorem nf_5 : ∀ (S : cS) (a : Nat) (j : Nat), j < cNn 5 → defaultValue (cTy 5 j) = vp_V (cFl 5 (nO S 5 a) a) j := fun S a j hj => by
  match j, hj with
  | 0, _ => simp [cTy, tyZ5, cFl, nO, va_up, vp_V, va_rf, defaultValue]
  | 1, _ => simp [cTy, tyZ5, cFl, nO, va_up, vp_V, va_rf, defaultValue]
  | j + 2, hj => exact absurd hj (by show ¬ j + 2 < 2; omega)
theorem nf_6 : ∀ (S : cS) (a : Nat) (j : Nat), j < cNn 6 → defaultValue (cTy 6 j) = vp_V (cFl 6 (nO S 6 a) a) j := fun S a j hj => by
  match j, hj with
  | 0, _ => simp [cTy, tyZ6, cFl, nO, va_up, vp_V, va_rf, defaultValue]
  | 1, _ => simp [cTy, tyZ6, cFl, nO, va_up, vp_V, va_rf, defaultValue]
  | j + 2, hj => exact absurd hj (by show ¬ j + 2 < 2; omega)
theorem nf_7 : ∀ (S : cS) (a : Nat) (j : Nat), j < cNn 7 → defaultValue (cTy 7 j) = vp_V (cFl 7 (nO S 7 a) a) j := fun S a j hj => by
  match j, hj with
  | 0, _ => simp [cTy, tyZ7, cFl, nO, va_up, vp_V, va_rf, defaultValue]
  | 1, _ => simp [cTy, tyZ7, cFl, nO, va_up, vp_V, va_rf, defaultValue]
  | 2, _ => simp [cTy, tyZ7, cFl, nO, va_up, vp_V, va_rf, defaultValue]
  | 3, _ => simp [cTy, tyZ7, cFl, nO, va_up, vp_V, va_rf, defaultValue]
  | j + 4, hj => exact absurd hj (by show ¬ j + 4 < 4; omega)
theorem nf_8 : ∀ (S : cS) (a : Nat) (j : Nat), j < cNn 8 → defaultValue (cTy 8 j) = vp_V (cFl 8 (nO S 8 a) a) j := fun S a j hj => by
  match j, hj with
  | 0, _ => simp [cTy, tyZ8, cFl, nO, va_up, vp_V, va_rf, defaultValue]
  | 1, _ => simp [cTy, tyZ8, cFl, nO, va_up, vp_V, va_rf, defaultValue]
  | 2, _ => simp [cTy, tyZ8, cFl, nO, va_up, vp_V, va_rf, defaultValue]
  | j + 3, hj => exact absurd hj (by show ¬ j + 3 < 3; omega)
