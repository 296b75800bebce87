/-! Rows that the law's own body needs. -/
section LRw
variable {p : Program} {l : Launch} {e : Env} {R : Room} {s : State} {m : MethodId} {args : Array Value} {below : List Frame} {meth : Method} {c : Code} {H : Heap} {locs : List Loc} {cells slots : Nat} {Q : State → Prop}
variable {cc : ByteArray} {pc : Nat} {ls : Array Slot} {rest : List Value} {D : va_G} {cl : List vw_C} {tys : List (ClassId × FieldType)} {dA : Nat → ClassId} {hp hp' : aH} {sz b0 nL h : Nat} {H0 : Heap} {Ts : List Cond} {cd : Cond} {own : String} {ret : Option FieldType} {Z : State → Prop}
theorem q_lald {a t0 : Nat} {cA : ClassId} {n : Nat} {f : Nat → Int64} {i : Int32} (B : BX p m c cc nL s args Ts own meth ret D cl tys b0 Z) (I : AI D cl b0 hp sz H0 H locs) (he : hp a = some (.inl (cA, n, .inr (.inl f)))) (ht : tys[t0]? = some (cA, .long)) (hin : vp_in i n) (hdg : decode cc pc = .ok (.laload, 1))
    (kk : W p l e R s m args below meth c H locs cells slots Q (F0 m (pc + 1) ls (.long (f i.toNatClampNeg) :: rest))) : W p l e R s m args below meth c H locs cells slots Q (F0 m pc ls (.int i :: .ref a :: rest)) :=
  va_lald (D := D) (ws := [(a, .inl (cA, n, .inr (.inl f)))]) B.1.1 B.1.2.1 B.2.2.2.1 (fun k q hq => by
    have hz : k < 1 := (List.getElem?_eq_some_iff.mp hq).1
    rw [show k = 0 by omega] at hq
    cases hq
    exact I.1 a _ he) 0 t0 rfl ht hin hdg kk
theorem lv_lcmpE {x : Int64} (hexec : p.tables.exec = Jvm.exec) (hb : c.code = cc) (hdg : decode cc pc = .ok (.lcmp, 1))
    (k : W p l e R s m args below meth c H locs cells slots Q (F0 m (pc + 1) ls (.int 0 :: rest))) : W p l e R s m args below meth c H locs cells slots Q (F0 m pc ls (.long x :: .long x :: rest)) := by
  intro T hT X
  obtain ⟨t, a, b⟩ := k T hT X
  refine ⟨t, ?_, b⟩
  have hh : ¬ x > x := fun q => absurd (Int64.lt_iff_toInt_lt.mp q) (Int.lt_irrefl _)
  jvm_step X.here [X.here.top, hexec, hb, hdg, hh]
  exact a
theorem rHs_0 {f : Nat → Int32} : va_up hp h (some (.inr (cREF, rFs h 0 f))) = rHs dA h 0 f hp := by
  funext a
  by_cases e : a = h
  · subst e; rw [va_up_self]; simp [rHs]
  · rw [va_up_ne _ _ e]
    unfold rHs
    rw [if_neg e, if_neg (by omega)]
theorem nf_R : ∀ j, j < 31 → defaultValue (tyREF j) = vp_V (rFs h 0 (fun _ => 0)) j := fun j hj => by
  match j, hj with
  | 0, _ => rfl
  | 1, _ => rfl
  | 2, _ => rfl
  | 3, _ => rfl
  | 4, _ => rfl
  | 5, _ => rfl
  | 6, _ => rfl
  | 7, _ => rfl
  | 8, _ => rfl
  | 9, _ => rfl
  | 10, _ => rfl
  | 11, _ => rfl
  | 12, _ => rfl
  | 13, _ => rfl
  | 14, _ => rfl
  | 15, _ => rfl
  | 16, _ => rfl
  | 17, _ => rfl
  | 18, _ => rfl
  | 19, _ => rfl
  | 20, _ => rfl
  | 21, _ => rfl
  | 22, _ => rfl
  | 23, _ => rfl
  | 24, _ => rfl
  | 25, _ => rfl
  | 26, _ => rfl
  | 27, _ => rfl
  | 28, _ => rfl
  | 29, _ => rfl
  | 30, _ => rfl
  | j + 31, hj => exact absurd hj (by omega)
theorem r_newR {index : Nat} (B : BX p m c cc nL s args (cd :: wsA) own meth ret D vwCl (tyL dA) b0 Z) (I : AI D vwCl b0 hp h s.heap H locs) (hcl : Cond.classLink own index RREF ∈ wsA) (hins : Cond.instantiable RREF 31 ∈ wsA) (hini : Cond.initialized RREF ∈ wsA)
    (hcells : cells + 1 ≤ R.cells) (hslots : slots + 31 ≤ R.slots) (hdg : decode cc pc = .ok (.new index, 3))
    (kk : ∀ H1 : Heap, AI D vwCl b0 (rHs dA h 0 (fun _ => 0) hp) (h + 1) s.heap H1 locs → W p l e R s m args below meth c H1 locs (cells + 1) (slots + 31) Q (F0 m (pc + 3) ls (.ref h :: rest))) : W p l e R s m args below meth c H locs cells slots Q (F0 m pc ls rest) := by
  obtain ⟨⟨hx, hb, -, hown, hts⟩, -, -, hK, -⟩ := B
  have hKn := hK.1 cREF _ hcREF
  refine W.newcK hx hb hown (hts _ (List.mem_cons_of_mem _ hcl)) (hts _ (List.mem_cons_of_mem _ hins)) (hts _ (List.mem_cons_of_mem _ hini)) rfl hdg hcells hslots hKn.2.1 I.2.1 fun H1 kC hkC e1 z1 o1 => ?_
  exact kk H1 ((I.new (e := .inr (cREF, rFs h 0 (fun _ => 0))) ⟨_, hcREF, (u_born tyREF hts (fun w hw => List.mem_cons_of_mem _ (wsA_ref w hw)) hKn hkC e1 tyREF_ok).to nf_R⟩ z1 o1).of rHs_0)
theorem q_callI {index n maxL fr lo mc ms b : Nat} {y : MethodName} {bytes : ByteArray} {As st0 : List Value} {lo0 : List (Option Value)} (B : BX p m c cc nL s args (cd :: wsA) own meth ret D vwCl (tyL dA) b0 Z) (hl : lx ls lo0) (hlo : lo0.length = nL) (I : AI D vwCl b0 hp sz s.heap H locs)
    (hM : Ct l D vwCl (tyL dA) b0 Z y (.code y bytes maxL none :: wsA) fr lo (.ref b :: As) hp sz none hp' mc ms) (kw : kWI own index y (.code y bytes maxL none) n) (hn : As.length = n)
    (hfr : fr + 1 ≤ R.frames) (hlc : 8 + (maxL + 11) + lo ≤ R.locals) (hst : st0 = As.reverse ++ .ref b :: rest) (hW : (rest.map fun v => v.category).sum ≤ 8) (hdg : decode cc pc = .ok (.invokespecial index, 3)) (hcells : cells + mc ≤ R.cells) (hslots : slots + ms ≤ R.slots)
    (kk : ∀ (H1 : Heap) (locs1 : List Loc), AI D vwCl b0 hp' (sz + mc) s.heap H1 locs1 → W p l e R s m args below meth c H1 locs1 (cells + mc) (slots + ms) Q (F0 m (pc + 3) ls rest)) :
    W p l e R s m args below meth c H locs cells slots Q (F0 m pc ls st0) := by
  have hts : ∀ w ∈ wsA, w.before args s = true := fun w hw => B.1.2.2.2.2 w (List.mem_cons_of_mem _ hw)
  exact q_call (va_runI (As := As) (rest := rest) (b := b) ⟨B.1.1, B.1.2.1, B.1.2.2.1, B.1.2.2.2.1, hts⟩ hM (cwI n hts (gC kw.1.1) rfl rfl rfl (hts _ kw.1.2.1) (hts _ kw.1.2.2.1) (hts _ kw.1.2.2.2) kw.2.1 kw.2.2 ⟨hfr, hlc⟩) (q_pre (av := .ref b :: As) B I) rfl hn (by rw [← hlo]; exact hl.1) hst (lv_room hW) hdg ⟨hcells, hslots⟩) I kk
theorem q_newl (B : BX p m c cc nL s args (cd :: wsA) own meth ret D vwCl (tyL dA) b0 Z) (I : AI D vwCl b0 hp sz s.heap H locs) (harr : Cond.arrayClass .long ∈ wsA) (hcells : cells + 1 ≤ R.cells) (hslots : slots + 1 ≤ R.slots) (hdg : decode cc pc = .ok (.newarray .long, 2))
    (kk : ∀ H1 : Heap, AI D vwCl b0 (va_up hp sz (some (.inl (dA 4, 1, .inr (.inl (fun _ => 0)))))) (sz + 1) s.heap H1 locs → W p l e R s m args below meth c H1 locs (cells + 1) (slots + 1) Q (F0 m (pc + 2) ls (.ref sz :: rest))) : W p l e R s m args below meth c H locs cells slots Q (F0 m pc ls (.int 1 :: rest)) := by
  obtain ⟨⟨hx, hb, -, hown, hts⟩, -, -, hK, -⟩ := B
  refine va_newaK (atype := .long) (N := 1) hx hb (hts _ (List.mem_cons_of_mem _ harr)) rfl hdg rfl (by decide) (by decide) (by decide) hcells hslots I.2.1 fun H1 cA e1 z1 o1 hAr hNm => ?_
  have hcA : cA = dA 4 := Option.some.inj (hNm.symm.trans (hK.2 4 (dA 4, .long) rfl).2)
  subst hcA
  exact kk H1 (I.new (e := .inl (dA 4, 1, .inr (.inl (fun _ => 0)))) e1 z1 o1)
end LRw
theorem mA_long : Cond.arrayClass .long ∈ wsA := List.mem_filter.mpr ⟨List.mem_of_getElem? (i := 1442) (by decide +kernel), by decide +kernel⟩
theorem mC_L_8 : Cond.classLink RLW 8 (cC 1) ∈ wsA := List.mem_filter.mpr ⟨List.mem_of_getElem? (i := 125) (by decide +kernel), by decide +kernel⟩
theorem mI_L_1 : Cond.instantiable (cC 1) 5 ∈ wsA := List.mem_filter.mpr ⟨List.mem_of_getElem? (i := 126) (by decide +kernel), by decide +kernel⟩
theorem mN_L_1 : Cond.initialized (cC 1) ∈ wsA := List.mem_filter.mpr ⟨List.mem_of_getElem? (i := 96) (by decide +kernel), by decide +kernel⟩
theorem kw_L_init : kWI RLW 36 y_T_init (.code y_T_init cb_T_init 1 none) 0 := ⟨⟨List.mem_filter.mpr ⟨List.mem_of_getElem? (i := 129) (by decide +kernel), by decide +kernel⟩, mN_L_1, List.mem_filter.mpr ⟨List.mem_of_getElem? (i := 127) (by decide +kernel), by decide +kernel⟩, List.mem_filter.mpr ⟨List.mem_of_getElem? (i := 128) (by decide +kernel), by decide +kernel⟩⟩, rfl, by decide, by decide, by decide +kernel⟩
theorem mC_L_37 : Cond.classLink RLW 37 RREF ∈ wsA := List.mem_filter.mpr ⟨List.mem_of_getElem? (i := 1115) (by decide +kernel), by decide +kernel⟩
theorem mI_L_R : Cond.instantiable RREF 31 ∈ wsA := List.mem_filter.mpr ⟨List.mem_of_getElem? (i := 1116) (by decide +kernel), by decide +kernel⟩
theorem mN_L_R : Cond.initialized RREF ∈ wsA := List.mem_filter.mpr ⟨List.mem_of_getElem? (i := 99) (by decide +kernel), by decide +kernel⟩
theorem kw_L_Rinit : kWI RLW 39 y_Rinit (.code y_Rinit cb_Rinit 1 none) 0 := ⟨⟨List.mem_filter.mpr ⟨List.mem_of_getElem? (i := 1119) (by decide +kernel), by decide +kernel⟩, mN_L_R, List.mem_filter.mpr ⟨List.mem_of_getElem? (i := 1117) (by decide +kernel), by decide +kernel⟩, List.mem_filter.mpr ⟨List.mem_of_getElem? (i := 1118) (by decide +kernel), by decide +kernel⟩⟩, rfl, by decide, by decide, by decide +kernel⟩
theorem mL_L_40 : Cond.constantLong RLW 40 4294967295 ∈ wsA := List.mem_filter.mpr ⟨List.mem_of_getElem? (i := 1441) (by decide +kernel), by decide +kernel⟩
