/-! Names of the JDK classes whose members are walked; words that many use. -/
def RJ_AB : String := "java/lang/AbstractStringBuilder"
def RJ_AbL : String := "java/util/AbstractList"
def RJ_AbC : String := "java/util/AbstractCollection"
def RJ_L1 : String := "java/lang/StringLatin1"
def RJ_Ar : String := "java/util/Arrays"
def RJ_AS : String := "jdk/internal/util/ArraysSupport"
def RJ_Ob : String := "java/util/Objects"
def RJ_Pc : String := "jdk/internal/util/Preconditions"
def RJ_Ma : String := "java/lang/Math"
def RJ_O : String := "java/lang/Object"
theorem mA_char : Cond.arrayClass .char ∈ wsA := List.mem_filter.mpr ⟨List.mem_of_getElem? (i := 148) (by decide +kernel), by decide +kernel⟩
theorem mA_byte : Cond.arrayClass .byte ∈ wsA := List.mem_filter.mpr ⟨List.mem_of_getElem? (i := 253) (by decide +kernel), by decide +kernel⟩
theorem mA_oI : Cond.instanceMethod objectInit ∈ wsA := List.mem_filter.mpr ⟨List.mem_of_getElem? (i := 131) (by decide +kernel), by decide +kernel⟩
theorem mA_oC : Cond.code objectInit ⟨#[0xb1]⟩ 1 none ∈ wsA := List.mem_filter.mpr ⟨List.mem_of_getElem? (i := 132) (by decide +kernel), by decide +kernel⟩
theorem cat_i {x : Int32} : (Value.int x).category = 1 := rfl
theorem cat_r {x : Nat} : (Value.ref x).category = 1 := rfl
theorem cat_l {x : Int64} : (Value.long x).category = 2 := rfl
/-- a contract out of a walk -/
theorem ct_ofF {l : Launch} {D : va_G} {cl : List vw_C} {tys : List (ClassId × FieldType)} {b0 : Nat} {Z : State → Prop} {y : MethodName} {ws ws' : List Cond} {fr lo : Nat} {av : List Value} {hp : aH} {sz : Nat} {rv : Option Value} {hp' : aH} {mc ms : Nat} {cc : ByteArray} {maxL : Nat} {ret : Option FieldType} {lo0 : List (Option Value)}
    (hZ : ZC b0 Z) (hy : plainFor y = true) (hw : ws = Cond.code y cc maxL ret :: ws') (hlen : (lg_sl av).length ≤ maxL) (hlo : lo0.length = maxL) (hla : lx_all 0 lo0 (lv_args 0 av))
    (body : ∀ (p : Program) (e : Env) (s : State) (m : MethodId) (args : Array Value) (below : List Frame) (meth : Method) (c : Code) (ls : Array Slot), BX p m c cc maxL s args ws y.cls meth ret D cl tys b0 Z → meth.name = y.name → lx ls lo0 → AI D cl b0 hp sz s.heap s.heap [] →
      W p l e { frames := fr, cells := mc, slots := ms, locals := lo } s m args below meth c s.heap [] 0 0 (MQ below (CQ D cl b0 rv hp' (sz + mc)) args s mc ms (fun q => b0 ≤ q)) (F0 m 0 ls [])) :
    Ct l D cl tys b0 Z y ws fr lo av hp sz rv hp' mc ms := by
  refine va_MetF (cc := cc) (maxL := maxL) (ret := ret) hy hw ?_
  intro p e s m args below meth c s₁ B hml hv
  obtain ⟨rfl, hsz, hb0, hA, hK, hZs⟩ := hv
  have hts := atoms_spec (ws := ws) B.pre
  have hown : s.vm.findClass y.cls = some m.cls := findClass_of_methodNamed B.named
  have hl := lv_entry av (n := maxL) hlen
  rw [lg_entry_eq]
  generalize (lg_sl av ++ List.replicate (maxL - (lg_sl av).length) Slot.unset).toArray = ls at hl ⊢
  exact body p e s m _ below meth c ls ⟨⟨B.exec, B.bytes, hml, hown, hts⟩, B.returns, B.notSynchronized, hK, hZs, hZ⟩ (name_of_methodNamed B.named B.method).1 ⟨by rw [hl.1, hlo], hl.2.1, fun i v h => hl.2.2 (i, v) (by have := lx_all_at _ _ _ hla i v h; rwa [Nat.zero_add] at this)⟩ ⟨hA, hsz, by rw [hsz]; exact hb0, va_S.rf⟩

