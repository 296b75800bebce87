/-! An abstract heap: what lies at an address; the world of a walk over it; contracts that speak of it. -/
abbrev aH : Type := Nat → Option va_E
def AH (D : va_G) (cl : List vw_C) (hp : aH) (H : Heap) : Prop := ∀ (a : Nat) (e : va_E), hp a = some e → va_at D cl (a, e) H
def AI (D : va_G) (cl : List vw_C) (b0 : Nat) (hp : aH) (sz : Nat) (H0 H : Heap) (locs : List Loc) : Prop :=
  AH D cl hp H ∧ H.size = sz ∧ b0 ≤ H0.size ∧ va_S (fun q => b0 ≤ q) H0 H locs
/-- facts of the tables and of cells below b0, which stay -/
def ZC (b0 : Nat) (Z : State → Prop) : Prop := ∀ (s U : State), Z s → s.WarmedH U.vm → (∀ q : Nat, q < b0 → U.heap[q]? = s.heap[q]?) → Z U
abbrev BX (p : Program) (m : MethodId) (c : Code) (cc : ByteArray) (nL : Nat) (s : State) (args : Array Value) (Ts : List Cond) (own : String) (meth : Method) (ret : Option FieldType) (D : va_G) (cl : List vw_C) (tys : List (ClassId × FieldType)) (b0 : Nat) (Z : State → Prop) : Prop :=
  CallFix p m c cc nL s args Ts own ∧ meth.sig.returnType = ret ∧ meth.locks = false ∧ va_K D cl tys s ∧ Z s ∧ ZC b0 Z
def CQ (D : va_G) (cl : List vw_C) (b0 : Nat) (rv : Option Value) (hp : aH) (sz : Nat) : Array Value → State → Outcome → State → Prop :=
  fun _ st oc t => oc = .returned rv ∧ t.heap.size = sz ∧ AH D cl hp t.heap ∧ va_F (fun q => b0 ≤ q) st t
def CP (D : va_G) (cl : List vw_C) (tys : List (ClassId × FieldType)) (b0 : Nat) (Z : State → Prop) (hp : aH) (sz : Nat) (U : State) : Prop :=
  U.heap.size = sz ∧ b0 ≤ sz ∧ AH D cl hp U.heap ∧ va_K D cl tys U ∧ Z U
def Ct (l : Launch) (D : va_G) (cl : List vw_C) (tys : List (ClassId × FieldType)) (b0 : Nat) (Z : State → Prop) (y : MethodName) (ws : List Cond) (fr lo : Nat) (av : List Value) (hp : aH) (sz : Nat) (rv : Option Value) (hp' : aH) (mc ms : Nat) : Prop :=
  Met l y ws { frames := fr, cells := mc, slots := ms, locals := lo } (va_Pc av (CP D cl tys b0 Z hp sz)) (CQ D cl b0 rv hp' (sz + mc)) mc ms (fun q => b0 ≤ q)
theorem AH.up {D : va_G} {cl : List vw_C} {hp : aH} {H H1 : Heap} {a : Nat} {e : va_E} (h : AH D cl hp H) (he : va_at D cl (a, e) H1) (o : ∀ q : Nat, q ≠ a → H1[q]? = H[q]?) : AH D cl (va_up hp a (some e)) H1 := by
  intro q x hq
  by_cases hqa : q = a
  · subst hqa
    rw [va_up_self] at hq
    cases hq
    exact he
  · rw [va_up_ne _ _ hqa] at hq
    exact (h q x hq).kept (o q hqa)
theorem AH.push {D : va_G} {cl : List vw_C} {hp : aH} {H H1 : Heap} {e : va_E} (h : AH D cl hp H) (he : va_at D cl (H.size, e) H1) (o : ∀ q : Nat, q < H.size → H1[q]? = H[q]?) : AH D cl (va_up hp H.size (some e)) H1 := by
  intro q x hq
  by_cases hqa : q = H.size
  · subst hqa
    rw [va_up_self] at hq
    cases hq
    exact he
  · rw [va_up_ne _ _ hqa] at hq
    exact (h q x hq).kept (o q (h q x hq).lt)
theorem AI.b {D : va_G} {cl : List vw_C} {b0 sz : Nat} {hp : aH} {H0 H : Heap} {locs : List Loc} (I : AI D cl b0 hp sz H0 H locs) : b0 ≤ sz := by
  have h1 := I.2.2.1
  have h2 := I.2.2.2.1
  have h3 := I.2.1
  omega
theorem AI.of {D : va_G} {cl : List vw_C} {b0 sz : Nat} {hp hp' : aH} {H0 H : Heap} {locs : List Loc} (I : AI D cl b0 hp sz H0 H locs) (h : hp = hp') : AI D cl b0 hp' sz H0 H locs := h ▸ I
/-! locals by their places -/
def lx (ls : Array Slot) (lo : List (Option Value)) : Prop := ls.size = lo.length ∧ lv_wf ls ∧ ∀ (i : Nat) (v : Value), lo[i]? = some (some v) → ls[i]? = some (.val v)
theorem lx_get {ls : Array Slot} {lo : List (Option Value)} (h : lx ls lo) {i : Nat} {v : Value} (hi : lo[i]? = some (some v)) : ls[i]? = some (.val v) := h.2.2 i v hi
theorem lx_put {ls : Array Slot} {lo : List (Option Value)} (h : lx ls lo) {i : Nat} {v : Value} (hi : i < lo.length) (hc : v.category = 1) (hq : ∀ w, lo[i - 1]? = some (some w) → w.category = 1) :
    ∃ ls', storeLocals ls i v = some ls' ∧ lx ls' (lo.set i (some v)) := by
  obtain ⟨h1, h2, h3⟩ := h
  obtain ⟨ls', e, g1, g2, g3⟩ := lv_store1 (l := []) (i := i) (v := v) (nL := lo.length) ⟨h1, h2, fun q hq => by cases hq⟩ hi hc
  refine ⟨ls', e, by rw [g1, List.length_set], g2, fun j w hj => ?_⟩
  by_cases hji : j = i
  · subst hji
    rw [List.getElem?_set_self hi] at hj
    cases hj
    exact g3 (j, v) List.mem_cons_self
  · rw [List.getElem?_set_ne (fun q => hji q.symm)] at hj
    obtain ⟨ls2, e2, -, -, k3⟩ := lv_store1 (l := [(j, w)]) (i := i) (v := v) (nL := lo.length) ⟨h1, h2, fun q hq => by
      rw [List.mem_singleton] at hq; subst hq; exact h3 j w hj⟩ hi hc
    rw [e] at e2
    cases e2
    refine k3 (j, w) (List.mem_cons_of_mem _ (List.mem_filter.mpr ⟨List.mem_singleton.mpr rfl, ?_⟩))
    by_cases hj1 : j + 1 = i
    · have : w.category = 1 := hq w (by rw [← hj1]; exact hj)
      simp [hji, this]
    · simp [hji, hj1]
theorem lx_ci {lo : List (Option Value)} {i : Nat} {x : Int32} (h : lo[i]? = some (some (.int x))) : ∀ w, lo[i]? = some (some w) → w.category = 1 := fun w hw => by
  rw [h] at hw; cases hw; rfl
theorem lx_cr {lo : List (Option Value)} {i : Nat} {x : Nat} (h : lo[i]? = some (some (.ref x))) : ∀ w, lo[i]? = some (some w) → w.category = 1 := fun w hw => by
  rw [h] at hw; cases hw; rfl
theorem va_rf_cat (r : Option Nat) : (va_rf r).category = 1 := by cases r <;> rfl
theorem lx_cq {lo : List (Option Value)} {i : Nat} {r : Option Nat} (h : lo[i]? = some (some (va_rf r))) : ∀ w, lo[i]? = some (some w) → w.category = 1 := fun w hw => by
  rw [h] at hw; cases hw; exact va_rf_cat r
theorem lx_cn {lo : List (Option Value)} {i : Nat} (h : lo[i]? = some none) : ∀ w, lo[i]? = some (some w) → w.category = 1 := fun w hw => by
  rw [h] at hw; cases hw
def lx_le : List (Option Value) → List (Option Value) → Prop
  | [], [] => True
  | none :: t, _ :: r => lx_le t r
  | some v :: t, some w :: r => v = w ∧ lx_le t r
  | _, _ => False
theorem lx_le_at : ∀ (a b : List (Option Value)), lx_le a b → a.length = b.length ∧ ∀ (i : Nat) (v : Value), a[i]? = some (some v) → b[i]? = some (some v)
  | [], [], _ => ⟨rfl, fun i v h => by simp at h⟩
  | [], _ :: _, h => by cases h
  | none :: _, [], h => by cases h
  | some _ :: _, [], h => by cases h
  | some _ :: _, none :: _, h => by cases h
  | none :: t, x :: r, h => by
    have ih := lx_le_at t r h
    refine ⟨by rw [List.length_cons, List.length_cons, ih.1], fun i v hi => ?_⟩
    cases i with
    | zero => simp at hi
    | succ i => simpa using ih.2 i v (by simpa using hi)
  | some v :: t, some w :: r, h => by
    have ih := lx_le_at t r h.2
    refine ⟨by rw [List.length_cons, List.length_cons, ih.1], fun i u hi => ?_⟩
    cases i with
    | zero => rw [← h.1]; exact hi
    | succ i => simpa using ih.2 i u (by simpa using hi)
theorem lx_sub {ls : Array Slot} {lo lo' : List (Option Value)} (h : lx ls lo) (hs : lx_le lo' lo) : lx ls lo' :=
  ⟨by rw [h.1, (lx_le_at _ _ hs).1], h.2.1, fun i v hi => h.2.2 i v ((lx_le_at _ _ hs).2 i v hi)⟩
def lx_all : Nat → List (Option Value) → List (Nat × Value) → Prop
  | _, [], _ => True
  | k, none :: t, A => lx_all (k + 1) t A
  | k, some v :: t, A => (k, v) ∈ A ∧ lx_all (k + 1) t A
theorem lx_all_at : ∀ (t : List (Option Value)) (k : Nat) (A : List (Nat × Value)), lx_all k t A → ∀ (i : Nat) (v : Value), t[i]? = some (some v) → (k + i, v) ∈ A
  | [], _, _, _, i, v, h => by simp at h
  | none :: t, k, A, h, i, v, hi => by
    cases i with
    | zero => simp at hi
    | succ i => have := lx_all_at t (k + 1) A h i v (by simpa using hi); rwa [show k + (i + 1) = k + 1 + i by omega]
  | some w :: t, k, A, h, i, v, hi => by
    cases i with
    | zero => simp at hi; subst hi; exact h.1
    | succ i => have := lx_all_at t (k + 1) A h.2 i v (by simpa using hi); rwa [show k + (i + 1) = k + 1 + i by omega]
/-! a mirror's steps -/
def b1 {α β : Type} (o : Option α) (f : α → Option β) : Option β := match o with
  | none => none
  | some x => f x
def b2 {α β γ : Type} (o : Option (α × β)) (f : α → β → Option γ) : Option γ := match o with
  | none => none
  | some x => f x.1 x.2
theorem ob1 {α β : Type} {o : Option α} {f : α → Option β} {r : β} {P : Prop} (h : b1 o f = some r) (k : ∀ x, o = some x → f x = some r → P) : P := by
  cases o with
  | none => cases h
  | some x => exact k x rfl h
theorem ob2 {α β γ : Type} {o : Option (α × β)} {f : α → β → Option γ} {r : γ} {P : Prop} (h : b2 o f = some r) (k : ∀ x y, o = some (x, y) → f x y = some r → P) : P := by
  cases o with
  | none => cases h
  | some x => exact k x.1 x.2 rfl h
theorem ift {α : Type} {c : Prop} [Decidable c] {A B r : α} (hc : c) (h : (if c then A else B) = r) : A = r := by rw [if_pos hc] at h; exact h
theorem iff' {α : Type} {c : Prop} [Decidable c] {A B r : α} (hc : ¬ c) (h : (if c then A else B) = r) : B = r := by rw [if_neg hc] at h; exact h
theorem osm {α : Type} {a b : α} (h : some a = some b) : a = b := Option.some.inj h
section QX
variable {p : Program} {l : Launch} {e : Env} {R : Room} {s : State} {m : MethodId} {args : Array Value} {below : List Frame} {meth : Method} {c : Code} {H : Heap} {locs : List Loc} {cells slots : Nat} {Q : State → Prop}
variable {cc : ByteArray} {pc : Nat} {ls : Array Slot} {rest : List Value} {D : va_G} {cl : List vw_C} {tys : List (ClassId × FieldType)} {hp : aH} {sz b0 nL : Nat} {H0 : Heap} {Ts : List Cond} {own : String} {ret : Option FieldType} {Z : State → Prop}
theorem q_istore_n {lo lo' : List (Option Value)} {k : Fin 4} {i : Nat} {x : Int32} (hexec : p.tables.exec = Jvm.exec) (hb : c.code = cc) (hdg : decode cc pc = .ok (.istore_n k, 1)) (hi : (k : Nat) = i) (hl : lx ls lo) (hn : i < lo.length) (hq : ∀ w, lo[i - 1]? = some (some w) → w.category = 1) (hlo : lo.set i (some (.int x)) = lo')
    (kk : ∀ ls' : Array Slot, lx ls' lo' → W p l e R s m args below meth c H locs cells slots Q (F0 m (pc + 1) ls' rest)) : W p l e R s m args below meth c H locs cells slots Q (F0 m pc ls (.int x :: rest)) := by
  subst hi
  obtain ⟨ls', e', h'⟩ := lx_put (v := .int x) hl hn rfl hq
  intro T hT X
  obtain ⟨t, a, b⟩ := kk ls' (hlo ▸ h') T hT X
  refine ⟨t, ?_, b⟩
  jvm_step X.here [X.here.top, ↓top_set X.here.top, hexec, hb, hdg, e']
  exact a
theorem q_istore {lo lo' : List (Option Value)} {i : Nat} {x : Int32} (hexec : p.tables.exec = Jvm.exec) (hb : c.code = cc) (hdg : decode cc pc = .ok (.istore i, 2)) (hl : lx ls lo) (hn : i < lo.length) (hq : ∀ w, lo[i - 1]? = some (some w) → w.category = 1) (hlo : lo.set i (some (.int x)) = lo')
    (kk : ∀ ls' : Array Slot, lx ls' lo' → W p l e R s m args below meth c H locs cells slots Q (F0 m (pc + 2) ls' rest)) : W p l e R s m args below meth c H locs cells slots Q (F0 m pc ls (.int x :: rest)) := by
  obtain ⟨ls', e', h'⟩ := lx_put (v := .int x) hl hn rfl hq
  intro T hT X
  obtain ⟨t, a, b⟩ := kk ls' (hlo ▸ h') T hT X
  refine ⟨t, ?_, b⟩
  jvm_step X.here [X.here.top, ↓top_set X.here.top, hexec, hb, hdg, e']
  exact a
theorem q_iinc {lo lo' : List (Option Value)} {i : Nat} {n : Int} {x v : Int32} (hexec : p.tables.exec = Jvm.exec) (hb : c.code = cc) (hdg : decode cc pc = .ok (.iinc i n, 3)) (hl : lx ls lo) (hk : lo[i]? = some (some (.int x))) (hv : x + Int32.ofInt n = v) (hn : i < lo.length) (hq : ∀ w, lo[i - 1]? = some (some w) → w.category = 1) (hlo : lo.set i (some (.int v)) = lo')
    (kk : ∀ ls' : Array Slot, lx ls' lo' → W p l e R s m args below meth c H locs cells slots Q (F0 m (pc + 3) ls' rest)) : W p l e R s m args below meth c H locs cells slots Q (F0 m pc ls rest) := by
  subst hv
  have hg := lx_get hl hk
  obtain ⟨ls', e', h'⟩ := lx_put (v := .int (x + Int32.ofInt n)) hl hn rfl hq
  intro T hT X
  obtain ⟨t, a, b⟩ := kk ls' (hlo ▸ h') T hT X
  refine ⟨t, ?_, b⟩
  jvm_step X.here [X.here.top, ↓top_set X.here.top, hexec, hb, hdg, hg, e']
  exact a
theorem va_rf_isRef (r : Option Nat) : (va_rf r).isRef = true := by cases r <;> rfl
theorem q_aload_n {k : Fin 4} {i : Nat} {v : Value} (hexec : p.tables.exec = Jvm.exec) (hb : c.code = cc) (hdg : decode cc pc = .ok (.aload_n k, 1)) (hi : (k : Nat) = i) (hv : v.isRef = true) (hl : ls[i]? = some (.val v))
    (kk : W p l e R s m args below meth c H locs cells slots Q (F0 m (pc + 1) ls (v :: rest))) : W p l e R s m args below meth c H locs cells slots Q (F0 m pc ls rest) := by
  subst hi
  intro T hT X
  obtain ⟨t, a, b⟩ := kk T hT X
  refine ⟨t, ?_, b⟩
  jvm_step X.here [X.here.top, hexec, hb, hdg, hl, hv]
  exact a
theorem q_aload {i : Nat} {v : Value} (hexec : p.tables.exec = Jvm.exec) (hb : c.code = cc) (hdg : decode cc pc = .ok (.aload i, 2)) (hv : v.isRef = true) (hl : ls[i]? = some (.val v))
    (kk : W p l e R s m args below meth c H locs cells slots Q (F0 m (pc + 2) ls (v :: rest))) : W p l e R s m args below meth c H locs cells slots Q (F0 m pc ls rest) := by
  intro T hT X
  obtain ⟨t, a, b⟩ := kk T hT X
  refine ⟨t, ?_, b⟩
  jvm_step X.here [X.here.top, hexec, hb, hdg, hl, hv]
  exact a
theorem cat_of_isRef {v : Value} (hv : v.isRef = true) : v.category = 1 := by cases v <;> first | rfl | cases hv
theorem q_astore_n {lo lo' : List (Option Value)} {k : Fin 4} {i : Nat} {v : Value} (hexec : p.tables.exec = Jvm.exec) (hb : c.code = cc) (hdg : decode cc pc = .ok (.astore_n k, 1)) (hi : (k : Nat) = i) (hv : v.isRef = true) (hl : lx ls lo) (hn : i < lo.length) (hq : ∀ w, lo[i - 1]? = some (some w) → w.category = 1) (hlo : lo.set i (some v) = lo')
    (kk : ∀ ls' : Array Slot, lx ls' lo' → W p l e R s m args below meth c H locs cells slots Q (F0 m (pc + 1) ls' rest)) : W p l e R s m args below meth c H locs cells slots Q (F0 m pc ls (v :: rest)) := by
  subst hi
  obtain ⟨ls', e', h'⟩ := lx_put (v := v) hl hn (cat_of_isRef hv) hq
  intro T hT X
  obtain ⟨t, a, b⟩ := kk ls' (hlo ▸ h') T hT X
  refine ⟨t, ?_, b⟩
  jvm_step X.here [X.here.top, ↓top_set X.here.top, hexec, hb, hdg, e', hv]
  exact a
theorem q_astore {lo lo' : List (Option Value)} {i : Nat} {v : Value} (hexec : p.tables.exec = Jvm.exec) (hb : c.code = cc) (hdg : decode cc pc = .ok (.astore i, 2)) (hv : v.isRef = true) (hl : lx ls lo) (hn : i < lo.length) (hq : ∀ w, lo[i - 1]? = some (some w) → w.category = 1) (hlo : lo.set i (some v) = lo')
    (kk : ∀ ls' : Array Slot, lx ls' lo' → W p l e R s m args below meth c H locs cells slots Q (F0 m (pc + 2) ls' rest)) : W p l e R s m args below meth c H locs cells slots Q (F0 m pc ls (v :: rest)) := by
  obtain ⟨ls', e', h'⟩ := lx_put (v := v) hl hn (cat_of_isRef hv) hq
  intro T hT X
  obtain ⟨t, a, b⟩ := kk ls' (hlo ▸ h') T hT X
  refine ⟨t, ?_, b⟩
  jvm_step X.here [X.here.top, ↓top_set X.here.top, hexec, hb, hdg, e', hv]
  exact a
theorem q_call {rv : Option Value} {hp' : aH} {sz' mc ms : Nat} {a : Array Value} {st0 : List Value} (hr : va_Run p l e R s m args below meth c H locs cells slots mc ms (F0 m pc ls st0) rest (CQ D cl b0 rv hp' sz' a) (fun q => b0 ≤ q)) (I : AI D cl b0 hp sz H0 H locs)
    (kk : ∀ (H1 : Heap) (locs1 : List Loc), AI D cl b0 hp' sz' H0 H1 locs1 → W p l e R s m args below meth c H1 locs1 (cells + mc) (slots + ms) Q (F0 m (pc + 3) ls (rv.toList ++ rest))) : W p l e R s m args below meth c H locs cells slots Q (F0 m pc ls st0) := by
  intro T hT X
  obtain ⟨v, st₀, t, T', L, h0, X', hL, e1, e2, ⟨hv, hz, hA, f1, f2⟩, st⟩ := hr T hT X
  cases hv
  rw [h0] at f1 f2
  obtain ⟨iA, iz, ib, iS⟩ := I
  obtain ⟨t2, a1, b1⟩ := kk T'.heap (locs ++ L) ⟨by rw [e1]; exact hA, by rw [e1]; exact hz, ib, ⟨Nat.le_trans iS.1 (by rw [e1]; exact f1), fun q h1 h2 => by rw [e1, f2 q (Nat.lt_of_lt_of_le h1 iS.1) h2]; exact iS.2.1 q h1 h2, fun q hq => by
      rcases List.mem_append.mp hq with h | h
      · exact iS.2.2 q h
      · exact hL q h⟩⟩ T' rfl X'
  exact ⟨t2, st t2 a1, b1⟩
theorem q_pre {av : List Value} (B : BX p m c cc nL s args Ts own meth ret D cl tys b0 Z) (I : AI D cl b0 hp sz s.heap H locs) : PreS s H (va_Pc av (CP D cl tys b0 Z hp sz)) av :=
  ⟨fun a U g mk q => by
    obtain ⟨q0, q1, q2, q3, q4, q5⟩ := q
    exact ⟨q0, q1, q2, q3, va_K.moved (u := U) (U := U.calling g mk a) (Vm.Alike.refl U.vm) q4, B.2.2.2.2.2 U (U.calling g mk a) q5 (State.WarmedH.refl U) (fun _ _ => rfl)⟩,
   fun U hU hW => ⟨rfl, by rw [hU]; exact I.2.1, I.b, by rw [hU]; exact I.1, va_K.moved hW.alike B.2.2.2.1, B.2.2.2.2.2 s U B.2.2.2.2.1 hW (fun q hq => by
      rw [hU]
      exact I.2.2.2.2.1 q (Nat.lt_of_lt_of_le hq I.2.2.1) (Nat.not_le.mpr hq))⟩⟩
theorem q_recv {ci a : Nat} {q : vw_C} {fs : List Value} (hK : va_K D cl tys s) (I : AI D cl b0 hp sz H0 H locs) (hc : cl[ci]? = some q) (he : hp a = some (.inr (ci, fs))) : ∃ cell : Cell, H[a]? = some cell ∧ cell.vm.isStatics = false ∧ s.vm.findClass q.1 = some cell.cls := by
  obtain ⟨q', h1, cell, g1, g2, g3, -⟩ := I.1 a _ he
  exact ⟨cell, g1, by rw [g3]; rfl, by rw [g2]; exact (hK.1 ci q hc).2.1⟩
theorem q_iret {v : Int32} (B : BX p m c cc nL s args Ts own meth ret D cl tys b0 Z) (I : AI D cl b0 hp sz s.heap H locs) (hret : ret = some .int) (hd : decode cc pc = .ok (.ireturn, 1)) :
    W p l e R s m args below meth c H locs cells slots (MQ below (CQ D cl b0 (some (.int v)) hp sz) args s cells slots (fun q => b0 ≤ q)) (F0 m pc ls [.int v]) :=
  W.iret B.1.1 B.1.2.1 (B.2.1.trans hret) (fun t ht _ => ⟨rfl, by rw [ht]; exact I.2.1, by rw [ht]; exact I.1, I.2.2.2.F ht⟩) I.2.2.2.2.2 hd B.2.2.1
theorem q_zret {v : Int32} {ty : FieldType} (B : BX p m c cc nL s args Ts own meth ret D cl tys b0 Z) (I : AI D cl b0 hp sz s.heap H locs) (hret : ret = some ty) (hn : narrow ty (.int v) = .int v) (hd : decode cc pc = .ok (.ireturn, 1)) :
    W p l e R s m args below meth c H locs cells slots (MQ below (CQ D cl b0 (some (.int v)) hp sz) args s cells slots (fun q => b0 ≤ q)) (F0 m pc ls [.int v]) :=
  W.zret B.1.1 B.1.2.1 (B.2.1.trans hret) hn (fun t ht _ => ⟨rfl, by rw [ht]; exact I.2.1, by rw [ht]; exact I.1, I.2.2.2.F ht⟩) I.2.2.2.2.2 hd B.2.2.1
theorem q_vret (B : BX p m c cc nL s args Ts own meth ret D cl tys b0 Z) (I : AI D cl b0 hp sz s.heap H locs) (hret : ret = none) (hd : decode cc pc = .ok (.return_, 1)) :
    W p l e R s m args below meth c H locs cells slots (MQ below (CQ D cl b0 none hp sz) args s cells slots (fun q => b0 ≤ q)) (F0 m pc ls []) :=
  W.vret B.1.1 B.1.2.1 (B.2.1.trans hret) (fun t ht _ => ⟨rfl, by rw [ht]; exact I.2.1, by rw [ht]; exact I.1, I.2.2.2.F ht⟩) I.2.2.2.2.2 hd B.2.2.1
theorem q_aret {r : Option Nat} {rt : FieldType} (B : BX p m c cc nL s args Ts own meth ret D cl tys b0 Z) (I : AI D cl b0 hp sz s.heap H locs) (hret : ret = some rt) (hrt : (∃ n, rt = .object n) ∨ ∃ t, rt = .array t) (hd : decode cc pc = .ok (.areturn, 1)) :
    W p l e R s m args below meth c H locs cells slots (MQ below (CQ D cl b0 (some (va_rf r)) hp sz) args s cells slots (fun q => b0 ≤ q)) (F0 m pc ls [va_rf r]) :=
  W.aret B.1.1 B.1.2.1 (B.2.1.trans hret) hrt (va_rf_or r) (fun t ht _ => ⟨rfl, by rw [ht]; exact I.2.1, by rw [ht]; exact I.1, I.2.2.2.F ht⟩) I.2.2.2.2.2 hd B.2.2.1
theorem q_get {ref C : String} {T : u_T} {N ci index a : Nat} (B : BX p m c cc nL s args Ts own meth ret D cl tys b0 Z) (I : AI D cl b0 hp sz H0 H locs) (hin : ∀ w ∈ u_ws C T N, w ∈ Ts) {fs : List Value} (he : hp a = some (.inr (ci, fs))) (hc : cl[ci]? = some (C, T, N)) (k : Nat) (hk : k < N)
    (hlink : (Cond.fieldLink own index ref (T k).2.1 (T k).2.2.1) ∈ Ts) (hsame : (T k).1 = ref) {v : Value} (hv : fs[k]? = some v) (hdg : decode cc pc = .ok (.getfield index, 3))
    (kk : W p l e R s m args below meth c H locs cells slots Q (F0 m (pc + 3) ls (v :: rest))) : W p l e R s m args below meth c H locs cells slots Q (F0 m pc ls (.ref a :: rest)) :=
  va_get (D := D) (ws := [(a, .inr (ci, fs))]) B.1.1 B.1.2.1 B.1.2.2.2.2 hin B.1.2.2.2.1 B.2.2.2.1 (fun k q hq => by
    have hz : k < 1 := (List.getElem?_eq_some_iff.mp hq).1
    rw [show k = 0 by omega] at hq
    cases hq
    exact I.1 a _ he) 0 rfl hc k hk (B.1.2.2.2.2 _ hlink) (fun x h => by rw [← hsame]; exact h) hv hdg kk
theorem q_put {ref C : String} {T : u_T} {N ci index a : Nat} (B : BX p m c cc nL s args Ts own meth ret D cl tys b0 Z) (I : AI D cl b0 hp sz H0 H locs) (hin : ∀ w ∈ u_ws C T N, w ∈ Ts) (ty0 : Nat → FieldType) (hty : ∀ k, k < N → parseFieldDescriptor (T k).2.2.1 = some (ty0 k)) (hnm : ∀ a, a < N → ∀ b, b < N → a ≠ b → (T a).2.1 ≠ (T b).2.1)
    {fs : List Value} (he : hp a = some (.inr (ci, fs))) (hba : b0 ≤ a) (hc : cl[ci]? = some (C, T, N)) (k : Nat) (hk : k < N)
    (hlink : (Cond.fieldLink own index ref (T k).2.1 (T k).2.2.1) ∈ Ts) (hsame : (T k).1 = ref) (hfin : (T k).2.2.2 = false) {ty : FieldType} {v : Value} (hd : ty0 k = ty) (hn : narrow ty v = v) (hfit : fits ty v = true) (hl : k < fs.length) (hdg : decode cc pc = .ok (.putfield index, 3))
    (kk : ∀ (H1 : Heap) (locs1 : List Loc), AI D cl b0 (va_up hp a (some (.inr (ci, fs.set k v)))) sz H0 H1 locs1 → W p l e R s m args below meth c H1 locs1 cells slots Q (F0 m (pc + 3) ls rest)) : W p l e R s m args below meth c H locs cells slots Q (F0 m pc ls (v :: .ref a :: rest)) := by
  obtain ⟨⟨hx, hb, -, hown, hts⟩, -, -, hK, -⟩ := B
  have hap := va_apart (own := own) hts hin ty0 hty hnm hK hc
  obtain ⟨r, h1, cell, q1, q2, q3, q4⟩ := I.1 a _ he
  have hr : r = (C, T, N) := Option.some.inj (h1.symm.trans hc)
  subst hr
  obtain ⟨hS, hfc, kC, hkC, hkind⟩ := hK.1 ci _ hc
  obtain ⟨cf, kf, fi, f, hi, hsl⟩ := hS k hk
  have hlay := hts _ (hin _ (u_in_lay hk))
  unfold u_lay at hlay
  rw [if_neg (by rw [hfin]; decide)] at hlay
  have hst := (u_facts hfc hkC (u_lays hts hin hk) hi).1
  have h6 := u_store hfc hkC hkind hlay hi (hty k hk) (by rw [hd]; exact hn) (by rw [hd]; exact hfit)
  refine W.putK hx hb (f := f) ⟨hown, hts _ hlink, ⟨_, _, _, by rw [← hsame]; exact hi⟩, hst⟩ (by rw [q2]; exact h6) q1 q3 (by rw [hsl]; exact k2_hasslot (q4 k hk)) rfl rfl hdg fun H' e1 e2 e3 => ?_
  rw [hsl] at e1 ⊢
  exact kk H' _ ⟨I.1.up ⟨_, hc, t_OB.to (V := updV (vp_V fs) k v) ⟨_, e1, q2, q3, t_set q4 hap hk v⟩ (fun j _ => vp_updV_set hl v j)⟩ e3, by rw [e2]; exact I.2.1, I.2.2.1, I.2.2.2.put e2 e3 hba⟩
theorem q_iald {a t0 : Nat} {cA : ClassId} {n : Nat} {f : Nat → Int32} {i : Int32} (B : BX p m c cc nL s args Ts own meth ret D cl tys b0 Z) (I : AI D cl b0 hp sz H0 H locs) (he : hp a = some (.inl (cA, n, .inl f))) (ht : tys[t0]? = some (cA, .int)) (hin : vp_in i n) (hdg : decode cc pc = .ok (.iaload, 1))
    (kk : W p l e R s m args below meth c H locs cells slots Q (F0 m (pc + 1) ls (.int (f i.toNatClampNeg) :: rest))) : W p l e R s m args below meth c H locs cells slots Q (F0 m pc ls (.int i :: .ref a :: rest)) :=
  va_iald (D := D) (ws := [(a, .inl (cA, n, .inl f))]) B.1.1 B.1.2.1 B.2.2.2.1 (fun k q hq => by
    have hz : k < 1 := (List.getElem?_eq_some_iff.mp hq).1
    rw [show k = 0 by omega] at hq
    cases hq
    exact I.1 a _ he) 0 t0 rfl ht hin hdg kk
theorem q_iast {a t0 : Nat} {cA : ClassId} {n : Nat} {f : Nat → Int32} {i x : Int32} (B : BX p m c cc nL s args Ts own meth ret D cl tys b0 Z) (I : AI D cl b0 hp sz H0 H locs) (he : hp a = some (.inl (cA, n, .inl f))) (hba : b0 ≤ a) (ht : tys[t0]? = some (cA, .int)) (hin : vp_in i n) (hdg : decode cc pc = .ok (.iastore, 1))
    (kk : ∀ (H1 : Heap) (locs1 : List Loc), AI D cl b0 (va_up hp a (some (.inl (cA, n, .inl (upd f i.toNatClampNeg x))))) sz H0 H1 locs1 → W p l e R s m args below meth c H1 locs1 cells slots Q (F0 m (pc + 1) ls rest)) : W p l e R s m args below meth c H locs cells slots Q (F0 m pc ls (.int x :: .int i :: .ref a :: rest)) := by
  obtain ⟨⟨hx, hb, -, -, -⟩, -, -, hK, -⟩ := B
  refine W.iast hx hb (I.1 a _ he) ((hK.2 t0 _ ht).1 n (fun j => .int (f j))) (fun q => by cases q) (by show ¬ (i < 0 ∨ (arrV _ _ _).slots.size ≤ _); rw [arrV_size]; exact hin) rfl rfl hdg fun H1 e z oq => ?_
  refine kk H1 _ ⟨I.1.up ?_ oq, by rw [z]; exact I.2.1, I.2.2.1, I.2.2.2.put z oq hba⟩
  show H1[a]? = some (vp_cell _ _)
  rw [e, vp_cell_i, vp_cell_i, arrV_store]
  congr 2
  funext q
  by_cases hq : q = i.toNatClampNeg
  · subst hq; simp [updV, upd]
  · simp [updV, upd, hq]
end QX
/-- a contract out of a walk -/
theorem ct_of {l : Launch} {D : va_G} {cl : List vw_C} {tys : List (ClassId × FieldType)} {b0 : Nat} {Z : State → Prop} {y : MethodName} {ws ws' : List Cond} {fr lo : Nat} {av : List Value} {hp : aH} {sz : Nat} {rv : Option Value} {hp' : aH} {mc ms : Nat} {cc : ByteArray} {maxL : Nat} {ret : Option FieldType} {lo0 : List (Option Value)}
    (hZ : ZC b0 Z) (hy : plainName y.cls = true) (hw : ws = Cond.code y cc maxL ret :: ws') (hlen : (lg_sl av).length ≤ maxL) (hlo : lo0.length = maxL) (hla : lx_all 0 lo0 (lv_args 0 av))
    (body : ∀ (p : Program) (e : Env) (s : State) (m : MethodId) (args : Array Value) (below : List Frame) (meth : Method) (c : Code) (ls : Array Slot), BX p m c cc maxL s args ws y.cls meth ret D cl tys b0 Z → meth.name = y.name → lx ls lo0 → AI D cl b0 hp sz s.heap s.heap [] →
      W p l e { frames := fr, cells := mc, slots := ms, locals := lo } s m args below meth c s.heap [] 0 0 (MQ below (CQ D cl b0 rv hp' (sz + mc)) args s mc ms (fun q => b0 ≤ q)) (F0 m 0 ls [])) :
    Ct l D cl tys b0 Z y ws fr lo av hp sz rv hp' mc ms := by
  refine Met.ofW (cc := cc) (maxL := maxL) (ret := ret) hy hw ?_
  intro p e s m args below meth c s₁ B hml hv
  obtain ⟨rfl, hsz, hb0, hA, hK, hZs⟩ := hv
  have hts := atoms_spec (ws := ws) B.pre
  have hown : s.vm.findClass y.cls = some m.cls := findClass_of_methodNamed B.named
  have hl := lv_entry av (n := maxL) hlen
  rw [lg_entry_eq]
  generalize (lg_sl av ++ List.replicate (maxL - (lg_sl av).length) Slot.unset).toArray = ls at hl ⊢
  exact body p e s m _ below meth c ls ⟨⟨B.exec, B.bytes, hml, hown, hts⟩, B.returns, B.notSynchronized, hK, hZs, hZ⟩ (name_of_methodNamed B.named B.method).1 ⟨by rw [hl.1, hlo], hl.2.1, fun i v h => hl.2.2 (i, v) (by have := lx_all_at _ _ _ hla i v h; rwa [Nat.zero_add] at this)⟩ ⟨hA, hsz, by rw [hsz]; exact hb0, va_S.rf⟩
