/-! The reference's world: its object at h, its arrays of ints at h + 1 .. h + 19. -/
abbrev rS : Type := (Nat → Int32) × (Nat → Nat → Int32)
def rF (h : Nat) (f : Nat → Int32) : List Value := [.int (f 0), .int (f 1), .ref (h + 1), .int (f 3), .int (f 4), .int (f 5), .ref (h + 2), .ref (h + 3), .ref (h + 4), .ref (h + 5), .ref (h + 6), .ref (h + 7), .ref (h + 8), .ref (h + 9), .ref (h + 10), .ref (h + 11), .ref (h + 12), .ref (h + 13), .int (f 18), .int (f 19), .int (f 20), .ref (h + 14), .ref (h + 15), .ref (h + 16), .int (f 24), .int (f 25), .int (f 26), .ref (h + 17), .ref (h + 18), .int (f 29), .ref (h + 19)]
def rN (j : Nat) : Nat := match j with
  | 1 => 240 | 2 => 2 | 12 => 2 | 13 => 600 | 14 => 130 | 15 => 130 | 16 => 130 | 17 => 6 | 18 => 6 | 19 => 600 | _ => 520
def rH (dA : Nat → ClassId) (h : Nat) (S : rS) (hp0 : aH) : aH := fun a =>
  if a = h then some (.inr (cREF, rF h S.1)) else if h < a ∧ a ≤ h + 19 then some (.inl (dA 0, rN (a - h), .inl (S.2 (a - h)))) else hp0 a
def rP (S : rS) (k : Nat) (v : Int32) : Option rS := some (va_up S.1 k v, S.2)
def rL (S : rS) (j : Nat) (i : Int32) : Option Int32 := if 0 ≤ i.toInt ∧ i.toInt < rN j then some (S.2 j i.toNatClampNeg) else none
def rT (S : rS) (j : Nat) (i x : Int32) : Option rS := if 0 ≤ i.toInt ∧ i.toInt < rN j then some (S.1, va_up S.2 j (upd (S.2 j) i.toNatClampNeg x)) else none
theorem rH_h {dA : Nat → ClassId} {h : Nat} {S : rS} {hp0 : aH} : rH dA h S hp0 h = some (.inr (cREF, rF h S.1)) := by simp [rH]
theorem rH_a {dA : Nat → ClassId} {h : Nat} {S : rS} {hp0 : aH} {j : Nat} (h1 : 1 ≤ j) (h2 : j ≤ 19) : rH dA h S hp0 (h + j) = some (.inl (dA 0, rN j, .inl (S.2 j))) := by
  have e1 : ¬ h + j = h := by omega
  have e2 : h < h + j ∧ h + j ≤ h + 19 := by omega
  have e3 : h + j - h = j := by omega
  simp only [rH, if_neg e1, if_pos e2, e3]
theorem rH_put {dA : Nat → ClassId} {h : Nat} {S : rS} {hp0 : aH} {f : Nat → Int32} : va_up (rH dA h S hp0) h (some (.inr (cREF, rF h f))) = rH dA h (f, S.2) hp0 := by
  funext a
  by_cases e : a = h
  · subst e; rw [va_up_self]; simp [rH]
  · rw [va_up_ne _ _ e]; simp [rH, e]
theorem rH_ast {dA : Nat → ClassId} {h : Nat} {S : rS} {hp0 : aH} {j : Nat} {g : Nat → Int32} (h1 : 1 ≤ j) (h2 : j ≤ 19) : va_up (rH dA h S hp0) (h + j) (some (.inl (dA 0, rN j, .inl g))) = rH dA h (S.1, va_up S.2 j g) hp0 := by
  funext a
  by_cases e : a = h + j
  · subst e; rw [va_up_self, rH_a h1 h2]; simp [va_up]
  · rw [va_up_ne _ _ e]
    by_cases e0 : a = h
    · simp [rH, e0]
    · by_cases e1 : h < a ∧ a ≤ h + 19
      · have e2 : ¬ a - h = j := by omega
        simp only [rH, if_neg e0, if_pos e1, va_up_ne _ _ e2]
      · simp only [rH, if_neg e0, if_neg e1]
theorem zn {v : Int32} (hq : v = 0 ∨ v = 1) : narrow .boolean (.int v) = .int v := by rcases hq with rfl | rfl <;> rfl
def RR (b0 h : Nat) (Z : State → Prop) : Prop := b0 ≤ h ∧ ZC b0 Z
section RX
variable {p : Program} {l : Launch} {e : Env} {R : Room} {s : State} {m : MethodId} {args : Array Value} {below : List Frame} {meth : Method} {c : Code} {H : Heap} {locs : List Loc} {cells slots : Nat} {Q : State → Prop}
variable {cc : ByteArray} {pc : Nat} {ls : Array Slot} {rest : List Value} {D : va_G} {dA : Nat → ClassId} {hp0 : aH} {sz b0 nL h : Nat} {H0 : Heap} {cd : Cond} {ret : Option FieldType} {S S1 : rS} {Z : State → Prop}
theorem r_get {k index : Nat} {v : Value} (B : BX p m c cc nL s args (cd :: wsA) RREF meth ret D vwCl (tyL dA) b0 Z) (I : AI D vwCl b0 (rH dA h S hp0) sz H0 H locs) (hk : k < 31) (hlink : Cond.fieldLink RREF index RREF (TREF k).2.1 (TREF k).2.2.1 ∈ wsA) (hsame : (TREF k).1 = RREF) (hv : (rF h S.1)[k]? = some v) (hdg : decode cc pc = .ok (.getfield index, 3))
    (kk : W p l e R s m args below meth c H locs cells slots Q (F0 m (pc + 3) ls (v :: rest))) : W p l e R s m args below meth c H locs cells slots Q (F0 m pc ls (.ref h :: rest)) :=
  q_get B I (fun w hw => List.mem_cons_of_mem _ (wsA_ref w hw)) rH_h hcREF k hk (List.mem_cons_of_mem _ hlink) hsame hv hdg kk
theorem r_put {k index : Nat} {v : Int32} (B : BX p m c cc nL s args (cd :: wsA) RREF meth ret D vwCl (tyL dA) b0 Z) (hR : RR b0 h Z) (I : AI D vwCl b0 (rH dA h S hp0) sz H0 H locs) (hk : k < 31) (hlink : Cond.fieldLink RREF index RREF (TREF k).2.1 (TREF k).2.2.1 ∈ wsA) (hsame : (TREF k).1 = RREF) (hfin : (TREF k).2.2.2 = false) (hty : tyREF k = .int) (hset : ∀ (h : Nat) (f : Nat → Int32), (rF h f).set k (.int v) = rF h (va_up f k v)) (e1 : rP S k v = some S1) (hdg : decode cc pc = .ok (.putfield index, 3))
    (kk : ∀ (H1 : Heap) (locs1 : List Loc), AI D vwCl b0 (rH dA h S1 hp0) sz H0 H1 locs1 → W p l e R s m args below meth c H1 locs1 cells slots Q (F0 m (pc + 3) ls rest)) : W p l e R s m args below meth c H locs cells slots Q (F0 m pc ls (.int v :: .ref h :: rest)) := by
  cases e1
  refine q_put B I (fun w hw => List.mem_cons_of_mem _ (wsA_ref w hw)) tyREF tyREF_ok nREF rH_h hR.1 hcREF k hk (List.mem_cons_of_mem _ hlink) hsame hfin hty rfl rfl hk hdg fun H1 locs1 J => ?_
  rw [hset, rH_put] at J
  exact kk H1 locs1 J
theorem rin {i : Int32} {n : Nat} (h : 0 ≤ i.toInt ∧ i.toInt < n) : vp_in i n := vp_in_iff.mpr h
theorem r_ald {j : Nat} {i x : Int32} (B : BX p m c cc nL s args (cd :: wsA) RREF meth ret D vwCl (tyL dA) b0 Z) (I : AI D vwCl b0 (rH dA h S hp0) sz H0 H locs) (h1 : 1 ≤ j) (h2 : j ≤ 19) (e1 : rL S j i = some x) (hdg : decode cc pc = .ok (.iaload, 1))
    (kk : W p l e R s m args below meth c H locs cells slots Q (F0 m (pc + 1) ls (.int x :: rest))) : W p l e R s m args below meth c H locs cells slots Q (F0 m pc ls (.int i :: .ref (h + j) :: rest)) := by
  unfold rL at e1
  by_cases hi : 0 ≤ i.toInt ∧ i.toInt < rN j
  · rw [if_pos hi] at e1
    cases e1
    exact q_iald (t0 := 0) B I (rH_a h1 h2) rfl (rin hi) hdg kk
  · rw [if_neg hi] at e1
    cases e1
theorem r_ast {j : Nat} {i x : Int32} (B : BX p m c cc nL s args (cd :: wsA) RREF meth ret D vwCl (tyL dA) b0 Z) (hR : RR b0 h Z) (I : AI D vwCl b0 (rH dA h S hp0) sz H0 H locs) (h1 : 1 ≤ j) (h2 : j ≤ 19) (e1 : rT S j i x = some S1) (hdg : decode cc pc = .ok (.iastore, 1))
    (kk : ∀ (H1 : Heap) (locs1 : List Loc), AI D vwCl b0 (rH dA h S1 hp0) sz H0 H1 locs1 → W p l e R s m args below meth c H1 locs1 cells slots Q (F0 m (pc + 1) ls rest)) : W p l e R s m args below meth c H locs cells slots Q (F0 m pc ls (.int x :: .int i :: .ref (h + j) :: rest)) := by
  unfold rT at e1
  by_cases hi : 0 ≤ i.toInt ∧ i.toInt < rN j
  · rw [if_pos hi] at e1
    cases e1
    refine q_iast (t0 := 0) B I (rH_a h1 h2) (Nat.le_trans hR.1 (Nat.le_add_right _ _)) rfl (rin hi) hdg fun H1 locs1 J => ?_
    rw [rH_ast h1 h2] at J
    exact kk H1 locs1 J
  · rw [if_neg hi] at e1
    cases e1
theorem r_call {rv : Option Value} {index n maxL fr lo FR LO : Nat} {y : MethodName} {bytes : ByteArray} {retc : Option FieldType} {As st0 : List Value} {lo0 : List (Option Value)}
    (B : BX p m c cc nL s args (cd :: wsA) RREF meth ret D vwCl (tyL dA) b0 Z) (hl : lx ls lo0) (hlo : lo0.length = nL) (I : AI D vwCl b0 (rH dA h S hp0) sz s.heap H locs)
    (hM : Ct l D vwCl (tyL dA) b0 Z y (.code y bytes maxL retc :: wsA) fr lo (.ref h :: As) (rH dA h S hp0) sz rv (rH dA h S1 hp0) 0 0)
    (kw : GoodIn wsA (wsV RREF index RREF y (.code y bytes maxL retc :: wsA)) ∧ y.cls = RREF ∧ y.cls ≠ "java/lang/invoke/MethodHandle" ∧ y.cls ≠ "java/lang/invoke/VarHandle" ∧ (parseMethodDescriptor y.desc).map (fun d => d.parameters.length) = some n) (hn : As.length = n)
    (hfr : fr + 1 ≤ FR) (hlc : 8 + (maxL + 11) + lo ≤ LO) (hst : st0 = As.reverse ++ .ref h :: rest) (hW : (rest.map fun v => v.category).sum ≤ 8) (hdg : decode cc pc = .ok (.invokevirtual index, 3))
    (kk : ∀ (H1 : Heap) (locs1 : List Loc), AI D vwCl b0 (rH dA h S1 hp0) sz s.heap H1 locs1 → W p l e { frames := FR, cells := 0, slots := 0, locals := LO } s m args below meth c H1 locs1 0 0 Q (F0 m (pc + 3) ls (rv.toList ++ rest))) :
    W p l e { frames := FR, cells := 0, slots := 0, locals := LO } s m args below meth c H locs 0 0 Q (F0 m pc ls st0) := by
  have hts : ∀ w ∈ wsA, w.before args s = true := fun w hw => B.1.2.2.2.2 w (List.mem_cons_of_mem _ hw)
  refine q_call (va_runV (As := As) (rest := rest) (b := h) (C := RREF) ⟨B.1.1, B.1.2.1, B.1.2.2.1, B.1.2.2.2.1, hts⟩ hM (cwV n hts kw.1 rfl rfl rfl kw.2 ⟨hfr, hlc⟩) ⟨(q_pre (av := .ref h :: As) B I).1, q_recv B.2.2.2.1 I hcREF rH_h, (q_pre (av := .ref h :: As) B I).2⟩ rfl hn (by rw [← hlo]; exact hl.1) hst (lv_room hW) hdg ⟨Nat.le_refl _, Nat.le_refl _⟩) I kk
end RX
