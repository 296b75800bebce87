/-! The class's world, on: arrays, new cells, calls. -/
def nOo (b0 : Nat) (S : cS) (z a : Nat) : Option cS := if b0 ≤ a ∧ ¬ (b0 + 5 ≤ a ∧ a < b0 + 26) then some (nO S z a) else none
def nAo (b0 : Nat) (S : cS) (z a : Nat) (n : Int32) : Option cS := if (b0 ≤ a ∧ ¬ (b0 + 5 ≤ a ∧ a < b0 + 26)) ∧ 0 ≤ n.toInt ∧ n.toInt < 100000 then some (nA S z a n.toNatClampNeg) else none
def ifk {α : Type} (b0 : Nat) (K S : cS) (z a : Nat) (o : Option α) : Option α := if kd b0 K S a = z then o else none
theorem oifk {α : Type} {b0 z a : Nat} {K S : cS} {o : Option α} {r : α} {P : Prop} (h : ifk b0 K S z a o = some r) (k : kd b0 K S a = z → o = some r → P) : P := by
  unfold ifk at h
  by_cases hk : kd b0 K S a = z
  · rw [if_pos hk] at h; exact k hk h
  · rw [if_neg hk] at h; cases h
theorem gS {own : String} {idx : Nat} {y : MethodName} {cd : Cond} (h1 : Cond.methodLink own idx y ∈ wsA) (h2 : Cond.static y ∈ wsA) (h4 : Cond.initialized y.cls ∈ wsA) (h5 : cd ∈ wsA) : GoodIn wsA (va_wsS own idx y (cd :: wsA)) := fun w hw => wsA_good (by
  unfold va_wsS at hw
  rcases List.mem_append.mp hw with h | h
  · simp only [List.mem_cons, List.not_mem_nil, or_false] at h
    rcases h with rfl | rfl | rfl
    · exact h1
    · exact h2
    · exact h4
  · rcases List.mem_cons.mp h with rfl | h
    · exact h5
    · exact h)
theorem gC {cd : Cond} (h5 : cd ∈ wsA) : GoodIn wsA (cd :: wsA) := fun w hw => wsA_good (by
  rcases List.mem_cons.mp hw with rfl | h
  · exact h5
  · exact h)
section KZ
variable {p : Program} {l : Launch} {e : Env} {R : Room} {s : State} {m : MethodId} {args : Array Value} {below : List Frame} {meth : Method} {c : Code} {H : Heap} {locs : List Loc} {cells slots : Nat} {Q : State → Prop}
variable {cc : ByteArray} {pc : Nat} {ls : Array Slot} {rest : List Value} {D : va_G} {dA : Nat → ClassId} {hp0 hp : aH} {sz b0 nL : Nat} {cd : Cond} {ret : Option FieldType} {K S S1 : cS} {Z : State → Prop} {own ref host : String} {cl : List vw_C} {tys : List (ClassId × FieldType)} {Ts : List Cond} {H0 : Heap}
theorem q_cald {a t0 : Nat} {cA : ClassId} {n : Nat} {f : Nat → Int32} {i : Int32} (B : BX p m c cc nL s args Ts own meth ret D cl tys b0 Z) (I : AI D cl b0 hp sz H0 H locs) (he : hp a = some (.inl (cA, n, .inl f))) (ht : tys[t0]? = some (cA, .char)) (hin : vp_in i n) (hdg : decode cc pc = .ok (.caload, 1))
    (kk : W p l e R s m args below meth c H locs cells slots Q (F0 m (pc + 1) ls (.int (f i.toNatClampNeg) :: rest))) : W p l e R s m args below meth c H locs cells slots Q (F0 m pc ls (.int i :: .ref a :: rest)) :=
  va_cald (D := D) (ws := [(a, .inl (cA, n, .inl f))]) B.1.1 B.1.2.1 B.2.2.2.1 (fun k q hq => by
    have hz : k < 1 := (List.getElem?_eq_some_iff.mp hq).1
    rw [show k = 0 by omega] at hq
    cases hq
    exact I.1 a _ he) 0 t0 rfl ht hin hdg kk
theorem q_bald {a t0 : Nat} {cA : ClassId} {n : Nat} {f : Nat → Int32} {i : Int32} (B : BX p m c cc nL s args Ts own meth ret D cl tys b0 Z) (I : AI D cl b0 hp sz H0 H locs) (he : hp a = some (.inl (cA, n, .inl f))) (ht : tys[t0]? = some (cA, .byte)) (hin : vp_in i n) (hdg : decode cc pc = .ok (.baload, 1))
    (kk : W p l e R s m args below meth c H locs cells slots Q (F0 m (pc + 1) ls (.int (f i.toNatClampNeg) :: rest))) : W p l e R s m args below meth c H locs cells slots Q (F0 m pc ls (.int i :: .ref a :: rest)) :=
  va_bald (D := D) (ws := [(a, .inl (cA, n, .inl f))]) B.1.1 B.1.2.1 B.2.2.2.1 (fun k q hq => by
    have hz : k < 1 := (List.getElem?_eq_some_iff.mp hq).1
    rw [show k = 0 by omega] at hq
    cases hq
    exact I.1 a _ he) 0 t0 rfl ht hin hdg kk
theorem q_aald {a t0 : Nat} {cA : ClassId} {C : String} {n : Nat} {f : Nat → Option Nat} {i : Int32} (B : BX p m c cc nL s args Ts own meth ret D cl tys b0 Z) (I : AI D cl b0 hp sz H0 H locs) (he : hp a = some (.inl (cA, n, .inr (.inr (.inr (.inr f)))))) (ht : tys[t0]? = some (cA, .object C)) (hin : vp_in i n) (hdg : decode cc pc = .ok (.aaload, 1))
    (kk : W p l e R s m args below meth c H locs cells slots Q (F0 m (pc + 1) ls (va_rf (f i.toNatClampNeg) :: rest))) : W p l e R s m args below meth c H locs cells slots Q (F0 m pc ls (.int i :: .ref a :: rest)) :=
  va_aldq (D := D) (ws := [(a, .inl (cA, n, .inr (.inr (.inr (.inr f)))))]) B.1.1 B.1.2.1 B.2.2.2.1 (fun k q hq => by
    have hz : k < 1 := (List.getElem?_eq_some_iff.mp hq).1
    rw [show k = 0 by omega] at hq
    cases hq
    exact I.1 a _ he) 0 t0 rfl ht hin hdg kk
theorem q_cast {a t0 : Nat} {cA : ClassId} {n : Nat} {f : Nat → Int32} {i x : Int32} (B : BX p m c cc nL s args Ts own meth ret D cl tys b0 Z) (I : AI D cl b0 hp sz H0 H locs) (he : hp a = some (.inl (cA, n, .inl f))) (hba : b0 ≤ a) (ht : tys[t0]? = some (cA, .char)) (hin : vp_in i n) (hdg : decode cc pc = .ok (.castore, 1))
    (kk : ∀ (H1 : Heap) (locs1 : List Loc), AI D cl b0 (va_up hp a (some (.inl (cA, n, .inl (upd f i.toNatClampNeg (vp_nar .char x)))))) sz H0 H1 locs1 → W p l e R s m args below meth c H1 locs1 cells slots Q (F0 m (pc + 1) ls rest)) : W p l e R s m args below meth c H locs cells slots Q (F0 m pc ls (.int x :: .int i :: .ref a :: rest)) := by
  obtain ⟨⟨hx, hb, -, -, -⟩, -, -, hK, -⟩ := B
  refine W.cast hx hb (I.1 a _ he) ((hK.2 t0 _ ht).1 n (fun j => .int (f j))) (fun q => by cases q) (by show ¬ (i < 0 ∨ (arrV _ _ _).slots.size ≤ _); rw [arrV_size]; exact hin) rfl rfl hdg fun H1 e z oq => ?_
  refine kk H1 _ ⟨I.1.up ?_ oq, by rw [z]; exact I.2.1, I.2.2.1, I.2.2.2.put z oq hba⟩
  show H1[a]? = some (vp_cell _ _)
  rw [e, vp_cell_i, vp_cell_i, arrV_store]
  congr 2
  funext q
  by_cases hq : q = i.toNatClampNeg
  · subst hq
    simp [updV, upd, vp_nar]
    try rfl
  · simp [updV, upd, hq]
theorem q_bast {a t0 : Nat} {cA : ClassId} {n : Nat} {f : Nat → Int32} {i x : Int32} (B : BX p m c cc nL s args Ts own meth ret D cl tys b0 Z) (I : AI D cl b0 hp sz H0 H locs) (he : hp a = some (.inl (cA, n, .inl f))) (hba : b0 ≤ a) (ht : tys[t0]? = some (cA, .byte)) (hin : vp_in i n) (hdg : decode cc pc = .ok (.bastore, 1))
    (kk : ∀ (H1 : Heap) (locs1 : List Loc), AI D cl b0 (va_up hp a (some (.inl (cA, n, .inl (upd f i.toNatClampNeg (vp_nar .byte x)))))) sz H0 H1 locs1 → W p l e R s m args below meth c H1 locs1 cells slots Q (F0 m (pc + 1) ls rest)) : W p l e R s m args below meth c H locs cells slots Q (F0 m pc ls (.int x :: .int i :: .ref a :: rest)) := by
  obtain ⟨⟨hx, hb, -, -, -⟩, -, -, hK, -⟩ := B
  refine W.bast hx hb (I.1 a _ he) ((hK.2 t0 _ ht).1 n (fun j => .int (f j))) (fun q => by cases q) (by show ¬ (i < 0 ∨ (arrV _ _ _).slots.size ≤ _); rw [arrV_size]; exact hin) rfl rfl hdg fun H1 e z oq => ?_
  refine kk H1 _ ⟨I.1.up ?_ oq, by rw [z]; exact I.2.1, I.2.2.1, I.2.2.2.put z oq hba⟩
  show H1[a]? = some (vp_cell _ _)
  rw [e, vp_cell_i, vp_cell_i, arrV_store]
  congr 2
  funext q
  by_cases hq : q = i.toNatClampNeg
  · subst hq
    simp [updV, upd, vp_nar]
    try rfl
  · simp [updV, upd, hq]
theorem up2_row {f : Nat → Nat → Int32} {a k : Nat} {v : Int32} : up2 f a k v a = upd (f a) k v := by funext j; simp [up2, upd]
theorem kd_made {z a : Nat} (X : ZX b0 K s) (hz : z ≠ 0 ∧ z ≠ 6 ∧ z ≠ 12 ∧ z ≠ 13) (h : kd b0 K S a = z) : ck b0 S a = z ∧ eK b0 K S a = S ∧ b0 ≤ a := by
  have ha : ¬ a < b0 := fun ha => by
    unfold kd at h; rw [if_pos ha] at h
    rcases X.2.2.2.2.2.1 a ha with q | q | q | q <;> omega
  unfold kd at h; rw [if_neg ha] at h
  exact ⟨h, by unfold eK; rw [if_neg ha], Nat.not_lt.mp ha⟩
theorem k_cald {a : Nat} {i x : Int32} (B : BX p m c cc nL s args (cd :: wsA) own meth ret D vwCl (tyL dA) b0 Z) (hR : CR b0 K Z) (I : AI D vwCl b0 (cH dA b0 S hp0) sz s.heap H locs) (e1 : aL b0 K S 11 a i = some x) (hdg : decode cc pc = .ok (.caload, 1))
    (kk : W p l e R s m args below meth c H locs cells slots Q (F0 m (pc + 1) ls (.int x :: rest))) : W p l e R s m args below meth c H locs cells slots Q (F0 m pc ls (.int i :: .ref a :: rest)) := by
  unfold aL at e1
  by_cases h : kd b0 K S a = 11 ∧ 0 ≤ i.toInt ∧ i.toInt < (eK b0 K S a).2.1 a
  · rw [if_pos h] at e1
    cases e1
    obtain ⟨h1, h2, -⟩ := kd_made (hR.2 s B.2.2.2.2.1) (by decide) h.1
    rw [h2] at h kk
    exact q_cald (t0 := 1) B I (cH_c h1) rfl (rin h.2) hdg kk
  · rw [if_neg h] at e1
    cases e1
theorem k_bald {a : Nat} {i x : Int32} (B : BX p m c cc nL s args (cd :: wsA) own meth ret D vwCl (tyL dA) b0 Z) (hR : CR b0 K Z) (I : AI D vwCl b0 (cH dA b0 S hp0) sz s.heap H locs) (e1 : aL b0 K S 12 a i = some x) (hdg : decode cc pc = .ok (.baload, 1))
    (kk : W p l e R s m args below meth c H locs cells slots Q (F0 m (pc + 1) ls (.int x :: rest))) : W p l e R s m args below meth c H locs cells slots Q (F0 m pc ls (.int i :: .ref a :: rest)) := by
  unfold aL at e1
  by_cases h : kd b0 K S a = 12 ∧ 0 ≤ i.toInt ∧ i.toInt < (eK b0 K S a).2.1 a
  · rw [if_pos h] at e1
    cases e1
    by_cases ha : a < b0
    · obtain ⟨h1, h2⟩ := h
      unfold kd at h1
      unfold eK at h2 kk
      rw [if_pos ha] at h1 h2 kk
      obtain ⟨cell, c1, c2, c3, c4, c5, c6, c7⟩ := (((hR.2 s B.2.2.2.2.1).2.2.2.2.2.2.2.1) a ha h1).kept I.2.2.2.2.1
      have hlt : i.toNatClampNeg < K.2.1 a := Nat.not_le.mp fun q => (rin h2) (Or.inr q)
      exact W.bald (v := .int (K.2.2.1 a i.toNatClampNeg)) B.1.1 B.1.2.1 c1 c2 c3 (fun q => by rcases q with q | q; exact (rin h2) (Or.inl q); omega) (c6 _ hlt) rfl rfl hdg kk
    · obtain ⟨h1, h2⟩ := h
      unfold kd at h1
      unfold eK at h2 kk
      rw [if_neg ha] at h1 h2 kk
      exact q_bald (t0 := 2) B I (cH_b h1) rfl (rin h2) hdg kk
  · rw [if_neg h] at e1
    cases e1
theorem k_aald {a : Nat} {i : Int32} {x : Option Nat} (B : BX p m c cc nL s args (cd :: wsA) own meth ret D vwCl (tyL dA) b0 Z) (hR : CR b0 K Z) (I : AI D vwCl b0 (cH dA b0 S hp0) sz s.heap H locs) (e1 : aLR b0 S a i = some x) (hdg : decode cc pc = .ok (.aaload, 1))
    (kk : W p l e R s m args below meth c H locs cells slots Q (F0 m (pc + 1) ls (va_rf x :: rest))) : W p l e R s m args below meth c H locs cells slots Q (F0 m pc ls (.int i :: .ref a :: rest)) := by
  unfold aLR at e1
  by_cases h : ck b0 S a = 13 ∧ 0 ≤ i.toInt ∧ i.toInt < S.2.1 a
  · rw [if_pos h] at e1
    cases e1
    exact q_aald (t0 := 3) B I (cH_q h.1) rfl (rin h.2) hdg kk
  · rw [if_neg h] at e1
    cases e1
theorem k_cast {a : Nat} {i x : Int32} (B : BX p m c cc nL s args (cd :: wsA) own meth ret D vwCl (tyL dA) b0 Z) (I : AI D vwCl b0 (cH dA b0 S hp0) sz s.heap H locs) (e1 : aT b0 S 11 a i (vp_nar .char x) = some S1) (hdg : decode cc pc = .ok (.castore, 1))
    (kk : ∀ (H1 : Heap) (locs1 : List Loc), AI D vwCl b0 (cH dA b0 S1 hp0) sz s.heap H1 locs1 → W p l e R s m args below meth c H1 locs1 cells slots Q (F0 m (pc + 1) ls rest)) : W p l e R s m args below meth c H locs cells slots Q (F0 m pc ls (.int x :: .int i :: .ref a :: rest)) := by
  unfold aT at e1
  by_cases h : ck b0 S a = 11 ∧ 0 ≤ i.toInt ∧ i.toInt < S.2.1 a
  · rw [if_pos h] at e1
    cases e1
    refine q_cast (t0 := 1) B I (cH_c h.1) (ck_b (by decide) h.1) rfl (rin h.2) hdg fun H1 locs1 J => kk H1 locs1 (J.of ?_)
    rw [← up2_row]
    exact cH_up (cH_c (by exact h.1)) (fun b hb => cCell_cong rfl rfl (up2_ne hb) rfl)
  · rw [if_neg h] at e1
    cases e1
theorem k_bast {a : Nat} {i x : Int32} (B : BX p m c cc nL s args (cd :: wsA) own meth ret D vwCl (tyL dA) b0 Z) (I : AI D vwCl b0 (cH dA b0 S hp0) sz s.heap H locs) (e1 : aT b0 S 12 a i (vp_nar .byte x) = some S1) (hdg : decode cc pc = .ok (.bastore, 1))
    (kk : ∀ (H1 : Heap) (locs1 : List Loc), AI D vwCl b0 (cH dA b0 S1 hp0) sz s.heap H1 locs1 → W p l e R s m args below meth c H1 locs1 cells slots Q (F0 m (pc + 1) ls rest)) : W p l e R s m args below meth c H locs cells slots Q (F0 m pc ls (.int x :: .int i :: .ref a :: rest)) := by
  unfold aT at e1
  by_cases h : ck b0 S a = 12 ∧ 0 ≤ i.toInt ∧ i.toInt < S.2.1 a
  · rw [if_pos h] at e1
    cases e1
    refine q_bast (t0 := 2) B I (cH_b h.1) (ck_b (by decide) h.1) rfl (rin h.2) hdg fun H1 locs1 J => kk H1 locs1 (J.of ?_)
    rw [← up2_row]
    exact cH_up (cH_b (by exact h.1)) (fun b hb => cCell_cong rfl rfl (up2_ne hb) rfl)
  · rw [if_neg h] at e1
    cases e1
theorem k_alen {z a : Nat} {x : Int32} (B : BX p m c cc nL s args (cd :: wsA) own meth ret D vwCl (tyL dA) b0 Z) (hR : CR b0 K Z) (I : AI D vwCl b0 (cH dA b0 S hp0) sz s.heap H locs) (hz : z = 11 ∨ z = 12 ∨ z = 13) (e1 : aN b0 K S z a = some x) (hdg : decode cc pc = .ok (.arraylength, 1))
    (kk : W p l e R s m args below meth c H locs cells slots Q (F0 m (pc + 1) ls (.int x :: rest))) : W p l e R s m args below meth c H locs cells slots Q (F0 m pc ls (.ref a :: rest)) := by
  have X := hR.2 s B.2.2.2.2.1
  unfold aN at e1
  by_cases h : kd b0 K S a = z
  · rw [if_pos h] at e1
    cases e1
    by_cases ha : a < b0
    · unfold kd at h
      unfold eK at kk
      rw [if_pos ha] at h kk
      rcases hz with rfl | rfl | rfl
      · rcases X.2.2.2.2.2.1 a ha with q | q | q | q <;> omega
      · obtain ⟨cell, c1, c2, c3, c4, c5, c6, c7⟩ := (X.2.2.2.2.2.2.2.1 a ha h).kept I.2.2.2.2.1
        exact W.alen (n := Int32.ofNat (K.2.1 a)) B.1.1 B.1.2.1 c1 c2 c5 rfl rfl hdg kk
      · obtain ⟨cell, c1, c2, c3, c4, c5, c6, c7⟩ := (X.2.2.2.2.2.2.2.2.1 a ha h).kept I.2.2.2.2.1
        exact W.alen (n := Int32.ofNat (K.2.1 a)) B.1.1 B.1.2.1 c1 c2 c5 rfl rfl hdg kk
    · unfold kd at h
      unfold eK at kk
      rw [if_neg ha] at h kk
      rcases hz with rfl | rfl | rfl
      · exact W.alen (n := Int32.ofNat (S.2.1 a)) B.1.1 B.1.2.1 (I.1 a _ (cH_c h)) ((B.2.2.2.1.2 1 (dA 1, .char) rfl).1 _ (fun j => .int (S.2.2.1 a j))) (by rw [vp_cell_i, arrV_size] <;> rfl) rfl rfl hdg kk
      · exact W.alen (n := Int32.ofNat (S.2.1 a)) B.1.1 B.1.2.1 (I.1 a _ (cH_b h)) ((B.2.2.2.1.2 2 (dA 2, .byte) rfl).1 _ (fun j => .int (S.2.2.1 a j))) (by rw [vp_cell_i, arrV_size] <;> rfl) rfl rfl hdg kk
      · exact W.alen (n := Int32.ofNat (S.2.1 a)) B.1.1 B.1.2.1 (I.1 a _ (cH_q h)) ((B.2.2.2.1.2 3 (dA 3, .object "java/lang/Object") rfl).1 _ (fun j => va_rf (S.2.2.2 a j))) (by rw [vp_cell_q, arrV_size] <;> rfl) rfl rfl hdg kk
  · rw [if_neg h] at e1
    cases e1
theorem ck_new {z a : Nat} {S1 : cS} (ha : b0 ≤ a ∧ ¬ (b0 + 5 ≤ a ∧ a < b0 + 26)) (h : S1.1 a = z) : ck b0 S1 a = z := by
  unfold ck
  rw [if_neg (by omega), h]
theorem AI.new {e : va_E} {H1 : Heap} (I : AI D cl b0 hp sz H0 H locs) (he : va_at D cl (sz, e) H1) (z1 : H1.size = sz + 1) (o1 : ∀ q : Nat, q < sz → H1[q]? = H[q]?) : AI D cl b0 (va_up hp sz (some e)) (sz + 1) H0 H1 locs := by
  obtain ⟨i1, i2, i3, i4, i5, i6⟩ := I
  subst i2
  exact ⟨i1.push he o1, z1, i3, Nat.le_trans i4 (by omega), fun q h1 h2 => (o1 q (Nat.lt_of_lt_of_le h1 i4)).trans (i5 q h1 h2), i6⟩
theorem k_new {z index n : Nat} (B : BX p m c cc nL s args (cd :: wsA) own meth ret D vwCl (tyL dA) b0 Z) (I : AI D vwCl b0 (cH dA b0 S hp0) sz s.heap H locs) (hz : 1 ≤ z ∧ z ≤ 8) (hcl : Cond.classLink own index (cC z) ∈ wsA) (hins : Cond.instantiable (cC z) n ∈ wsA) (hini : Cond.initialized (cC z) ∈ wsA) (hfs : ∀ (S : cS) (a : Nat) (j : Nat), j < cNn z → defaultValue (cTy z j) = vp_V (cFl z (nO S z a) a) j)
    (hcells : cells + 1 ≤ R.cells) (hslots : slots + n ≤ R.slots) (e1 : nOo b0 S z sz = some S1) (hdg : decode cc pc = .ok (.new index, 3))
    (kk : ∀ H1 : Heap, AI D vwCl b0 (cH dA b0 S1 hp0) (sz + 1) s.heap H1 locs → W p l e R s m args below meth c H1 locs (cells + 1) (slots + n) Q (F0 m (pc + 3) ls (.ref sz :: rest))) : W p l e R s m args below meth c H locs cells slots Q (F0 m pc ls rest) := by
  unfold nOo at e1
  by_cases ha : b0 ≤ sz ∧ ¬ (b0 + 5 ≤ sz ∧ sz < b0 + 26)
  · rw [if_pos ha] at e1
    cases e1
    obtain ⟨⟨hx, hb, -, hown, hts⟩, -, -, hK, -⟩ := B
    have hKn := hK.1 z _ (hcC hz)
    refine W.newcK hx hb hown (hts _ (List.mem_cons_of_mem _ hcl)) (hts _ (List.mem_cons_of_mem _ hins)) (hts _ (List.mem_cons_of_mem _ hini)) rfl hdg hcells hslots hKn.2.1 I.2.1 fun H1 kC hkC e1 z1 o1 => ?_
    refine kk H1 ((I.new (e := .inr (z, cFl z (nO S z sz) sz)) ⟨_, hcC hz, (u_born (cTy z) hts (fun w hw => List.mem_cons_of_mem _ (wsA_c hz w hw)) hKn hkC e1 (cTy_ok hz)).to (hfs S sz)⟩ z1 o1).of ?_)
    exact cH_up (cH_o hz (ck_new ha (by simp [nO, va_up]))) (fun b hb => cCell_cong (by simp [nO, va_up, hb]) rfl (by simp [nO, va_up, hb]) (by simp [nO, va_up, hb]))
  · rw [if_neg ha] at e1
    cases e1
theorem k_newa_c {n : Int32} (B : BX p m c cc nL s args (cd :: wsA) own meth ret D vwCl (tyL dA) b0 Z) (I : AI D vwCl b0 (cH dA b0 S hp0) sz s.heap H locs) (harr : Cond.arrayClass .char ∈ wsA) (hcells : cells + 1 ≤ R.cells) (hslots : slots + n.toNatClampNeg ≤ R.slots) (e1 : nAo b0 S 11 sz n = some S1) (hdg : decode cc pc = .ok (.newarray .char, 2))
    (kk : ∀ H1 : Heap, AI D vwCl b0 (cH dA b0 S1 hp0) (sz + 1) s.heap H1 locs → W p l e R s m args below meth c H1 locs (cells + 1) (slots + n.toNatClampNeg) Q (F0 m (pc + 2) ls (.ref sz :: rest))) : W p l e R s m args below meth c H locs cells slots Q (F0 m pc ls (.int n :: rest)) := by
  unfold nAo at e1
  by_cases ha : (b0 ≤ sz ∧ ¬ (b0 + 5 ≤ sz ∧ sz < b0 + 26)) ∧ 0 ≤ n.toInt ∧ n.toInt < 100000
  · rw [if_pos ha] at e1
    cases e1
    obtain ⟨⟨hx, hb, -, hown, hts⟩, -, -, hK, -⟩ := B
    have hn0 : ¬ n < 0 := by
      intro q
      have := Int32.lt_iff_toInt_lt.mp q
      simp at this
      omega
    have hcl : n.toNatClampNeg < 100000 := by
      show n.toInt.toNat < 100000
      omega
    refine va_newaK (atype := .char) hx hb (hts _ (List.mem_cons_of_mem _ harr)) rfl hdg rfl hn0 rfl (by show _ * 2 ≤ _; omega) hcells hslots I.2.1 fun H1 cA e1 z1 o1 hAr hNm => ?_
    have hcA : cA = dA 1 := Option.some.inj (hNm.symm.trans (hK.2 1 (dA 1, .char) rfl).2)
    subst hcA
    refine kk H1 ((I.new (e := .inl (dA 1, n.toNatClampNeg, .inl (fun _ => 0))) e1 z1 o1).of ?_)
    refine cH_up ?_ (fun b hb => cCell_cong (by simp [nA, va_up, hb]) (by simp [nA, va_up, hb]) (by simp [nA, va_up, hb]) (by simp [nA, va_up, hb]))
    rw [cH_c (ck_new ha.1 (by simp [nA, va_up]))]
    simp [nA, va_up]
  · rw [if_neg ha] at e1
    cases e1
theorem k_newa_b {n : Int32} (B : BX p m c cc nL s args (cd :: wsA) own meth ret D vwCl (tyL dA) b0 Z) (I : AI D vwCl b0 (cH dA b0 S hp0) sz s.heap H locs) (harr : Cond.arrayClass .byte ∈ wsA) (hcells : cells + 1 ≤ R.cells) (hslots : slots + n.toNatClampNeg ≤ R.slots) (e1 : nAo b0 S 12 sz n = some S1) (hdg : decode cc pc = .ok (.newarray .byte, 2))
    (kk : ∀ H1 : Heap, AI D vwCl b0 (cH dA b0 S1 hp0) (sz + 1) s.heap H1 locs → W p l e R s m args below meth c H1 locs (cells + 1) (slots + n.toNatClampNeg) Q (F0 m (pc + 2) ls (.ref sz :: rest))) : W p l e R s m args below meth c H locs cells slots Q (F0 m pc ls (.int n :: rest)) := by
  unfold nAo at e1
  by_cases ha : (b0 ≤ sz ∧ ¬ (b0 + 5 ≤ sz ∧ sz < b0 + 26)) ∧ 0 ≤ n.toInt ∧ n.toInt < 100000
  · rw [if_pos ha] at e1
    cases e1
    obtain ⟨⟨hx, hb, -, hown, hts⟩, -, -, hK, -⟩ := B
    have hn0 : ¬ n < 0 := by
      intro q
      have := Int32.lt_iff_toInt_lt.mp q
      simp at this
      omega
    have hcl : n.toNatClampNeg < 100000 := by
      show n.toInt.toNat < 100000
      omega
    refine va_newaK (atype := .byte) hx hb (hts _ (List.mem_cons_of_mem _ harr)) rfl hdg rfl hn0 rfl (by show _ * 1 ≤ _; omega) hcells hslots I.2.1 fun H1 cA e1 z1 o1 hAr hNm => ?_
    have hcA : cA = dA 2 := Option.some.inj (hNm.symm.trans (hK.2 2 (dA 2, .byte) rfl).2)
    subst hcA
    refine kk H1 ((I.new (e := .inl (dA 2, n.toNatClampNeg, .inl (fun _ => 0))) e1 z1 o1).of ?_)
    refine cH_up ?_ (fun b hb => cCell_cong (by simp [nA, va_up, hb]) (by simp [nA, va_up, hb]) (by simp [nA, va_up, hb]) (by simp [nA, va_up, hb]))
    rw [cH_b (ck_new ha.1 (by simp [nA, va_up]))]
    simp [nA, va_up]
  · rw [if_neg ha] at e1
    cases e1
end KZ
