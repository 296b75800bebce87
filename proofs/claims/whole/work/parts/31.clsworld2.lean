/-! The class's world, on: stores, arrays, new cells. -/
section KY
variable {p : Program} {l : Launch} {e : Env} {R : Room} {s : State} {m : MethodId} {args : Array Value} {below : List Frame} {meth : Method} {c : Code} {H : Heap} {locs : List Loc} {cells slots : Nat} {Q : State → Prop}
variable {cc : ByteArray} {pc : Nat} {ls : Array Slot} {rest : List Value} {D : va_G} {dA : Nat → ClassId} {hp0 hp : aH} {sz b0 nL : Nat} {cd : Cond} {ret : Option FieldType} {K S S1 : cS} {Z : State → Prop} {own ref host : String} {cl : List vw_C} {tys : List (ClassId × FieldType)} {Ts : List Cond} {H0 : Heap}
theorem q_getN {C : String} {T : u_T} {N ci index a : Nat} (B : BX p m c cc nL s args Ts own meth ret D cl tys b0 Z) (I : AI D cl b0 hp sz H0 H locs) (hin : ∀ w ∈ u_ws C T N, w ∈ Ts) {fs : List Value} (he : hp a = some (.inr (ci, fs))) (hc : cl[ci]? = some (C, T, N)) (k : Nat) (hk : k < N)
    (hlink : va_Nw (Cond.fieldLinkNest own index ref (T k).2.1 (T k).2.2.1 host) s) (hsame : (T k).1 = ref) {v : Value} (hv : fs[k]? = some v) (hdg : decode cc pc = .ok (.getfield index, 3))
    (kk : W p l e R s m args below meth c H locs cells slots Q (F0 m (pc + 3) ls (v :: rest))) : W p l e R s m args below meth c H locs cells slots Q (F0 m pc ls (.ref a :: rest)) :=
  va_getN (D := D) (ws := [(a, .inr (ci, fs))]) B.1.1 B.1.2.1 B.1.2.2.2.2 hin B.1.2.2.2.1 B.2.2.2.1 (fun k q hq => by
    have hz : k < 1 := (List.getElem?_eq_some_iff.mp hq).1
    rw [show k = 0 by omega] at hq
    cases hq
    exact I.1 a _ he) 0 rfl hc k hk (va_Nw.use rfl hlink) (fun x h => by rw [← hsame]; exact h) hv hdg kk
theorem q_putN {C : String} {T : u_T} {N ci index a : Nat} (B : BX p m c cc nL s args Ts own meth ret D cl tys b0 Z) (I : AI D cl b0 hp sz H0 H locs) (hin : ∀ w ∈ u_ws C T N, w ∈ Ts) (ty0 : Nat → FieldType) (hty : ∀ k, k < N → parseFieldDescriptor (T k).2.2.1 = some (ty0 k)) (hnm : ∀ a, a < N → ∀ b, b < N → a ≠ b → (T a).2.1 ≠ (T b).2.1)
    {fs : List Value} (he : hp a = some (.inr (ci, fs))) (hba : b0 ≤ a) (hc : cl[ci]? = some (C, T, N)) (k : Nat) (hk : k < N)
    (hlink : va_Nw (Cond.fieldLinkNest own index ref (T k).2.1 (T k).2.2.1 host) s) (hsame : (T k).1 = ref) (hfin : (T k).2.2.2 = false) {v : Value} (hn : narrow (ty0 k) v = v) (hfit : fits (ty0 k) v = true) (hl : k < fs.length) (hdg : decode cc pc = .ok (.putfield index, 3))
    (kk : ∀ (H1 : Heap) (locs1 : List Loc), AI D cl b0 (va_up hp a (some (.inr (ci, fs.set k v)))) sz H0 H1 locs1 → W p l e R s m args below meth c H1 locs1 cells slots Q (F0 m (pc + 3) ls rest)) : W p l e R s m args below meth c H locs cells slots Q (F0 m pc ls (v :: .ref a :: rest)) := by
  obtain ⟨⟨hx, hb, -, hown, hts⟩, -, -, hK, -⟩ := B
  have hap := va_apart (own := own) hts hin ty0 hty hnm hK hc
  obtain ⟨r, h1, cell, q1, q2, q3, q4⟩ := I.1 a _ he
  have hr : r = (C, T, N) := Option.some.inj (h1.symm.trans hc)
  subst hr
  obtain ⟨hS, hfc, kC, hkC, hkind⟩ := hK.1 ci _ hc
  obtain ⟨cf, kf, fi, f, hi, hsl⟩ := hS k hk
  have hlay := hts _ (hin _ (u_in_lay hk))
  unfold u_lay at hlay
  rw [if_neg (by rw [hfin]; decide)] at hlay
  have hst := (u_facts hfc hkC (u_lays hts hin hk) hi).1
  have h6 := u_store hfc hkC hkind hlay hi (hty k hk) hn hfit
  refine va_WputK hx hb (f := f) hown (va_Nw.use rfl hlink) (by rw [← hsame]; exact hi) hst (by rw [q2]; exact h6) q1 q3 (by rw [hsl]; exact k2_hasslot (q4 k hk)) rfl rfl hdg fun H' e1 e2 e3 => ?_
  rw [hsl] at e1 ⊢
  exact kk H' _ ⟨I.1.up ⟨_, hc, t_OB.to (V := updV (vp_V fs) k v) ⟨_, e1, q2, q3, t_set q4 hap hk v⟩ (fun j _ => vp_updV_set hl v j)⟩ e3, by rw [e2]; exact I.2.1, I.2.2.1, I.2.2.2.put e2 e3 hba⟩
theorem q_putF {C : String} {T : u_T} {N ci index a : Nat} (B : BX p m c cc nL s args Ts own meth ret D cl tys b0 Z) (I : AI D cl b0 hp sz H0 H locs) (hin : ∀ w ∈ u_ws C T N, w ∈ Ts) (ty0 : Nat → FieldType) (hty : ∀ k, k < N → parseFieldDescriptor (T k).2.2.1 = some (ty0 k)) (hnm : ∀ a, a < N → ∀ b, b < N → a ≠ b → (T a).2.1 ≠ (T b).2.1)
    {fs : List Value} (he : hp a = some (.inr (ci, fs))) (hba : b0 ≤ a) (hc : cl[ci]? = some (C, T, N)) (k : Nat) (hk : k < N)
    (hlink : (Cond.fieldLink own index ref (T k).2.1 (T k).2.2.1) ∈ Ts) (hsame : (T k).1 = ref) (hfin : (T k).2.2.2 = true) (hin2 : meth.name = "<init>") (hdecl : (T k).1 = own) {v : Value} (hn : narrow (ty0 k) v = v) (hfit : fits (ty0 k) v = true) (hl : k < fs.length) (hdg : decode cc pc = .ok (.putfield index, 3))
    (kk : ∀ (H1 : Heap) (locs1 : List Loc), AI D cl b0 (va_up hp a (some (.inr (ci, fs.set k v)))) sz H0 H1 locs1 → W p l e R s m args below meth c H1 locs1 cells slots Q (F0 m (pc + 3) ls rest)) : W p l e R s m args below meth c H locs cells slots Q (F0 m pc ls (v :: .ref a :: rest)) := by
  obtain ⟨⟨hx, hb, -, hown, hts⟩, -, -, hK, -⟩ := B
  have hap := va_apart (own := own) hts hin ty0 hty hnm hK hc
  obtain ⟨r, h1, cell, q1, q2, q3, q4⟩ := I.1 a _ he
  have hr : r = (C, T, N) := Option.some.inj (h1.symm.trans hc)
  subst hr
  obtain ⟨hS, hfc, kC, hkC, hkind⟩ := hK.1 ci _ hc
  obtain ⟨cf, kf, fi, f, hi, hsl⟩ := hS k hk
  have hlay := hts _ (hin _ (u_in_lay hk))
  unfold u_lay at hlay
  rw [if_pos hfin] at hlay
  have hst := (u_facts hfc hkC (u_lays hts hin hk) hi).1
  have hcf : m.cls = cf := by
    obtain ⟨_, _, c', _, _, _, -, -, hf', -, -, -, hown2, -⟩ := Cond.laysFinal_spec hlay
    have e1 : c' = cf := by have := hi.symm.trans hf'; simp at this; exact this.1.symm
    rw [hdecl] at hown2
    rw [← e1]; exact Option.some.inj (hown.symm.trans hown2)
  have h6 := u_fits hfc hkC hkind (Or.inr hlay) hi (hty k hk) hn hfit
  refine W.putFinK hx hb hown (hts _ hlink) (by rw [← hsame]; exact hi) hst hcf hin2 (by rw [q2]; exact h6) q1 q3 (by rw [hsl]; exact k2_hasslot (q4 k hk)) rfl rfl hdg fun H' e1 e2 e3 => ?_
  rw [hsl] at e1 ⊢
  exact kk H' _ ⟨I.1.up ⟨_, hc, t_OB.to (V := updV (vp_V fs) k v) ⟨_, e1, q2, q3, t_set q4 hap hk v⟩ (fun j _ => vp_updV_set hl v j)⟩ e3, by rw [e2]; exact I.2.1, I.2.2.1, I.2.2.2.put e2 e3 hba⟩
theorem nar_rf {ty : FieldType} (h : (∃ n, ty = .object n) ∨ ∃ t, ty = .array t) (r : Option Nat) : narrow ty (va_rf r) = va_rf r ∧ fits ty (va_rf r) = true := by
  rcases h with ⟨n, rfl⟩ | ⟨t, rfl⟩ <;> cases r <;> exact ⟨rfl, rfl⟩
theorem k_getIN {z k index a : Nat} {x : Int32} (B : BX p m c cc nL s args (cd :: wsA) own meth ret D vwCl (tyL dA) b0 Z) (hR : CR b0 K Z) (I : AI D vwCl b0 (cH dA b0 S hp0) sz s.heap H locs) (hz : 1 ≤ z ∧ z ≤ 5) (hk : k < cNn z) (hlink : Cond.fieldLinkNest own index ref (cT z k).2.1 (cT z k).2.2.1 host ∈ nwA) (hsame : (cT z k).1 = ref) (hv : ∀ (S : cS) (a : Nat), (cFl z S a)[k]? = some (.int (S.2.2.1 a k))) (e1 : gI b0 K S z k a = some x) (hdg : decode cc pc = .ok (.getfield index, 3))
    (kk : W p l e R s m args below meth c H locs cells slots Q (F0 m (pc + 3) ls (.int x :: rest))) : W p l e R s m args below meth c H locs cells slots Q (F0 m pc ls (.ref a :: rest)) := by
  have X := hR.2 s B.2.2.2.2.1
  unfold gI at e1
  by_cases h : kd b0 K S a = z
  · rw [if_pos h] at e1
    cases e1
    have ha : ¬ a < b0 := fun ha => by
      unfold kd at h; rw [if_pos ha] at h
      rcases X.2.2.2.2.2.1 a ha with q | q | q | q <;> omega
    unfold kd at h; rw [if_neg ha] at h
    unfold eK at kk; rw [if_neg ha] at kk
    exact q_getN B I (fun w hw => List.mem_cons_of_mem _ (wsA_c ⟨hz.1, by omega⟩ w hw)) (cH_o ⟨hz.1, by omega⟩ h) (hcC ⟨hz.1, by omega⟩) k hk (X.1 _ hlink) hsame (hv S a) hdg kk
  · rw [if_neg h] at e1
    cases e1
theorem k_getRN {z k index a : Nat} {x : Option Nat} (B : BX p m c cc nL s args (cd :: wsA) own meth ret D vwCl (tyL dA) b0 Z) (hR : CR b0 K Z) (I : AI D vwCl b0 (cH dA b0 S hp0) sz s.heap H locs) (hz : 1 ≤ z ∧ z ≤ 5) (hk : k < cNn z) (hlink : Cond.fieldLinkNest own index ref (cT z k).2.1 (cT z k).2.2.1 host ∈ nwA) (hsame : (cT z k).1 = ref) (hv : ∀ (S : cS) (a : Nat), (cFl z S a)[k]? = some (va_rf (S.2.2.2 a k))) (e1 : gR b0 K S z k a = some x) (hdg : decode cc pc = .ok (.getfield index, 3))
    (kk : W p l e R s m args below meth c H locs cells slots Q (F0 m (pc + 3) ls (va_rf x :: rest))) : W p l e R s m args below meth c H locs cells slots Q (F0 m pc ls (.ref a :: rest)) := by
  have X := hR.2 s B.2.2.2.2.1
  unfold gR at e1
  by_cases h : kd b0 K S a = z
  · rw [if_pos h] at e1
    cases e1
    have ha : ¬ a < b0 := fun ha => by
      unfold kd at h; rw [if_pos ha] at h
      rcases X.2.2.2.2.2.1 a ha with q | q | q | q <;> omega
    unfold kd at h; rw [if_neg ha] at h
    unfold eK at kk; rw [if_neg ha] at kk
    exact q_getN B I (fun w hw => List.mem_cons_of_mem _ (wsA_c ⟨hz.1, by omega⟩ w hw)) (cH_o ⟨hz.1, by omega⟩ h) (hcC ⟨hz.1, by omega⟩) k hk (X.1 _ hlink) hsame (hv S a) hdg kk
  · rw [if_neg h] at e1
    cases e1
theorem cH_pI {z k a : Nat} {v : Int32} (hz : 1 ≤ z ∧ z ≤ 8) (h : ck b0 S a = z) (hset : ∀ (S : cS) (a : Nat) (v : Int32), (cFl z S a).set k (.int v) = cFl z (S.1, S.2.1, up2 S.2.2.1 a k v, S.2.2.2) a) : va_up (cH dA b0 S hp0) a (some (.inr (z, (cFl z S a).set k (.int v)))) = cH dA b0 (S.1, S.2.1, up2 S.2.2.1 a k v, S.2.2.2) hp0 := by
  rw [hset]
  exact cH_up (cH_o hz (by exact h)) (fun b hb => cCell_cong rfl rfl (up2_ne hb) rfl)
theorem cH_pR {z k a : Nat} {v : Option Nat} (hz : 1 ≤ z ∧ z ≤ 8) (h : ck b0 S a = z) (hset : ∀ (S : cS) (a : Nat) (v : Option Nat), (cFl z S a).set k (va_rf v) = cFl z (S.1, S.2.1, S.2.2.1, up2 S.2.2.2 a k v) a) : va_up (cH dA b0 S hp0) a (some (.inr (z, (cFl z S a).set k (va_rf v)))) = cH dA b0 (S.1, S.2.1, S.2.2.1, up2 S.2.2.2 a k v) hp0 := by
  rw [hset]
  exact cH_up (cH_o hz (by exact h)) (fun b hb => cCell_cong rfl rfl rfl (up2_ne hb))
theorem k_putI {z k index a : Nat} {v : Int32} (B : BX p m c cc nL s args (cd :: wsA) own meth ret D vwCl (tyL dA) b0 Z) (I : AI D vwCl b0 (cH dA b0 S hp0) sz s.heap H locs) (hz : 1 ≤ z ∧ z ≤ 8) (hk : k < cNn z) (hlink : Cond.fieldLink own index ref (cT z k).2.1 (cT z k).2.2.1 ∈ wsA) (hsame : (cT z k).1 = ref) (hfin : (cT z k).2.2.2 = false) (hn : narrow (cTy z k) (.int v) = .int v) (hfit : fits (cTy z k) (.int v) = true) (hset : ∀ (S : cS) (a : Nat) (v : Int32), (cFl z S a).set k (.int v) = cFl z (S.1, S.2.1, up2 S.2.2.1 a k v, S.2.2.2) a) (e1 : pI b0 S z k a v = some S1) (hdg : decode cc pc = .ok (.putfield index, 3))
    (kk : ∀ (H1 : Heap) (locs1 : List Loc), AI D vwCl b0 (cH dA b0 S1 hp0) sz s.heap H1 locs1 → W p l e R s m args below meth c H1 locs1 cells slots Q (F0 m (pc + 3) ls rest)) : W p l e R s m args below meth c H locs cells slots Q (F0 m pc ls (.int v :: .ref a :: rest)) := by
  unfold pI at e1
  by_cases h : ck b0 S a = z
  · rw [if_pos h] at e1
    cases e1
    refine q_put B I (fun w hw => List.mem_cons_of_mem _ (wsA_c hz w hw)) (cTy z) (cTy_ok hz) (cNm hz) (cH_o hz h) (ck_b hz.1 h) (hcC hz) k hk (List.mem_cons_of_mem _ hlink) hsame hfin rfl hn hfit (by rw [cFl_len hz]; exact hk) hdg fun H1 locs1 J => ?_
    rw [cH_pI hz h hset] at J
    exact kk H1 locs1 J
  · rw [if_neg h] at e1
    cases e1
theorem k_putR {z k index a : Nat} {v : Option Nat} (B : BX p m c cc nL s args (cd :: wsA) own meth ret D vwCl (tyL dA) b0 Z) (I : AI D vwCl b0 (cH dA b0 S hp0) sz s.heap H locs) (hz : 1 ≤ z ∧ z ≤ 8) (hk : k < cNn z) (hlink : Cond.fieldLink own index ref (cT z k).2.1 (cT z k).2.2.1 ∈ wsA) (hsame : (cT z k).1 = ref) (hfin : (cT z k).2.2.2 = false) (hty : (∃ n, cTy z k = .object n) ∨ ∃ t, cTy z k = .array t) (hset : ∀ (S : cS) (a : Nat) (v : Option Nat), (cFl z S a).set k (va_rf v) = cFl z (S.1, S.2.1, S.2.2.1, up2 S.2.2.2 a k v) a) (e1 : pR b0 S z k a v = some S1) (hdg : decode cc pc = .ok (.putfield index, 3))
    (kk : ∀ (H1 : Heap) (locs1 : List Loc), AI D vwCl b0 (cH dA b0 S1 hp0) sz s.heap H1 locs1 → W p l e R s m args below meth c H1 locs1 cells slots Q (F0 m (pc + 3) ls rest)) : W p l e R s m args below meth c H locs cells slots Q (F0 m pc ls (va_rf v :: .ref a :: rest)) := by
  unfold pR at e1
  by_cases h : ck b0 S a = z
  · rw [if_pos h] at e1
    cases e1
    refine q_put B I (fun w hw => List.mem_cons_of_mem _ (wsA_c hz w hw)) (cTy z) (cTy_ok hz) (cNm hz) (cH_o hz h) (ck_b hz.1 h) (hcC hz) k hk (List.mem_cons_of_mem _ hlink) hsame hfin rfl (nar_rf hty v).1 (nar_rf hty v).2 (by rw [cFl_len hz]; exact hk) hdg fun H1 locs1 J => ?_
    rw [cH_pR hz h hset] at J
    exact kk H1 locs1 J
  · rw [if_neg h] at e1
    cases e1
theorem k_putIN {z k index a : Nat} {v : Int32} (B : BX p m c cc nL s args (cd :: wsA) own meth ret D vwCl (tyL dA) b0 Z) (hR : CR b0 K Z) (I : AI D vwCl b0 (cH dA b0 S hp0) sz s.heap H locs) (hz : 1 ≤ z ∧ z ≤ 8) (hk : k < cNn z) (hlink : Cond.fieldLinkNest own index ref (cT z k).2.1 (cT z k).2.2.1 host ∈ nwA) (hsame : (cT z k).1 = ref) (hfin : (cT z k).2.2.2 = false) (hn : narrow (cTy z k) (.int v) = .int v) (hfit : fits (cTy z k) (.int v) = true) (hset : ∀ (S : cS) (a : Nat) (v : Int32), (cFl z S a).set k (.int v) = cFl z (S.1, S.2.1, up2 S.2.2.1 a k v, S.2.2.2) a) (e1 : pI b0 S z k a v = some S1) (hdg : decode cc pc = .ok (.putfield index, 3))
    (kk : ∀ (H1 : Heap) (locs1 : List Loc), AI D vwCl b0 (cH dA b0 S1 hp0) sz s.heap H1 locs1 → W p l e R s m args below meth c H1 locs1 cells slots Q (F0 m (pc + 3) ls rest)) : W p l e R s m args below meth c H locs cells slots Q (F0 m pc ls (.int v :: .ref a :: rest)) := by
  have X := hR.2 s B.2.2.2.2.1
  unfold pI at e1
  by_cases h : ck b0 S a = z
  · rw [if_pos h] at e1
    cases e1
    refine q_putN B I (fun w hw => List.mem_cons_of_mem _ (wsA_c hz w hw)) (cTy z) (cTy_ok hz) (cNm hz) (cH_o hz h) (ck_b hz.1 h) (hcC hz) k hk (X.1 _ hlink) hsame hfin hn hfit (by rw [cFl_len hz]; exact hk) hdg fun H1 locs1 J => ?_
    rw [cH_pI hz h hset] at J
    exact kk H1 locs1 J
  · rw [if_neg h] at e1
    cases e1
theorem k_putRN {z k index a : Nat} {v : Option Nat} (B : BX p m c cc nL s args (cd :: wsA) own meth ret D vwCl (tyL dA) b0 Z) (hR : CR b0 K Z) (I : AI D vwCl b0 (cH dA b0 S hp0) sz s.heap H locs) (hz : 1 ≤ z ∧ z ≤ 8) (hk : k < cNn z) (hlink : Cond.fieldLinkNest own index ref (cT z k).2.1 (cT z k).2.2.1 host ∈ nwA) (hsame : (cT z k).1 = ref) (hfin : (cT z k).2.2.2 = false) (hty : (∃ n, cTy z k = .object n) ∨ ∃ t, cTy z k = .array t) (hset : ∀ (S : cS) (a : Nat) (v : Option Nat), (cFl z S a).set k (va_rf v) = cFl z (S.1, S.2.1, S.2.2.1, up2 S.2.2.2 a k v) a) (e1 : pR b0 S z k a v = some S1) (hdg : decode cc pc = .ok (.putfield index, 3))
    (kk : ∀ (H1 : Heap) (locs1 : List Loc), AI D vwCl b0 (cH dA b0 S1 hp0) sz s.heap H1 locs1 → W p l e R s m args below meth c H1 locs1 cells slots Q (F0 m (pc + 3) ls rest)) : W p l e R s m args below meth c H locs cells slots Q (F0 m pc ls (va_rf v :: .ref a :: rest)) := by
  have X := hR.2 s B.2.2.2.2.1
  unfold pR at e1
  by_cases h : ck b0 S a = z
  · rw [if_pos h] at e1
    cases e1
    refine q_putN B I (fun w hw => List.mem_cons_of_mem _ (wsA_c hz w hw)) (cTy z) (cTy_ok hz) (cNm hz) (cH_o hz h) (ck_b hz.1 h) (hcC hz) k hk (X.1 _ hlink) hsame hfin (nar_rf hty v).1 (nar_rf hty v).2 (by rw [cFl_len hz]; exact hk) hdg fun H1 locs1 J => ?_
    rw [cH_pR hz h hset] at J
    exact kk H1 locs1 J
  · rw [if_neg h] at e1
    cases e1
theorem k_putIF {z k index a : Nat} {v : Int32} (B : BX p m c cc nL s args (cd :: wsA) own meth ret D vwCl (tyL dA) b0 Z) (I : AI D vwCl b0 (cH dA b0 S hp0) sz s.heap H locs) (hz : 1 ≤ z ∧ z ≤ 8) (hk : k < cNn z) (hlink : Cond.fieldLink own index ref (cT z k).2.1 (cT z k).2.2.1 ∈ wsA) (hsame : (cT z k).1 = ref) (hfin : (cT z k).2.2.2 = true) (hin2 : meth.name = "<init>") (hdecl : (cT z k).1 = own) (hn : narrow (cTy z k) (.int v) = .int v) (hfit : fits (cTy z k) (.int v) = true) (hset : ∀ (S : cS) (a : Nat) (v : Int32), (cFl z S a).set k (.int v) = cFl z (S.1, S.2.1, up2 S.2.2.1 a k v, S.2.2.2) a) (e1 : pI b0 S z k a v = some S1) (hdg : decode cc pc = .ok (.putfield index, 3))
    (kk : ∀ (H1 : Heap) (locs1 : List Loc), AI D vwCl b0 (cH dA b0 S1 hp0) sz s.heap H1 locs1 → W p l e R s m args below meth c H1 locs1 cells slots Q (F0 m (pc + 3) ls rest)) : W p l e R s m args below meth c H locs cells slots Q (F0 m pc ls (.int v :: .ref a :: rest)) := by
  unfold pI at e1
  by_cases h : ck b0 S a = z
  · rw [if_pos h] at e1
    cases e1
    refine q_putF B I (fun w hw => List.mem_cons_of_mem _ (wsA_c hz w hw)) (cTy z) (cTy_ok hz) (cNm hz) (cH_o hz h) (ck_b hz.1 h) (hcC hz) k hk (List.mem_cons_of_mem _ hlink) hsame hfin hin2 hdecl hn hfit (by rw [cFl_len hz]; exact hk) hdg fun H1 locs1 J => ?_
    rw [cH_pI hz h hset] at J
    exact kk H1 locs1 J
  · rw [if_neg h] at e1
    cases e1
theorem k_putRF {z k index a : Nat} {v : Option Nat} (B : BX p m c cc nL s args (cd :: wsA) own meth ret D vwCl (tyL dA) b0 Z) (I : AI D vwCl b0 (cH dA b0 S hp0) sz s.heap H locs) (hz : 1 ≤ z ∧ z ≤ 8) (hk : k < cNn z) (hlink : Cond.fieldLink own index ref (cT z k).2.1 (cT z k).2.2.1 ∈ wsA) (hsame : (cT z k).1 = ref) (hfin : (cT z k).2.2.2 = true) (hin2 : meth.name = "<init>") (hdecl : (cT z k).1 = own) (hty : (∃ n, cTy z k = .object n) ∨ ∃ t, cTy z k = .array t) (hset : ∀ (S : cS) (a : Nat) (v : Option Nat), (cFl z S a).set k (va_rf v) = cFl z (S.1, S.2.1, S.2.2.1, up2 S.2.2.2 a k v) a) (e1 : pR b0 S z k a v = some S1) (hdg : decode cc pc = .ok (.putfield index, 3))
    (kk : ∀ (H1 : Heap) (locs1 : List Loc), AI D vwCl b0 (cH dA b0 S1 hp0) sz s.heap H1 locs1 → W p l e R s m args below meth c H1 locs1 cells slots Q (F0 m (pc + 3) ls rest)) : W p l e R s m args below meth c H locs cells slots Q (F0 m pc ls (va_rf v :: .ref a :: rest)) := by
  unfold pR at e1
  by_cases h : ck b0 S a = z
  · rw [if_pos h] at e1
    cases e1
    refine q_putF B I (fun w hw => List.mem_cons_of_mem _ (wsA_c hz w hw)) (cTy z) (cTy_ok hz) (cNm hz) (cH_o hz h) (ck_b hz.1 h) (hcC hz) k hk (List.mem_cons_of_mem _ hlink) hsame hfin hin2 hdecl (nar_rf hty v).1 (nar_rf hty v).2 (by rw [cFl_len hz]; exact hk) hdg fun H1 locs1 J => ?_
    rw [cH_pR hz h hset] at J
    exact kk H1 locs1 J
  · rw [if_neg h] at e1
    cases e1
end KY
theorem cset_1_0 : ∀ (S : cS) (a : Nat) (v : Option Nat), (cFl 1 S a).set 0 (va_rf v) = cFl 1 (S.1, S.2.1, S.2.2.1, up2 S.2.2.2 a 0 v) a := fun S a v => by simp [cFl, up2]
theorem cset_1_1 : ∀ (S : cS) (a : Nat) (v : Option Nat), (cFl 1 S a).set 1 (va_rf v) = cFl 1 (S.1, S.2.1, S.2.2.1, up2 S.2.2.2 a 1 v) a := fun S a v => by simp [cFl, up2]
theorem cset_1_2 : ∀ (S : cS) (a : Nat) (v : Int32), (cFl 1 S a).set 2 (.int v) = cFl 1 (S.1, S.2.1, up2 S.2.2.1 a 2 v, S.2.2.2) a := fun S a v => by simp [cFl, up2]
theorem cset_1_3 : ∀ (S : cS) (a : Nat) (v : Option Nat), (cFl 1 S a).set 3 (va_rf v) = cFl 1 (S.1, S.2.1, S.2.2.1, up2 S.2.2.2 a 3 v) a := fun S a v => by simp [cFl, up2]
theorem cset_1_4 : ∀ (S : cS) (a : Nat) (v : Option Nat), (cFl 1 S a).set 4 (va_rf v) = cFl 1 (S.1, S.2.1, S.2.2.1, up2 S.2.2.2 a 4 v) a := fun S a v => by simp [cFl, up2]
theorem cset_2_0 : ∀ (S : cS) (a : Nat) (v : Int32), (cFl 2 S a).set 0 (.int v) = cFl 2 (S.1, S.2.1, up2 S.2.2.1 a 0 v, S.2.2.2) a := fun S a v => by simp [cFl, up2]
theorem cset_2_1 : ∀ (S : cS) (a : Nat) (v : Int32), (cFl 2 S a).set 1 (.int v) = cFl 2 (S.1, S.2.1, up2 S.2.2.1 a 1 v, S.2.2.2) a := fun S a v => by simp [cFl, up2]
theorem cset_2_2 : ∀ (S : cS) (a : Nat) (v : Option Nat), (cFl 2 S a).set 2 (va_rf v) = cFl 2 (S.1, S.2.1, S.2.2.1, up2 S.2.2.2 a 2 v) a := fun S a v => by simp [cFl, up2]
theorem cset_2_3 : ∀ (S : cS) (a : Nat) (v : Option Nat), (cFl 2 S a).set 3 (va_rf v) = cFl 2 (S.1, S.2.1, S.2.2.1, up2 S.2.2.2 a 3 v) a := fun S a v => by simp [cFl, up2]
theorem cset_2_4 : ∀ (S : cS) (a : Nat) (v : Option Nat), (cFl 2 S a).set 4 (va_rf v) = cFl 2 (S.1, S.2.1, S.2.2.1, up2 S.2.2.2 a 4 v) a := fun S a v => by simp [cFl, up2]
theorem cset_2_5 : ∀ (S : cS) (a : Nat) (v : Option Nat), (cFl 2 S a).set 5 (va_rf v) = cFl 2 (S.1, S.2.1, S.2.2.1, up2 S.2.2.2 a 5 v) a := fun S a v => by simp [cFl, up2]
theorem cset_2_6 : ∀ (S : cS) (a : Nat) (v : Option Nat), (cFl 2 S a).set 6 (va_rf v) = cFl 2 (S.1, S.2.1, S.2.2.1, up2 S.2.2.2 a 6 v) a := fun S a v => by simp [cFl, up2]
theorem cset_2_7 : ∀ (S : cS) (a : Nat) (v : Option Nat), (cFl 2 S a).set 7 (va_rf v) = cFl 2 (S.1, S.2.1, S.2.2.1, up2 S.2.2.2 a 7 v) a := fun S a v => by simp [cFl, up2]
theorem cset_3_0 : ∀ (S : cS) (a : Nat) (v : Option Nat), (cFl 3 S a).set 0 (va_rf v) = cFl 3 (S.1, S.2.1, S.2.2.1, up2 S.2.2.2 a 0 v) a := fun S a v => by simp [cFl, up2]
theorem cset_3_1 : ∀ (S : cS) (a : Nat) (v : Int32), (cFl 3 S a).set 1 (.int v) = cFl 3 (S.1, S.2.1, up2 S.2.2.1 a 1 v, S.2.2.2) a := fun S a v => by simp [cFl, up2]
theorem cset_3_2 : ∀ (S : cS) (a : Nat) (v : Option Nat), (cFl 3 S a).set 2 (va_rf v) = cFl 3 (S.1, S.2.1, S.2.2.1, up2 S.2.2.2 a 2 v) a := fun S a v => by simp [cFl, up2]
theorem cset_4_0 : ∀ (S : cS) (a : Nat) (v : Option Nat), (cFl 4 S a).set 0 (va_rf v) = cFl 4 (S.1, S.2.1, S.2.2.1, up2 S.2.2.2 a 0 v) a := fun S a v => by simp [cFl, up2]
theorem cset_4_1 : ∀ (S : cS) (a : Nat) (v : Int32), (cFl 4 S a).set 1 (.int v) = cFl 4 (S.1, S.2.1, up2 S.2.2.1 a 1 v, S.2.2.2) a := fun S a v => by simp [cFl, up2]
theorem cset_4_2 : ∀ (S : cS) (a : Nat) (v : Option Nat), (cFl 4 S a).set 2 (va_rf v) = cFl 4 (S.1, S.2.1, S.2.2.1, up2 S.2.2.2 a 2 v) a := fun S a v => by simp [cFl, up2]
theorem cset_4_3 : ∀ (S : cS) (a : Nat) (v : Option Nat), (cFl 4 S a).set 3 (va_rf v) = cFl 4 (S.1, S.2.1, S.2.2.1, up2 S.2.2.2 a 3 v) a := fun S a v => by simp [cFl, up2]
theorem cset_4_4 : ∀ (S : cS) (a : Nat) (v : Option Nat), (cFl 4 S a).set 4 (va_rf v) = cFl 4 (S.1, S.2.1, S.2.2.1, up2 S.2.2.2 a 4 v) a := fun S a v => by simp [cFl, up2]
theorem cset_4_5 : ∀ (S : cS) (a : Nat) (v : Option Nat), (cFl 4 S a).set 5 (va_rf v) = cFl 4 (S.1, S.2.1, S.2.2.1, up2 S.2.2.2 a 5 v) a := fun S a v => by simp [cFl, up2]
theorem cset_4_6 : ∀ (S : cS) (a : Nat) (v : Int32), (cFl 4 S a).set 6 (.int v) = cFl 4 (S.1, S.2.1, up2 S.2.2.1 a 6 v, S.2.2.2) a := fun S a v => by simp [cFl, up2]
theorem cset_4_7 : ∀ (S : cS) (a : Nat) (v : Int32), (cFl 4 S a).set 7 (.int v) = cFl 4 (S.1, S.2.1, up2 S.2.2.1 a 7 v, S.2.2.2) a := fun S a v => by simp [cFl, up2]
theorem cset_5_0 : ∀ (S : cS) (a : Nat) (v : Option Nat), (cFl 5 S a).set 0 (va_rf v) = cFl 5 (S.1, S.2.1, S.2.2.1, up2 S.2.2.2 a 0 v) a := fun S a v => by simp [cFl, up2]
theorem cset_5_1 : ∀ (S : cS) (a : Nat) (v : Int32), (cFl 5 S a).set 1 (.int v) = cFl 5 (S.1, S.2.1, up2 S.2.2.1 a 1 v, S.2.2.2) a := fun S a v => by simp [cFl, up2]
theorem cset_6_0 : ∀ (S : cS) (a : Nat) (v : Option Nat), (cFl 6 S a).set 0 (va_rf v) = cFl 6 (S.1, S.2.1, S.2.2.1, up2 S.2.2.2 a 0 v) a := fun S a v => by simp [cFl, up2]
theorem cset_6_1 : ∀ (S : cS) (a : Nat) (v : Int32), (cFl 6 S a).set 1 (.int v) = cFl 6 (S.1, S.2.1, up2 S.2.2.1 a 1 v, S.2.2.2) a := fun S a v => by simp [cFl, up2]
theorem cset_7_0 : ∀ (S : cS) (a : Nat) (v : Option Nat), (cFl 7 S a).set 0 (va_rf v) = cFl 7 (S.1, S.2.1, S.2.2.1, up2 S.2.2.2 a 0 v) a := fun S a v => by simp [cFl, up2]
theorem cset_7_1 : ∀ (S : cS) (a : Nat) (v : Int32), (cFl 7 S a).set 1 (.int v) = cFl 7 (S.1, S.2.1, up2 S.2.2.1 a 1 v, S.2.2.2) a := fun S a v => by simp [cFl, up2]
theorem cset_7_2 : ∀ (S : cS) (a : Nat) (v : Int32), (cFl 7 S a).set 2 (.int v) = cFl 7 (S.1, S.2.1, up2 S.2.2.1 a 2 v, S.2.2.2) a := fun S a v => by simp [cFl, up2]
theorem cset_7_3 : ∀ (S : cS) (a : Nat) (v : Int32), (cFl 7 S a).set 3 (.int v) = cFl 7 (S.1, S.2.1, up2 S.2.2.1 a 3 v, S.2.2.2) a := fun S a v => by simp [cFl, up2]
theorem cset_8_0 : ∀ (S : cS) (a : Nat) (v : Int32), (cFl 8 S a).set 0 (.int v) = cFl 8 (S.1, S.2.1, up2 S.2.2.1 a 0 v, S.2.2.2) a := fun S a v => by simp [cFl, up2]
theorem cset_8_1 : ∀ (S : cS) (a : Nat) (v : Option Nat), (cFl 8 S a).set 1 (va_rf v) = cFl 8 (S.1, S.2.1, S.2.2.1, up2 S.2.2.2 a 1 v) a := fun S a v => by simp [cFl, up2]
theorem cset_8_2 : ∀ (S : cS) (a : Nat) (v : Int32), (cFl 8 S a).set 2 (.int v) = cFl 8 (S.1, S.2.1, up2 S.2.2.1 a 2 v, S.2.2.2) a := fun S a v => by simp [cFl, up2]
