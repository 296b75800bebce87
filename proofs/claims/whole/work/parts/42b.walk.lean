section CW
variable {p : Program} {l : Launch} {e : Env} {s : State} {m : MethodId} {args : Array Value} {below : List Frame} {meth : Method} {c : Code} {H : Heap} {locs : List Loc}
variable {ls : Array Slot} {D : va_G} {dA : Nat → ClassId} {hp0 : aH} {sz sz0 b0 N : Nat} {cells slots dc ds mc ms : Nat} {S' K : cS} {r : Int32} {q : Option Nat} {Z : State → Prop}
def x_N_entryNamed_29 (N b0 : Nat) (K : cS) (K5 : Option Nat → Option Nat → cS → Option (Option Nat)) (y1 : Option Nat) (y2 : Nat) (S : cS) : Option (Option Nat) :=
  b1 (gR b0 K S 2 7 y2) (fun q1 => K5 y1 q1 S)
set_option maxRecDepth 100000 in
set_option maxHeartbeats 4000000 in
theorem w_N_entryNamed_29 {K5 : Option Nat → Option Nat → cS → Option (Option Nat)} {y1 : Option Nat} {y2 : Nat} {S : cS} (hK5 : ∀ (y1 : Option Nat) (y2 : Option Nat) (S : cS) (ls : Array Slot) (H : Heap) (locs : List Loc), lx ls [none, some (va_rf y1), some (va_rf y2)] → AI D vwCl b0 (cH dA b0 S hp0) sz s.heap H locs → K5 y1 y2 S = some q → W p l e { frames := 2, cells := 0, slots := 0, locals := 44 } s m args below meth c H locs 0 0 (MQ below (CQ D vwCl b0 (some (va_rf q)) (cH dA b0 S hp0) sz) args s 0 0 (fun q => b0 ≤ q)) (F0 m 5 ls [])) (B : BX p m c cb_N_entryNamed 3 s args (.code y_N_entryNamed cb_N_entryNamed 3 (some (.object "TableText$Node")) :: wsA) RZ2 meth (some (.object "TableText$Node")) D vwCl (tyL dA) b0 Z) (hR : CR b0 K Z) (hl : lx ls [none, some (va_rf y1), some (.ref y2)]) (I : AI D vwCl b0 (cH dA b0 S hp0) sz s.heap H locs)  (hm : x_N_entryNamed_29 N b0 K K5 y1 y2 S = some q) : W p l e { frames := 2, cells := 0, slots := 0, locals := 44 } s m args below meth c H locs 0 0 (MQ below (CQ D vwCl b0 (some (va_rf q)) (cH dA b0 S hp0) sz) args s 0 0 (fun q => b0 ≤ q)) (F0 m 29 ls []) := by
  obtain ⟨hx, hb, -⟩ := B.1
  unfold x_N_entryNamed_29 at hm
  refine q_aload_n (pc := 29) (i := 2) (v := .ref y2) hx hb d_N_entryNamed_29 rfl rfl (lx_get hl rfl) ?_
  refine ob1 hm (fun q1 e2 hm => ?_)
  refine k_getR (pc := 30) (z := 2) (k := 7) (index := 28) B hR I (by decide) (by decide) mF_N_28 rfl (fun _ _ => rfl) e2 d_N_entryNamed_30 ?_
  refine q_astore_n (pc := 33) (i := 2) (v := va_rf q1) (lo' := [none, some (va_rf y1), some (va_rf q1)]) hx hb d_N_entryNamed_33 rfl (va_rf_isRef _) hl (Nat.le_of_ble_eq_true rfl) (lx_cq rfl) rfl (fun ls hl => ?_)
  refine lv_goto (pc := 34) (tgt := 5) hx hb d_N_entryNamed_34 (by decide) ?_
  exact hK5 y1 q1 S _ _ _ hl I hm
def x_N_entryNamed_5F (N b0 : Nat) (K : cS) (K5 : Option Nat → Option Nat → cS → Option (Option Nat)) (y1 : Option Nat) (y2 : Option Nat) (S : cS) : Option (Option Nat) :=
  om y2 (some none) (fun a2 => b1 (gR b0 K S 2 3 a2) (fun q3 => om q3 (x_N_entryNamed_29 N b0 K K5 y1 a2 S) (fun a6 => b1 (gR b0 K S 2 3 a2) (fun q7 => b1 q7 (fun a9 => ifk b0 K S 6 a9 (b1 (x_Str_equals N b0 K a9 y1 S) (fun x13 => if x13 = 0 then (x_N_entryNamed_29 N b0 K K5 y1 a2 S) else (some (some a2)))))))))
def x_N_entryNamed_5 (N b0 : Nat) (K : cS) : Nat → Option Nat → Option Nat → cS → Option (Option Nat)
  | 0, _, _, _ => none
  | k + 1, y1, y2, S => x_N_entryNamed_5F N b0 K  (x_N_entryNamed_5 N b0 K  k) y1 y2 S
set_option maxRecDepth 100000 in
set_option maxHeartbeats 4000000 in
theorem w_N_entryNamed_5F {K5 : Option Nat → Option Nat → cS → Option (Option Nat)} {y1 : Option Nat} {y2 : Option Nat} {S : cS} (hK5 : ∀ (y1 : Option Nat) (y2 : Option Nat) (S : cS) (ls : Array Slot) (H : Heap) (locs : List Loc), lx ls [none, some (va_rf y1), some (va_rf y2)] → AI D vwCl b0 (cH dA b0 S hp0) sz s.heap H locs → K5 y1 y2 S = some q → W p l e { frames := 2, cells := 0, slots := 0, locals := 44 } s m args below meth c H locs 0 0 (MQ below (CQ D vwCl b0 (some (va_rf q)) (cH dA b0 S hp0) sz) args s 0 0 (fun q => b0 ≤ q)) (F0 m 5 ls [])) (B : BX p m c cb_N_entryNamed 3 s args (.code y_N_entryNamed cb_N_entryNamed 3 (some (.object "TableText$Node")) :: wsA) RZ2 meth (some (.object "TableText$Node")) D vwCl (tyL dA) b0 Z) (hR : CR b0 K Z) (hl : lx ls [none, some (va_rf y1), some (va_rf y2)]) (I : AI D vwCl b0 (cH dA b0 S hp0) sz s.heap H locs)  (hm : x_N_entryNamed_5F N b0 K  K5 y1 y2 S = some q) : W p l e { frames := 2, cells := 0, slots := 0, locals := 44 } s m args below meth c H locs 0 0 (MQ below (CQ D vwCl b0 (some (va_rf q)) (cH dA b0 S hp0) sz) args s 0 0 (fun q => b0 ≤ q)) (F0 m 5 ls []) := by
  obtain ⟨hx, hb, -⟩ := B.1
  unfold x_N_entryNamed_5F at hm
  refine q_aload_n (pc := 5) (i := 2) (v := va_rf y2) hx hb d_N_entryNamed_5 rfl (va_rf_isRef _) (lx_get hl rfl) ?_
  refine oom hm (fun e1 hm => ?_) (fun a2 e1 hm => ?_)
  · have hm_15 := hm; have hl_15 := hl; have I_15 := I
    subst e1
    have hm := hm_15; have hl := hl_15; have I := I_15
    refine lv_ifnullN (pc := 6) (tgt := 37) hx hb d_N_entryNamed_6 (by decide) ?_
    refine lv_null (pc := 37) hx hb d_N_entryNamed_37 ?_
    cases hm
    exact q_aret (pc := 38) B I rfl (Or.inl ⟨_, rfl⟩) d_N_entryNamed_38
  · have hm_15 := hm; have hl_15 := hl; have I_15 := I
    subst e1
    have hm := hm_15; have hl := hl_15; have I := I_15
    refine lv_ifnull (pc := 6) hx hb d_N_entryNamed_6 ?_
    refine q_aload_n (pc := 9) (i := 2) (v := .ref a2) hx hb d_N_entryNamed_9 rfl rfl (lx_get hl rfl) ?_
    refine ob1 hm (fun q3 e4 hm => ?_)
    refine k_getR (pc := 10) (z := 2) (k := 3) (index := 31) B hR I (by decide) (by decide) mF_N_31 rfl (fun _ _ => rfl) e4 d_N_entryNamed_10 ?_
    refine oom hm (fun e5 hm => ?_) (fun a6 e5 hm => ?_)
    · have hm_14 := hm; have hl_14 := hl; have I_14 := I
      subst e5
      have hm := hm_14; have hl := hl_14; have I := I_14
      refine lv_ifnullN (pc := 13) (tgt := 29) hx hb d_N_entryNamed_13 (by decide) ?_
      exact w_N_entryNamed_29 (y1 := y1) (y2 := a2) hK5 B hR hl I hm
    · have hm_14 := hm; have hl_14 := hl; have I_14 := I
      subst e5
      have hm := hm_14; have hl := hl_14; have I := I_14
      refine lv_ifnull (pc := 13) hx hb d_N_entryNamed_13 ?_
      refine q_aload_n (pc := 16) (i := 2) (v := .ref a2) hx hb d_N_entryNamed_16 rfl rfl (lx_get hl rfl) ?_
      refine ob1 hm (fun q7 e8 hm => ?_)
      refine k_getR (pc := 17) (z := 2) (k := 3) (index := 31) B hR I (by decide) (by decide) mF_N_31 rfl (fun _ _ => rfl) e8 d_N_entryNamed_17 ?_
      refine q_aload_n (pc := 20) (i := 1) (v := va_rf y1) hx hb d_N_entryNamed_20 rfl (va_rf_isRef _) (lx_get hl rfl) ?_
      refine ob1 hm (fun a9 e10 hm => ?_)
      have hm_11 := hm; have hl_11 := hl; have I_11 := I
      subst e10
      have hm := hm_11; have hl := hl_11; have I := I_11
      refine oifk hm (fun hk hm => ?_)
      refine ob1 hm (fun x13 e12 hm => ?_)
      refine k_callV (pc := 21) (As := [va_rf y1]) (rest := []) (b := a9) B hR hl rfl I (c_Str_equals hR e12) kw_N_35 (by decide) hk rfl (Nat.le_of_ble_eq_true rfl) (Nat.le_of_ble_eq_true rfl) rfl (by simp [cat_i, cat_r, cat_l, va_rf_cat]) d_N_entryNamed_21 (Nat.le_refl _) (Nat.le_refl _) (fun H locs I => ?_)
      refine lv_if_eq (pc := 24) (tgt := 29) hx hb d_N_entryNamed_24 (by decide) (fun hcc => ?_) (fun hcc => ?_)
      · have hm := ift hcc hm
        exact w_N_entryNamed_29 (y1 := y1) (y2 := a2) hK5 B hR hl I hm
      · have hm := iff' hcc hm
        refine q_aload_n (pc := 27) (i := 2) (v := .ref a2) hx hb d_N_entryNamed_27 rfl rfl (lx_get hl rfl) ?_
        cases hm
        exact q_aret (pc := 28) B I rfl (Or.inl ⟨_, rfl⟩) d_N_entryNamed_28
set_option maxRecDepth 100000 in
set_option maxHeartbeats 4000000 in
theorem w_N_entryNamed_5i (B : BX p m c cb_N_entryNamed 3 s args (.code y_N_entryNamed cb_N_entryNamed 3 (some (.object "TableText$Node")) :: wsA) RZ2 meth (some (.object "TableText$Node")) D vwCl (tyL dA) b0 Z) (hR : CR b0 K Z) (k : Nat) (y1 : Option Nat) (y2 : Option Nat) (S : cS) (ls : Array Slot) (H : Heap) (locs : List Loc) (hl : lx ls [none, some (va_rf y1), some (va_rf y2)]) (I : AI D vwCl b0 (cH dA b0 S hp0) sz s.heap H locs)  (hm : x_N_entryNamed_5 N b0 K  k y1 y2 S = some q) : W p l e { frames := 2, cells := 0, slots := 0, locals := 44 } s m args below meth c H locs 0 0 (MQ below (CQ D vwCl b0 (some (va_rf q)) (cH dA b0 S hp0) sz) args s 0 0 (fun q => b0 ≤ q)) (F0 m 5 ls []) := by
  induction k generalizing y1 y2 S ls H locs with
  | zero => cases hm
  | succ k ih => exact w_N_entryNamed_5F  (fun y1 y2 S ls H locs hl I hm => ih y1 y2 S ls H locs hl I hm) B hR hl I hm
theorem w_N_entryNamed_5 {y1 : Option Nat} {y2 : Option Nat} {S : cS} (B : BX p m c cb_N_entryNamed 3 s args (.code y_N_entryNamed cb_N_entryNamed 3 (some (.object "TableText$Node")) :: wsA) RZ2 meth (some (.object "TableText$Node")) D vwCl (tyL dA) b0 Z) (hR : CR b0 K Z) (hl : lx ls [none, some (va_rf y1), some (va_rf y2)]) (I : AI D vwCl b0 (cH dA b0 S hp0) sz s.heap H locs)  {k : Nat} (hm : x_N_entryNamed_5 N b0 K  k y1 y2 S = some q) : W p l e { frames := 2, cells := 0, slots := 0, locals := 44 } s m args below meth c H locs 0 0 (MQ below (CQ D vwCl b0 (some (va_rf q)) (cH dA b0 S hp0) sz) args s 0 0 (fun q => b0 ≤ q)) (F0 m 5 ls []) := w_N_entryNamed_5i  B hR k _ _ S ls H locs hl I hm
def x_N_entryNamed (N b0 : Nat) (K : cS) (p0 : Nat) (p1 : Option Nat) (S : cS) : Option (Option Nat) :=
  b1 (gR b0 K S 2 5 p0) (fun q1 => x_N_entryNamed_5 N b0 K  N p1 q1 S)
set_option maxRecDepth 100000 in
set_option maxHeartbeats 4000000 in
theorem c_N_entryNamed {p0 : Nat} {p1 : Option Nat} {S : cS} {q : Option Nat} (hR : CR b0 K Z) (hm : x_N_entryNamed N b0 K p0 p1 S = some q) : Ct l D vwCl (tyL dA) b0 Z y_N_entryNamed (.code y_N_entryNamed cb_N_entryNamed 3 (some (.object "TableText$Node")) :: wsA) 2 44 [.ref p0, va_rf p1] (cH dA b0 S hp0) sz (some (va_rf q)) (cH dA b0 S hp0) 0 0 := by
  refine ct_ofF (cc := cb_N_entryNamed) (maxL := 3) (ret := (some (.object "TableText$Node"))) (lo0 := [some (.ref p0), some (va_rf p1), none]) hR.1 (by decide +kernel) rfl (by simp [lg_sl, cat_i, cat_r, cat_l, va_rf_cat]) rfl (by simp [lx_all, lv_args, cat_i, cat_r, cat_l, va_rf_cat]) ?_
  intro p e s m args below meth c ls B hnm hl I
  obtain ⟨hx, hb, -⟩ := B.1
  unfold x_N_entryNamed at hm
  refine q_aload_n (pc := 0) (i := 0) (v := .ref p0) hx hb d_N_entryNamed_0 rfl rfl (lx_get hl rfl) ?_
  refine ob1 hm (fun q1 e2 hm => ?_)
  refine k_getR (pc := 1) (z := 2) (k := 5) (index := 25) B hR I (by decide) (by decide) mF_N_25 rfl (fun _ _ => rfl) e2 d_N_entryNamed_1 ?_
  refine q_astore_n (pc := 4) (i := 2) (v := va_rf q1) (lo' := [some (.ref p0), some (va_rf p1), some (va_rf q1)]) hx hb d_N_entryNamed_4 rfl (va_rf_isRef _) hl (Nat.le_of_ble_eq_true rfl) (lx_cq rfl) rfl (fun ls hl => ?_)
  exact w_N_entryNamed_5 (y1 := p1) (y2 := q1)  B hR (lx_sub (lo' := [none, some (va_rf p1), some (va_rf q1)]) hl (by simp [lx_le, va_rf])) I hm
def x_N_entryOrNew (N b0 : Nat) (K : cS) (p0 : Nat) (p1 : Option Nat) (p2 : Int32) (sz : Nat) (S : cS) : Option (Option Nat × cS × Nat × Nat) :=
  ifk b0 K S 2 p0 (b1 (x_N_entryNamed N b0 K p0 p1 S) (fun q2 => om q2 (wr4 1 8 (b1 (nOo b0 S 2 sz) (fun S5 => b1 (x_N_init N b0 K sz p2 0 S5) (fun S8 => b1 (pR b0 S8 2 3 sz p1) (fun S9 => ifk b0 K S9 2 p0 (b1 (x_N_add N b0 K p0 (some sz) S9) (fun S12 => some (some sz, S12, 0, 0)))))))) (fun a4 => some (some a4, S, 0, 0))))
set_option maxRecDepth 100000 in
set_option maxHeartbeats 4000000 in
theorem c_N_entryOrNew {p0 : Nat} {p1 : Option Nat} {p2 : Int32} {S S' : cS} {q : Option Nat} {dc ds : Nat} (hR : CR b0 K Z) (hm : x_N_entryOrNew N b0 K p0 p1 p2 sz S = some (q, S', dc, ds)) : Ct l D vwCl (tyL dA) b0 Z y_N_entryOrNew (.code y_N_entryOrNew cb_N_entryOrNew 4 (some (.object "TableText$Node")) :: wsA) 3 66 [.ref p0, va_rf p1, .int p2] (cH dA b0 S hp0) sz (some (va_rf q)) (cH dA b0 S' hp0) dc ds := by
  refine ct_ofF (cc := cb_N_entryOrNew) (maxL := 4) (ret := (some (.object "TableText$Node"))) (lo0 := [some (.ref p0), some (va_rf p1), some (.int p2), none]) hR.1 (by decide +kernel) rfl (by simp [lg_sl, cat_i, cat_r, cat_l, va_rf_cat]) rfl (by simp [lx_all, lv_args, cat_i, cat_r, cat_l, va_rf_cat]) ?_
  intro p e s m args below meth c ls B hnm hl I
  obtain ⟨hx, hb, -⟩ := B.1
  have hz : sz = sz + 0 := rfl
  have hc : 0 + dc = dc := Nat.zero_add _
  have hs : 0 + ds = ds := Nat.zero_add _
  unfold x_N_entryOrNew at hm
  refine q_aload_n (pc := 0) (i := 0) (v := .ref p0) hx hb d_N_entryOrNew_0 rfl rfl (lx_get hl rfl) ?_
  refine q_aload_n (pc := 1) (i := 1) (v := va_rf p1) hx hb d_N_entryOrNew_1 rfl (va_rf_isRef _) (lx_get hl rfl) ?_
  refine oifk hm (fun hk hm => ?_)
  refine ob1 hm (fun q2 e1 hm => ?_)
  refine k_callV (pc := 2) (As := [va_rf p1]) (rest := []) (b := p0) B hR hl rfl I (c_N_entryNamed hR e1) kw_N_41 (by decide) hk rfl (Nat.le_of_ble_eq_true rfl) (Nat.le_of_ble_eq_true rfl) rfl (by simp [cat_i, cat_r, cat_l, va_rf_cat]) d_N_entryOrNew_2 (hr0 hc) (hr0 hs) (fun H locs I => ?_)
  refine q_astore_n (pc := 5) (i := 3) (v := va_rf q2) (lo' := [some (.ref p0), some (va_rf p1), some (.int p2), some (va_rf q2)]) hx hb d_N_entryOrNew_5 rfl (va_rf_isRef _) hl (Nat.le_of_ble_eq_true rfl) (lx_ci rfl) rfl (fun ls hl => ?_)
  refine q_aload_n (pc := 6) (i := 3) (v := va_rf q2) hx hb d_N_entryOrNew_6 rfl (va_rf_isRef _) (lx_get hl rfl) ?_
  refine oom hm (fun e3 hm => ?_) (fun a4 e3 hm => ?_)
  · have hm_13 := hm; have hl_13 := hl; have I_13 := I
    subst e3
    have hm := hm_13; have hl := hl_13; have I := I_13
    refine lv_ifnonnullN (pc := 7) hx hb d_N_entryOrNew_7 ?_
    refine owr4 hm hc hs (fun dc ds hm hc hs => ?_)
    refine ob1 hm (fun S5 e6 hm => ?_)
    refine k_new (pc := 10) (z := 2) (index := 10) (n := 8) B I (by decide) mC_N_10 mI_2 mN_2 nf_2 (hr_ hc) (hr_ hs) e6 d_N_entryOrNew_10 (fun H I => ?_)
    have hz := hzn (n := 1) hz
    refine lv_dup (pc := 13) hx hb d_N_entryOrNew_13 rfl ?_
    refine lv_iload_n (pc := 14) (i := 2) hx hb d_N_entryOrNew_14 rfl (lx_get hl rfl) ?_
    refine lv_iconst (pc := 15) (v := 0) hx hb d_N_entryOrNew_15 (by decide) ?_
    refine ob1 hm (fun S8 e7 hm => ?_)
    refine k_callI (pc := 16) (As := [.int p2, .int 0]) (rest := [.ref sz]) (b := sz) B hl rfl I (c_N_init hR e7) kw_N_45 rfl (Nat.le_of_ble_eq_true rfl) (Nat.le_of_ble_eq_true rfl) rfl (by simp [cat_i, cat_r, cat_l, va_rf_cat]) d_N_entryOrNew_16 (hr0 hc) (hr0 hs) (fun H locs I => ?_)
    refine q_astore_n (pc := 19) (i := 3) (v := .ref sz) (lo' := [some (.ref p0), some (va_rf p1), some (.int p2), some (.ref sz)]) hx hb d_N_entryOrNew_19 rfl rfl hl (Nat.le_of_ble_eq_true rfl) (lx_ci rfl) rfl (fun ls hl => ?_)
    refine q_aload_n (pc := 20) (i := 3) (v := .ref sz) hx hb d_N_entryOrNew_20 rfl rfl (lx_get hl rfl) ?_
    refine q_aload_n (pc := 21) (i := 1) (v := va_rf p1) hx hb d_N_entryOrNew_21 rfl (va_rf_isRef _) (lx_get hl rfl) ?_
    refine ob1 hm (fun S9 e10 hm => ?_)
    refine k_putR (pc := 22) (z := 2) (k := 3) (index := 31) (v := p1) B I (by decide) (by decide) mF_N_31 rfl rfl (Or.inl ⟨_, rfl⟩) cset_2_3 e10 d_N_entryOrNew_22 (fun H locs I => ?_)
    refine q_aload_n (pc := 25) (i := 0) (v := .ref p0) hx hb d_N_entryOrNew_25 rfl rfl (lx_get hl rfl) ?_
    refine q_aload_n (pc := 26) (i := 3) (v := .ref sz) hx hb d_N_entryOrNew_26 rfl rfl (lx_get hl rfl) ?_
    refine oifk hm (fun hk hm => ?_)
    refine ob1 hm (fun S12 e11 hm => ?_)
    refine k_callV (pc := 27) (As := [va_rf (some sz)]) (rest := []) (b := p0) B hR hl rfl I (c_N_add hR e11) kw_N_48 (by decide) hk rfl (Nat.le_of_ble_eq_true rfl) (Nat.le_of_ble_eq_true rfl) rfl (by simp [cat_i, cat_r, cat_l, va_rf_cat]) d_N_entryOrNew_27 (hr0 hc) (hr0 hs) (fun H locs I => ?_)
    refine q_aload_n (pc := 30) (i := 3) (v := .ref sz) hx hb d_N_entryOrNew_30 rfl rfl (lx_get hl rfl) ?_
    cases hm
    exact q_aretA (pc := 31) B I hz hc hs rfl (Or.inl ⟨_, rfl⟩) d_N_entryOrNew_31
  · have hm_13 := hm; have hl_13 := hl; have I_13 := I
    subst e3
    have hm := hm_13; have hl := hl_13; have I := I_13
    refine lv_ifnonnull (pc := 7) (tgt := 30) hx hb d_N_entryOrNew_7 (by decide) ?_
    refine q_aload_n (pc := 30) (i := 3) (v := .ref a4) hx hb d_N_entryOrNew_30 rfl rfl (lx_get hl rfl) ?_
    cases hm
    exact q_aretA (pc := 31) B I hz hc hs rfl (Or.inl ⟨_, rfl⟩) d_N_entryOrNew_31
def x_R_throughTable_45 (N b0 : Nat) (K : cS) (y0 : Nat) (y2 : Nat) (sz : Nat) (S : cS) : Option (Option Nat × cS × Nat × Nat) :=
  b1 (gI b0 K S 3 1 y2) (fun x1 => ifk b0 K S 4 y0 (b2 (x_R_wrong N b0 K y0 x1 S) (fun q4 S5 => some (q4, S5, 0, 0))))
set_option maxRecDepth 100000 in
set_option maxHeartbeats 4000000 in
theorem w_R_throughTable_45 {y0 : Nat} {y2 : Nat} {sz : Nat} {S : cS} (B : BX p m c cb_R_throughTable 4 s args (.code y_R_throughTable cb_R_throughTable 4 (some (.object "TableText$Node")) :: wsA) RZ4 meth (some (.object "TableText$Node")) D vwCl (tyL dA) b0 Z) (hR : CR b0 K Z) (hl : lx ls [some (.ref y0), none, some (.ref y2), none]) (I : AI D vwCl b0 (cH dA b0 S hp0) sz s.heap H locs) (hz : sz = sz0 + cells) (hc : cells + dc = mc) (hs : slots + ds = ms) (hm : x_R_throughTable_45 N b0 K  y0 y2 sz S = some (q, S', dc, ds)) : W p l e { frames := 4, cells := mc, slots := ms, locals := 89 } s m args below meth c H locs cells slots (MQ below (CQ D vwCl b0 (some (va_rf q)) (cH dA b0 S' hp0) (sz0 + mc)) args s mc ms (fun q => b0 ≤ q)) (F0 m 45 ls []) := by
  obtain ⟨hx, hb, -⟩ := B.1
  unfold x_R_throughTable_45 at hm
  refine q_aload_n (pc := 45) (i := 0) (v := .ref y0) hx hb d_R_throughTable_45 rfl rfl (lx_get hl rfl) ?_
  refine q_aload_n (pc := 46) (i := 2) (v := .ref y2) hx hb d_R_throughTable_46 rfl rfl (lx_get hl rfl) ?_
  refine ob1 hm (fun x1 e2 hm => ?_)
  refine k_getIN (pc := 47) (z := 3) (k := 1) (index := 102) B hR I (by decide) (by decide) nF_R_102 rfl (fun _ _ => rfl) e2 d_R_throughTable_47 ?_
  refine oifk hm (fun hk hm => ?_)
  refine ob2 hm (fun q4 S5 e3 hm => ?_)
  refine k_callV (pc := 50) (As := [.int x1]) (rest := []) (b := y0) B hR hl rfl I (c_R_wrong hR e3) kw_R_105 (by decide) hk rfl (Nat.le_of_ble_eq_true rfl) (Nat.le_of_ble_eq_true rfl) rfl (by simp [cat_i, cat_r, cat_l, va_rf_cat]) d_R_throughTable_50 (hr0 hc) (hr0 hs) (fun H locs I => ?_)
  cases hm
  exact q_aretA (pc := 53) B I hz hc hs rfl (Or.inl ⟨_, rfl⟩) d_R_throughTable_53
def x_R_throughTable (N b0 : Nat) (K : cS) (p0 : Nat) (p1 : Option Nat) (p2 : Option Nat) (sz : Nat) (S : cS) : Option (Option Nat × cS × Nat × Nat) :=
  b1 p2 (fun a1 => b1 (gR b0 K S 3 0 a1) (fun q4 => b1 p1 (fun a6 => ifk b0 K S 2 a6 (b4 (x_N_entryOrNew N b0 K a6 q4 8 sz S) (fun q10 S11 c12 d13 => wr4 c12 d13 (b1 q10 (fun a14 => b1 (gI b0 K S11 2 0 a14) (fun x17 => if x17 = 6 then (b1 (gR b0 K S11 2 6 a14) (fun q23 => some (q23, S11, 0, 0))) else (ifk b0 K S11 2 a14 (b1 (x_N_isTable N b0 K a14 S11) (fun x20 => if x20 = 0 then (x_R_throughTable_45 N b0 K  p0 a1 (sz + c12) S11) else (b1 (gI b0 K S11 2 0 a14) (fun x21 => if x21 = 10 then (x_R_throughTable_45 N b0 K  p0 a1 (sz + c12) S11) else (some (some a14, S11, 0, 0)))))))))))))))
set_option maxRecDepth 100000 in
set_option maxHeartbeats 4000000 in
theorem c_R_throughTable {p0 : Nat} {p1 : Option Nat} {p2 : Option Nat} {S S' : cS} {q : Option Nat} {dc ds : Nat} (hR : CR b0 K Z) (hm : x_R_throughTable N b0 K p0 p1 p2 sz S = some (q, S', dc, ds)) : Ct l D vwCl (tyL dA) b0 Z y_R_throughTable (.code y_R_throughTable cb_R_throughTable 4 (some (.object "TableText$Node")) :: wsA) 4 89 [.ref p0, va_rf p1, va_rf p2] (cH dA b0 S hp0) sz (some (va_rf q)) (cH dA b0 S' hp0) dc ds := by
  refine ct_ofF (cc := cb_R_throughTable) (maxL := 4) (ret := (some (.object "TableText$Node"))) (lo0 := [some (.ref p0), some (va_rf p1), some (va_rf p2), none]) hR.1 (by decide +kernel) rfl (by simp [lg_sl, cat_i, cat_r, cat_l, va_rf_cat]) rfl (by simp [lx_all, lv_args, cat_i, cat_r, cat_l, va_rf_cat]) ?_
  intro p e s m args below meth c ls B hnm hl I
  obtain ⟨hx, hb, -⟩ := B.1
  have hz : sz = sz + 0 := rfl
  have hc : 0 + dc = dc := Nat.zero_add _
  have hs : 0 + ds = ds := Nat.zero_add _
  unfold x_R_throughTable at hm
  refine q_aload_n (pc := 0) (i := 1) (v := va_rf p1) hx hb d_R_throughTable_0 rfl (va_rf_isRef _) (lx_get hl rfl) ?_
  refine q_aload_n (pc := 1) (i := 2) (v := va_rf p2) hx hb d_R_throughTable_1 rfl (va_rf_isRef _) (lx_get hl rfl) ?_
  refine ob1 hm (fun a1 e2 hm => ?_)
  have hm_3 := hm; have hl_3 := hl; have I_3 := I
  subst e2
  have hm := hm_3; have hl := hl_3; have I := I_3
  refine ob1 hm (fun q4 e5 hm => ?_)
  refine k_getRN (pc := 2) (z := 3) (k := 0) (index := 94) B hR I (by decide) (by decide) nF_R_94 rfl (fun _ _ => rfl) e5 d_R_throughTable_2 ?_
  refine lv_bipush (pc := 5) (v := 8) hx hb d_R_throughTable_5 (by decide) ?_
  refine ob1 hm (fun a6 e7 hm => ?_)
  have hm_8 := hm; have hl_8 := hl; have I_8 := I
  subst e7
  have hm := hm_8; have hl := hl_8; have I := I_8
  refine oifk hm (fun hk hm => ?_)
  refine ob4 hm (fun q10 S11 c12 d13 e9 hm => ?_)
  refine owr4 hm hc hs (fun dc ds hm hc hs => ?_)
  refine k_callVN (pc := 7) (As := [va_rf q4, .int 8]) (rest := []) (b := a6) B hR hl rfl I (c_N_entryOrNew hR e9) kw_R_127 (by decide) hk rfl (Nat.le_of_ble_eq_true rfl) (Nat.le_of_ble_eq_true rfl) rfl (by simp [cat_i, cat_r, cat_l, va_rf_cat]) d_R_throughTable_7 (hr_ hc) (hr_ hs) (fun H locs I => ?_)
  have hz := hzn (n := c12) hz
  refine q_astore_n (pc := 10) (i := 3) (v := va_rf q10) (lo' := [some (.ref p0), some (.ref a6), some (.ref a1), some (va_rf q10)]) hx hb d_R_throughTable_10 rfl (va_rf_isRef _) hl (Nat.le_of_ble_eq_true rfl) (lx_cr rfl) rfl (fun ls hl => ?_)
  refine q_aload_n (pc := 11) (i := 3) (v := va_rf q10) hx hb d_R_throughTable_11 rfl (va_rf_isRef _) (lx_get hl rfl) ?_
  refine ob1 hm (fun a14 e15 hm => ?_)
  have hm_16 := hm; have hl_16 := hl; have I_16 := I
  subst e15
  have hm := hm_16; have hl := hl_16; have I := I_16
  refine ob1 hm (fun x17 e18 hm => ?_)
  refine k_getIN (pc := 12) (z := 2) (k := 0) (index := 131) B hR I (by decide) (by decide) nF_R_131 rfl (fun _ _ => rfl) e18 d_R_throughTable_12 ?_
  refine lv_bipush (pc := 15) (v := 6) hx hb d_R_throughTable_15 (by decide) ?_
  refine lv_icmp_ne (pc := 17) (tgt := 25) hx hb d_R_throughTable_17 (by decide) (fun hcc => ?_) (fun hcc => ?_)
  · have hm := iff' hcc hm
    refine q_aload_n (pc := 25) (i := 3) (v := .ref a14) hx hb d_R_throughTable_25 rfl rfl (lx_get hl rfl) ?_
    refine oifk hm (fun hk hm => ?_)
    refine ob1 hm (fun x20 e19 hm => ?_)
    refine k_callVN (pc := 26) (As := []) (rest := []) (b := a14) B hR hl rfl I (c_N_isTable hR e19) kw_R_149 (by decide) hk rfl (Nat.le_of_ble_eq_true rfl) (Nat.le_of_ble_eq_true rfl) rfl (by simp [cat_i, cat_r, cat_l, va_rf_cat]) d_R_throughTable_26 (hr0 hc) (hr0 hs) (fun H locs I => ?_)
    refine lv_if_eq (pc := 29) (tgt := 45) hx hb d_R_throughTable_29 (by decide) (fun hcc => ?_) (fun hcc => ?_)
    · have hm := ift hcc hm
      exact w_R_throughTable_45 (y0 := p0) (y2 := a1)  B hR (lx_sub (lo' := [some (.ref p0), none, some (.ref a1), none]) hl (by simp [lx_le])) I hz hc hs hm
    · have hm := iff' hcc hm
      refine q_aload_n (pc := 32) (i := 3) (v := .ref a14) hx hb d_R_throughTable_32 rfl rfl (lx_get hl rfl) ?_
      refine ob1 hm (fun x21 e22 hm => ?_)
      refine k_getIN (pc := 33) (z := 2) (k := 0) (index := 131) B hR I (by decide) (by decide) nF_R_131 rfl (fun _ _ => rfl) e22 d_R_throughTable_33 ?_
      refine lv_bipush (pc := 36) (v := 10) hx hb d_R_throughTable_36 (by decide) ?_
      refine lv_icmp_eq (pc := 38) (tgt := 45) hx hb d_R_throughTable_38 (by decide) (fun hcc => ?_) (fun hcc => ?_)
      · have hm := ift hcc hm
        exact w_R_throughTable_45 (y0 := p0) (y2 := a1)  B hR (lx_sub (lo' := [some (.ref p0), none, some (.ref a1), none]) hl (by simp [lx_le])) I hz hc hs hm
      · have hm := iff' hcc hm
        refine q_aload_n (pc := 41) (i := 3) (v := .ref a14) hx hb d_R_throughTable_41 rfl rfl (lx_get hl rfl) ?_
        refine lv_goto (pc := 42) (tgt := 53) hx hb d_R_throughTable_42 (by decide) ?_
        cases hm
        exact q_aretA (pc := 53) B I hz hc hs rfl (Or.inl ⟨_, rfl⟩) d_R_throughTable_53
  · have hm := ift hcc hm
    refine q_aload_n (pc := 20) (i := 3) (v := .ref a14) hx hb d_R_throughTable_20 rfl rfl (lx_get hl rfl) ?_
    refine ob1 hm (fun q23 e24 hm => ?_)
    refine k_getRN (pc := 21) (z := 2) (k := 6) (index := 146) B hR I (by decide) (by decide) nF_R_146 rfl (fun _ _ => rfl) e24 d_R_throughTable_21 ?_
    cases hm
    exact q_aretA (pc := 24) B I hz hc hs rfl (Or.inl ⟨_, rfl⟩) d_R_throughTable_24
def x_R_newRow (N b0 : Nat) (K : cS) (p0 : Nat) (p1 : Option Nat) (p2 : Option Nat) (sz : Nat) (S : cS) : Option (Option Nat × cS × Nat × Nat) :=
  b1 p2 (fun a1 => b1 (gR b0 K S 3 0 a1) (fun q4 => b1 p1 (fun a6 => ifk b0 K S 2 a6 (b4 (x_N_entryOrNew N b0 K a6 q4 6 sz S) (fun q10 S11 c12 d13 => wr4 c12 d13 (b1 q10 (fun a14 => b1 (gI b0 K S11 2 0 a14) (fun x17 => if x17 = 6 then (wr4 1 8 (b1 (nOo b0 S11 2 (sz + c12)) (fun S19 => b1 (x_N_init N b0 K (sz + c12) 7 0 S19) (fun S22 => ifk b0 K S22 2 a14 (b1 (x_N_add N b0 K a14 (some (sz + c12)) S22) (fun S24 => some (some (sz + c12), S24, 0, 0))))))) else (b1 (gI b0 K S11 3 1 a1) (fun x25 => ifk b0 K S11 4 p0 (b2 (x_R_wrong N b0 K p0 x25 S11) (fun q28 S29 => some (q28, S29, 0, 0)))))))))))))
set_option maxRecDepth 100000 in
set_option maxHeartbeats 4000000 in
theorem c_R_newRow {p0 : Nat} {p1 : Option Nat} {p2 : Option Nat} {S S' : cS} {q : Option Nat} {dc ds : Nat} (hR : CR b0 K Z) (hm : x_R_newRow N b0 K p0 p1 p2 sz S = some (q, S', dc, ds)) : Ct l D vwCl (tyL dA) b0 Z y_R_newRow (.code y_R_newRow cb_R_newRow 5 (some (.object "TableText$Node")) :: wsA) 4 89 [.ref p0, va_rf p1, va_rf p2] (cH dA b0 S hp0) sz (some (va_rf q)) (cH dA b0 S' hp0) dc ds := by
  refine ct_ofF (cc := cb_R_newRow) (maxL := 5) (ret := (some (.object "TableText$Node"))) (lo0 := [some (.ref p0), some (va_rf p1), some (va_rf p2), none, none]) hR.1 (by decide +kernel) rfl (by simp [lg_sl, cat_i, cat_r, cat_l, va_rf_cat]) rfl (by simp [lx_all, lv_args, cat_i, cat_r, cat_l, va_rf_cat]) ?_
  intro p e s m args below meth c ls B hnm hl I
  obtain ⟨hx, hb, -⟩ := B.1
  have hz : sz = sz + 0 := rfl
  have hc : 0 + dc = dc := Nat.zero_add _
  have hs : 0 + ds = ds := Nat.zero_add _
  unfold x_R_newRow at hm
  refine q_aload_n (pc := 0) (i := 1) (v := va_rf p1) hx hb d_R_newRow_0 rfl (va_rf_isRef _) (lx_get hl rfl) ?_
  refine q_aload_n (pc := 1) (i := 2) (v := va_rf p2) hx hb d_R_newRow_1 rfl (va_rf_isRef _) (lx_get hl rfl) ?_
  refine ob1 hm (fun a1 e2 hm => ?_)
  have hm_3 := hm; have hl_3 := hl; have I_3 := I
  subst e2
  have hm := hm_3; have hl := hl_3; have I := I_3
  refine ob1 hm (fun q4 e5 hm => ?_)
  refine k_getRN (pc := 2) (z := 3) (k := 0) (index := 94) B hR I (by decide) (by decide) nF_R_94 rfl (fun _ _ => rfl) e5 d_R_newRow_2 ?_
  refine lv_bipush (pc := 5) (v := 6) hx hb d_R_newRow_5 (by decide) ?_
  refine ob1 hm (fun a6 e7 hm => ?_)
  have hm_8 := hm; have hl_8 := hl; have I_8 := I
  subst e7
  have hm := hm_8; have hl := hl_8; have I := I_8
  refine oifk hm (fun hk hm => ?_)
  refine ob4 hm (fun q10 S11 c12 d13 e9 hm => ?_)
  refine owr4 hm hc hs (fun dc ds hm hc hs => ?_)
  refine k_callVN (pc := 7) (As := [va_rf q4, .int 6]) (rest := []) (b := a6) B hR hl rfl I (c_N_entryOrNew hR e9) kw_R_127 (by decide) hk rfl (Nat.le_of_ble_eq_true rfl) (Nat.le_of_ble_eq_true rfl) rfl (by simp [cat_i, cat_r, cat_l, va_rf_cat]) d_R_newRow_7 (hr_ hc) (hr_ hs) (fun H locs I => ?_)
  have hz := hzn (n := c12) hz
  refine q_astore_n (pc := 10) (i := 3) (v := va_rf q10) (lo' := [some (.ref p0), some (.ref a6), some (.ref a1), some (va_rf q10), none]) hx hb d_R_newRow_10 rfl (va_rf_isRef _) hl (Nat.le_of_ble_eq_true rfl) (lx_cr rfl) rfl (fun ls hl => ?_)
  refine q_aload_n (pc := 11) (i := 3) (v := va_rf q10) hx hb d_R_newRow_11 rfl (va_rf_isRef _) (lx_get hl rfl) ?_
  refine ob1 hm (fun a14 e15 hm => ?_)
  have hm_16 := hm; have hl_16 := hl; have I_16 := I
  subst e15
  have hm := hm_16; have hl := hl_16; have I := I_16
  refine ob1 hm (fun x17 e18 hm => ?_)
  refine k_getIN (pc := 12) (z := 2) (k := 0) (index := 131) B hR I (by decide) (by decide) nF_R_131 rfl (fun _ _ => rfl) e18 d_R_newRow_12 ?_
  refine lv_bipush (pc := 15) (v := 6) hx hb d_R_newRow_15 (by decide) ?_
  refine lv_icmp_eq (pc := 17) (tgt := 29) hx hb d_R_newRow_17 (by decide) (fun hcc => ?_) (fun hcc => ?_)
  · have hm := ift hcc hm
    refine owr4 hm hc hs (fun dc ds hm hc hs => ?_)
    refine ob1 hm (fun S19 e20 hm => ?_)
    refine k_new (pc := 29) (z := 2) (index := 33) (n := 8) B I (by decide) mC_R_33 mI_2 mN_2 nf_2 (hr_ hc) (hr_ hs) e20 d_R_newRow_29 (fun H I => ?_)
    have hz := hzn (n := 1) hz
    refine lv_dup (pc := 32) hx hb d_R_newRow_32 rfl ?_
    refine lv_bipush (pc := 33) (v := 7) hx hb d_R_newRow_33 (by decide) ?_
    refine lv_iconst (pc := 35) (v := 0) hx hb d_R_newRow_35 (by decide) ?_
    refine ob1 hm (fun S22 e21 hm => ?_)
    refine k_callIN (pc := 36) (As := [.int 7, .int 0]) (rest := [.ref (sz + c12)]) (b := (sz + c12)) B hR hl rfl I (c_N_init hR e21) kw_R_35 rfl (Nat.le_of_ble_eq_true rfl) (Nat.le_of_ble_eq_true rfl) rfl (by simp [cat_i, cat_r, cat_l, va_rf_cat]) d_R_newRow_36 (hr0 hc) (hr0 hs) (fun H locs I => ?_)
    refine q_astore (pc := 39) (i := 4) (v := .ref (sz + c12)) (lo' := [some (.ref p0), some (.ref a6), some (.ref a1), some (.ref a14), some (.ref (sz + c12))]) hx hb d_R_newRow_39 rfl hl (Nat.le_of_ble_eq_true rfl) (lx_cr rfl) rfl (fun ls hl => ?_)
    refine q_aload_n (pc := 41) (i := 3) (v := .ref a14) hx hb d_R_newRow_41 rfl rfl (lx_get hl rfl) ?_
    refine q_aload (pc := 42) (i := 4) (v := .ref (sz + c12)) hx hb d_R_newRow_42 rfl (lx_get hl rfl) ?_
    refine oifk hm (fun hk hm => ?_)
    refine ob1 hm (fun S24 e23 hm => ?_)
    refine k_callVN (pc := 44) (As := [va_rf (some (sz + c12))]) (rest := []) (b := a14) B hR hl rfl I (c_N_add hR e23) kw_R_113 (by decide) hk rfl (Nat.le_of_ble_eq_true rfl) (Nat.le_of_ble_eq_true rfl) rfl (by simp [cat_i, cat_r, cat_l, va_rf_cat]) d_R_newRow_44 (hr0 hc) (hr0 hs) (fun H locs I => ?_)
    refine q_aload (pc := 47) (i := 4) (v := .ref (sz + c12)) hx hb d_R_newRow_47 rfl (lx_get hl rfl) ?_
    cases hm
    exact q_aretA (pc := 49) B I hz hc hs rfl (Or.inl ⟨_, rfl⟩) d_R_newRow_49
  · have hm := iff' hcc hm
    refine q_aload_n (pc := 20) (i := 0) (v := .ref p0) hx hb d_R_newRow_20 rfl rfl (lx_get hl rfl) ?_
    refine q_aload_n (pc := 21) (i := 2) (v := .ref a1) hx hb d_R_newRow_21 rfl rfl (lx_get hl rfl) ?_
    refine ob1 hm (fun x25 e26 hm => ?_)
    refine k_getIN (pc := 22) (z := 3) (k := 1) (index := 102) B hR I (by decide) (by decide) nF_R_102 rfl (fun _ _ => rfl) e26 d_R_newRow_22 ?_
    refine oifk hm (fun hk hm => ?_)
    refine ob2 hm (fun q28 S29 e27 hm => ?_)
    refine k_callV (pc := 25) (As := [.int x25]) (rest := []) (b := p0) B hR hl rfl I (c_R_wrong hR e27) kw_R_105 (by decide) hk rfl (Nat.le_of_ble_eq_true rfl) (Nat.le_of_ble_eq_true rfl) rfl (by simp [cat_i, cat_r, cat_l, va_rf_cat]) d_R_newRow_25 (hr0 hc) (hr0 hs) (fun H locs I => ?_)
    cases hm
    exact q_aretA (pc := 28) B I hz hc hs rfl (Or.inl ⟨_, rfl⟩) d_R_newRow_28
def x_R_toldTable (N b0 : Nat) (K : cS) (p0 : Nat) (p1 : Option Nat) (p2 : Option Nat) (sz : Nat) (S : cS) : Option (Option Nat × cS × Nat × Nat) :=
  b1 p2 (fun a1 => b1 (gR b0 K S 3 0 a1) (fun q4 => b1 p1 (fun a6 => ifk b0 K S 2 a6 (b4 (x_N_entryOrNew N b0 K a6 q4 8 sz S) (fun q10 S11 c12 d13 => wr4 c12 d13 (b1 q10 (fun a14 => b1 (gI b0 K S11 2 0 a14) (fun x17 => if x17 = 8 then (b1 (pI b0 S11 2 0 a14 7) (fun S19 => some (some a14, S19, 0, 0))) else (b1 (gI b0 K S11 3 1 a1) (fun x21 => ifk b0 K S11 4 p0 (b2 (x_R_wrong N b0 K p0 x21 S11) (fun q24 S25 => some (q24, S25, 0, 0)))))))))))))
set_option maxRecDepth 100000 in
set_option maxHeartbeats 4000000 in
theorem c_R_toldTable {p0 : Nat} {p1 : Option Nat} {p2 : Option Nat} {S S' : cS} {q : Option Nat} {dc ds : Nat} (hR : CR b0 K Z) (hm : x_R_toldTable N b0 K p0 p1 p2 sz S = some (q, S', dc, ds)) : Ct l D vwCl (tyL dA) b0 Z y_R_toldTable (.code y_R_toldTable cb_R_toldTable 4 (some (.object "TableText$Node")) :: wsA) 4 89 [.ref p0, va_rf p1, va_rf p2] (cH dA b0 S hp0) sz (some (va_rf q)) (cH dA b0 S' hp0) dc ds := by
  refine ct_ofF (cc := cb_R_toldTable) (maxL := 4) (ret := (some (.object "TableText$Node"))) (lo0 := [some (.ref p0), some (va_rf p1), some (va_rf p2), none]) hR.1 (by decide +kernel) rfl (by simp [lg_sl, cat_i, cat_r, cat_l, va_rf_cat]) rfl (by simp [lx_all, lv_args, cat_i, cat_r, cat_l, va_rf_cat]) ?_
  intro p e s m args below meth c ls B hnm hl I
  obtain ⟨hx, hb, -⟩ := B.1
  have hz : sz = sz + 0 := rfl
  have hc : 0 + dc = dc := Nat.zero_add _
  have hs : 0 + ds = ds := Nat.zero_add _
  unfold x_R_toldTable at hm
  refine q_aload_n (pc := 0) (i := 1) (v := va_rf p1) hx hb d_R_toldTable_0 rfl (va_rf_isRef _) (lx_get hl rfl) ?_
  refine q_aload_n (pc := 1) (i := 2) (v := va_rf p2) hx hb d_R_toldTable_1 rfl (va_rf_isRef _) (lx_get hl rfl) ?_
  refine ob1 hm (fun a1 e2 hm => ?_)
  have hm_3 := hm; have hl_3 := hl; have I_3 := I
  subst e2
  have hm := hm_3; have hl := hl_3; have I := I_3
  refine ob1 hm (fun q4 e5 hm => ?_)
  refine k_getRN (pc := 2) (z := 3) (k := 0) (index := 94) B hR I (by decide) (by decide) nF_R_94 rfl (fun _ _ => rfl) e5 d_R_toldTable_2 ?_
  refine lv_bipush (pc := 5) (v := 8) hx hb d_R_toldTable_5 (by decide) ?_
  refine ob1 hm (fun a6 e7 hm => ?_)
  have hm_8 := hm; have hl_8 := hl; have I_8 := I
  subst e7
  have hm := hm_8; have hl := hl_8; have I := I_8
  refine oifk hm (fun hk hm => ?_)
  refine ob4 hm (fun q10 S11 c12 d13 e9 hm => ?_)
  refine owr4 hm hc hs (fun dc ds hm hc hs => ?_)
  refine k_callVN (pc := 7) (As := [va_rf q4, .int 8]) (rest := []) (b := a6) B hR hl rfl I (c_N_entryOrNew hR e9) kw_R_127 (by decide) hk rfl (Nat.le_of_ble_eq_true rfl) (Nat.le_of_ble_eq_true rfl) rfl (by simp [cat_i, cat_r, cat_l, va_rf_cat]) d_R_toldTable_7 (hr_ hc) (hr_ hs) (fun H locs I => ?_)
  have hz := hzn (n := c12) hz
  refine q_astore_n (pc := 10) (i := 3) (v := va_rf q10) (lo' := [some (.ref p0), some (.ref a6), some (.ref a1), some (va_rf q10)]) hx hb d_R_toldTable_10 rfl (va_rf_isRef _) hl (Nat.le_of_ble_eq_true rfl) (lx_cr rfl) rfl (fun ls hl => ?_)
  refine q_aload_n (pc := 11) (i := 3) (v := va_rf q10) hx hb d_R_toldTable_11 rfl (va_rf_isRef _) (lx_get hl rfl) ?_
  refine ob1 hm (fun a14 e15 hm => ?_)
  have hm_16 := hm; have hl_16 := hl; have I_16 := I
  subst e15
  have hm := hm_16; have hl := hl_16; have I := I_16
  refine ob1 hm (fun x17 e18 hm => ?_)
  refine k_getIN (pc := 12) (z := 2) (k := 0) (index := 131) B hR I (by decide) (by decide) nF_R_131 rfl (fun _ _ => rfl) e18 d_R_toldTable_12 ?_
  refine lv_bipush (pc := 15) (v := 8) hx hb d_R_toldTable_15 (by decide) ?_
  refine lv_icmp_eq (pc := 17) (tgt := 29) hx hb d_R_toldTable_17 (by decide) (fun hcc => ?_) (fun hcc => ?_)
  · have hm := ift hcc hm
    refine q_aload_n (pc := 29) (i := 3) (v := .ref a14) hx hb d_R_toldTable_29 rfl rfl (lx_get hl rfl) ?_
    refine lv_bipush (pc := 30) (v := 7) hx hb d_R_toldTable_30 (by decide) ?_
    refine ob1 hm (fun S19 e20 hm => ?_)
    refine k_putIN (pc := 32) (z := 2) (k := 0) (index := 131) (v := 7) B hR I (by decide) (by decide) nF_R_131 rfl rfl rfl rfl cset_2_0 e20 d_R_toldTable_32 (fun H locs I => ?_)
    refine q_aload_n (pc := 35) (i := 3) (v := .ref a14) hx hb d_R_toldTable_35 rfl rfl (lx_get hl rfl) ?_
    cases hm
    exact q_aretA (pc := 36) B I hz hc hs rfl (Or.inl ⟨_, rfl⟩) d_R_toldTable_36
  · have hm := iff' hcc hm
    refine q_aload_n (pc := 20) (i := 0) (v := .ref p0) hx hb d_R_toldTable_20 rfl rfl (lx_get hl rfl) ?_
    refine q_aload_n (pc := 21) (i := 2) (v := .ref a1) hx hb d_R_toldTable_21 rfl rfl (lx_get hl rfl) ?_
    refine ob1 hm (fun x21 e22 hm => ?_)
    refine k_getIN (pc := 22) (z := 3) (k := 1) (index := 102) B hR I (by decide) (by decide) nF_R_102 rfl (fun _ _ => rfl) e22 d_R_toldTable_22 ?_
    refine oifk hm (fun hk hm => ?_)
    refine ob2 hm (fun q24 S25 e23 hm => ?_)
    refine k_callV (pc := 25) (As := [.int x21]) (rest := []) (b := p0) B hR hl rfl I (c_R_wrong hR e23) kw_R_105 (by decide) hk rfl (Nat.le_of_ble_eq_true rfl) (Nat.le_of_ble_eq_true rfl) rfl (by simp [cat_i, cat_r, cat_l, va_rf_cat]) d_R_toldTable_25 (hr0 hc) (hr0 hs) (fun H locs I => ?_)
    cases hm
    exact q_aretA (pc := 28) B I hz hc hs rfl (Or.inl ⟨_, rfl⟩) d_R_toldTable_28
def x_R_openTable_38 (N b0 : Nat) (K : cS) (y0 : Nat) (y2 : Int32) (y3 : Option Nat) (y4 : Nat) (sz : Nat) (S : cS) : Option (Option Nat × cS × Nat × Nat) :=
  om y3 (some (none, S, 0, 0)) (fun a2 => if y2 = 0 then (ifk b0 K S 4 y0 (b4 (x_R_toldTable N b0 K y0 (some a2) (some y4) sz S) (fun q4 S5 c6 d7 => wr4 c6 d7 (some (q4, S5, 0, 0))))) else (ifk b0 K S 4 y0 (b4 (x_R_newRow N b0 K y0 (some a2) (some y4) sz S) (fun q9 S10 c11 d12 => wr4 c11 d12 (some (q9, S10, 0, 0))))))
set_option maxRecDepth 100000 in
set_option maxHeartbeats 4000000 in
theorem w_R_openTable_38 {y0 : Nat} {y2 : Int32} {y3 : Option Nat} {y4 : Nat} {sz : Nat} {S : cS} (B : BX p m c cb_R_openTable 5 s args (.code y_R_openTable cb_R_openTable 5 (some (.object "TableText$Node")) :: wsA) RZ4 meth (some (.object "TableText$Node")) D vwCl (tyL dA) b0 Z) (hR : CR b0 K Z) (hl : lx ls [some (.ref y0), none, some (.int y2), some (va_rf y3), some (.ref y4)]) (I : AI D vwCl b0 (cH dA b0 S hp0) sz s.heap H locs) (hz : sz = sz0 + cells) (hc : cells + dc = mc) (hs : slots + ds = ms) (hm : x_R_openTable_38 N b0 K  y0 y2 y3 y4 sz S = some (q, S', dc, ds)) : W p l e { frames := 5, cells := mc, slots := ms, locals := 113 } s m args below meth c H locs cells slots (MQ below (CQ D vwCl b0 (some (va_rf q)) (cH dA b0 S' hp0) (sz0 + mc)) args s mc ms (fun q => b0 ≤ q)) (F0 m 38 ls []) := by
  obtain ⟨hx, hb, -⟩ := B.1
  unfold x_R_openTable_38 at hm
  refine q_aload_n (pc := 38) (i := 3) (v := va_rf y3) hx hb d_R_openTable_38 rfl (va_rf_isRef _) (lx_get hl rfl) ?_
  refine oom hm (fun e1 hm => ?_) (fun a2 e1 hm => ?_)
  · have hm_13 := hm; have hl_13 := hl; have I_13 := I
    subst e1
    have hm := hm_13; have hl := hl_13; have I := I_13
    refine lv_ifnonnullN (pc := 39) hx hb d_R_openTable_39 ?_
    refine lv_null (pc := 42) hx hb d_R_openTable_42 ?_
    cases hm
    exact q_aretA (pc := 43) B I hz hc hs rfl (Or.inl ⟨_, rfl⟩) d_R_openTable_43
  · have hm_13 := hm; have hl_13 := hl; have I_13 := I
    subst e1
    have hm := hm_13; have hl := hl_13; have I := I_13
    refine lv_ifnonnull (pc := 39) (tgt := 44) hx hb d_R_openTable_39 (by decide) ?_
    refine lv_iload_n (pc := 44) (i := 2) hx hb d_R_openTable_44 rfl (lx_get hl rfl) ?_
    refine lv_if_eq (pc := 45) (tgt := 58) hx hb d_R_openTable_45 (by decide) (fun hcc => ?_) (fun hcc => ?_)
    · have hm := ift hcc hm
      refine q_aload_n (pc := 58) (i := 0) (v := .ref y0) hx hb d_R_openTable_58 rfl rfl (lx_get hl rfl) ?_
      refine q_aload_n (pc := 59) (i := 3) (v := .ref a2) hx hb d_R_openTable_59 rfl rfl (lx_get hl rfl) ?_
      refine q_aload (pc := 60) (i := 4) (v := .ref y4) hx hb d_R_openTable_60 rfl (lx_get hl rfl) ?_
      refine oifk hm (fun hk hm => ?_)
      refine ob4 hm (fun q4 S5 c6 d7 e3 hm => ?_)
      refine owr4 hm hc hs (fun dc ds hm hc hs => ?_)
      refine k_callV (pc := 62) (As := [va_rf (some a2), va_rf (some y4)]) (rest := []) (b := y0) B hR hl rfl I (c_R_toldTable hR e3) kw_R_143 (by decide) hk rfl (Nat.le_of_ble_eq_true rfl) (Nat.le_of_ble_eq_true rfl) rfl (by simp [cat_i, cat_r, cat_l, va_rf_cat]) d_R_openTable_62 (hr_ hc) (hr_ hs) (fun H locs I => ?_)
      have hz := hzn (n := c6) hz
      cases hm
      exact q_aretA (pc := 65) B I hz hc hs rfl (Or.inl ⟨_, rfl⟩) d_R_openTable_65
    · have hm := iff' hcc hm
      refine q_aload_n (pc := 48) (i := 0) (v := .ref y0) hx hb d_R_openTable_48 rfl rfl (lx_get hl rfl) ?_
      refine q_aload_n (pc := 49) (i := 3) (v := .ref a2) hx hb d_R_openTable_49 rfl rfl (lx_get hl rfl) ?_
      refine q_aload (pc := 50) (i := 4) (v := .ref y4) hx hb d_R_openTable_50 rfl (lx_get hl rfl) ?_
      refine oifk hm (fun hk hm => ?_)
      refine ob4 hm (fun q9 S10 c11 d12 e8 hm => ?_)
      refine owr4 hm hc hs (fun dc ds hm hc hs => ?_)
      refine k_callV (pc := 52) (As := [va_rf (some a2), va_rf (some y4)]) (rest := []) (b := y0) B hR hl rfl I (c_R_newRow hR e8) kw_R_140 (by decide) hk rfl (Nat.le_of_ble_eq_true rfl) (Nat.le_of_ble_eq_true rfl) rfl (by simp [cat_i, cat_r, cat_l, va_rf_cat]) d_R_openTable_52 (hr_ hc) (hr_ hs) (fun H locs I => ?_)
      have hz := hzn (n := c11) hz
      refine lv_goto (pc := 55) (tgt := 65) hx hb d_R_openTable_55 (by decide) ?_
      cases hm
      exact q_aretA (pc := 65) B I hz hc hs rfl (Or.inl ⟨_, rfl⟩) d_R_openTable_65
def x_R_openTable_8F (N b0 : Nat) (K : cS) (K8 : Nat → Int32 → Option Nat → Option Nat → Nat → cS → Option (Option Nat × cS × Nat × Nat)) (y0 : Nat) (y2 : Int32) (y3 : Option Nat) (y4 : Option Nat) (sz : Nat) (S : cS) : Option (Option Nat × cS × Nat × Nat) :=
  b1 y4 (fun a1 => b1 (gR b0 K S 3 2 a1) (fun q4 => om q4 (x_R_openTable_38 N b0 K  y0 y2 y3 a1 sz S) (fun a7 => om y3 (x_R_openTable_38 N b0 K  y0 y2 none a1 sz S) (fun a9 => ifk b0 K S 4 y0 (b4 (x_R_throughTable N b0 K y0 (some a9) (some a1) sz S) (fun q11 S12 c13 d14 => wr4 c13 d14 (b1 (gR b0 K S12 3 2 a1) (fun q15 => K8 y0 y2 q11 q15 (sz + c13) S12))))))))
def x_R_openTable_8 (N b0 : Nat) (K : cS) : Nat → Nat → Int32 → Option Nat → Option Nat → Nat → cS → Option (Option Nat × cS × Nat × Nat)
  | 0, _, _, _, _, _, _ => none
  | k + 1, y0, y2, y3, y4, sz, S => x_R_openTable_8F N b0 K  (x_R_openTable_8 N b0 K  k) y0 y2 y3 y4 sz S
set_option maxRecDepth 100000 in
set_option maxHeartbeats 4000000 in
theorem w_R_openTable_8F {K8 : Nat → Int32 → Option Nat → Option Nat → Nat → cS → Option (Option Nat × cS × Nat × Nat)} {y0 : Nat} {y2 : Int32} {y3 : Option Nat} {y4 : Option Nat} {sz : Nat} {S : cS} (hK8 : ∀ (y0 : Nat) (y2 : Int32) (y3 : Option Nat) (y4 : Option Nat) (sz : Nat) (S : cS) (ls : Array Slot) (H : Heap) (locs : List Loc) (cells slots dc ds : Nat), lx ls [some (.ref y0), none, some (.int y2), some (va_rf y3), some (va_rf y4)] → AI D vwCl b0 (cH dA b0 S hp0) sz s.heap H locs → sz = sz0 + cells → cells + dc = mc → slots + ds = ms → K8 y0 y2 y3 y4 sz S = some (q, S', dc, ds) → W p l e { frames := 5, cells := mc, slots := ms, locals := 113 } s m args below meth c H locs cells slots (MQ below (CQ D vwCl b0 (some (va_rf q)) (cH dA b0 S' hp0) (sz0 + mc)) args s mc ms (fun q => b0 ≤ q)) (F0 m 8 ls [])) (B : BX p m c cb_R_openTable 5 s args (.code y_R_openTable cb_R_openTable 5 (some (.object "TableText$Node")) :: wsA) RZ4 meth (some (.object "TableText$Node")) D vwCl (tyL dA) b0 Z) (hR : CR b0 K Z) (hl : lx ls [some (.ref y0), none, some (.int y2), some (va_rf y3), some (va_rf y4)]) (I : AI D vwCl b0 (cH dA b0 S hp0) sz s.heap H locs) (hz : sz = sz0 + cells) (hc : cells + dc = mc) (hs : slots + ds = ms) (hm : x_R_openTable_8F N b0 K  K8 y0 y2 y3 y4 sz S = some (q, S', dc, ds)) : W p l e { frames := 5, cells := mc, slots := ms, locals := 113 } s m args below meth c H locs cells slots (MQ below (CQ D vwCl b0 (some (va_rf q)) (cH dA b0 S' hp0) (sz0 + mc)) args s mc ms (fun q => b0 ≤ q)) (F0 m 8 ls []) := by
  obtain ⟨hx, hb, -⟩ := B.1
  unfold x_R_openTable_8F at hm
  refine q_aload (pc := 8) (i := 4) (v := va_rf y4) hx hb d_R_openTable_8 (va_rf_isRef _) (lx_get hl rfl) ?_
  refine ob1 hm (fun a1 e2 hm => ?_)
  have hm_3 := hm; have hl_3 := hl; have I_3 := I
  subst e2
  have hm := hm_3; have hl := hl_3; have I := I_3
  refine ob1 hm (fun q4 e5 hm => ?_)
  refine k_getRN (pc := 10) (z := 3) (k := 2) (index := 84) B hR I (by decide) (by decide) nF_R_84 rfl (fun _ _ => rfl) e5 d_R_openTable_10 ?_
  refine oom hm (fun e6 hm => ?_) (fun a7 e6 hm => ?_)
  · have hm_18 := hm; have hl_18 := hl; have I_18 := I
    subst e6
    have hm := hm_18; have hl := hl_18; have I := I_18
    refine lv_ifnullN (pc := 13) (tgt := 38) hx hb d_R_openTable_13 (by decide) ?_
    exact w_R_openTable_38 (y0 := y0) (y2 := y2) (y3 := y3) (y4 := a1)  B hR hl I hz hc hs hm
  · have hm_18 := hm; have hl_18 := hl; have I_18 := I
    subst e6
    have hm := hm_18; have hl := hl_18; have I := I_18
    refine lv_ifnull (pc := 13) hx hb d_R_openTable_13 ?_
    refine q_aload_n (pc := 16) (i := 3) (v := va_rf y3) hx hb d_R_openTable_16 rfl (va_rf_isRef _) (lx_get hl rfl) ?_
    refine oom hm (fun e8 hm => ?_) (fun a9 e8 hm => ?_)
    · have hm_17 := hm; have hl_17 := hl; have I_17 := I
      subst e8
      have hm := hm_17; have hl := hl_17; have I := I_17
      refine lv_ifnullN (pc := 17) (tgt := 38) hx hb d_R_openTable_17 (by decide) ?_
      exact w_R_openTable_38 (y0 := y0) (y2 := y2) (y3 := none) (y4 := a1)  B hR hl I hz hc hs hm
    · have hm_17 := hm; have hl_17 := hl; have I_17 := I
      subst e8
      have hm := hm_17; have hl := hl_17; have I := I_17
      refine lv_ifnull (pc := 17) hx hb d_R_openTable_17 ?_
      refine q_aload_n (pc := 20) (i := 0) (v := .ref y0) hx hb d_R_openTable_20 rfl rfl (lx_get hl rfl) ?_
      refine q_aload_n (pc := 21) (i := 3) (v := .ref a9) hx hb d_R_openTable_21 rfl rfl (lx_get hl rfl) ?_
      refine q_aload (pc := 22) (i := 4) (v := .ref a1) hx hb d_R_openTable_22 rfl (lx_get hl rfl) ?_
      refine oifk hm (fun hk hm => ?_)
      refine ob4 hm (fun q11 S12 c13 d14 e10 hm => ?_)
      refine owr4 hm hc hs (fun dc ds hm hc hs => ?_)
      refine k_callV (pc := 24) (As := [va_rf (some a9), va_rf (some a1)]) (rest := []) (b := y0) B hR hl rfl I (c_R_throughTable hR e10) kw_R_137 (by decide) hk rfl (Nat.le_of_ble_eq_true rfl) (Nat.le_of_ble_eq_true rfl) rfl (by simp [cat_i, cat_r, cat_l, va_rf_cat]) d_R_openTable_24 (hr_ hc) (hr_ hs) (fun H locs I => ?_)
      have hz := hzn (n := c13) hz
      refine q_astore_n (pc := 27) (i := 3) (v := va_rf q11) (lo' := [some (.ref y0), none, some (.int y2), some (va_rf q11), some (.ref a1)]) hx hb d_R_openTable_27 rfl (va_rf_isRef _) hl (Nat.le_of_ble_eq_true rfl) (lx_ci rfl) rfl (fun ls hl => ?_)
      refine q_aload (pc := 28) (i := 4) (v := .ref a1) hx hb d_R_openTable_28 rfl (lx_get hl rfl) ?_
      refine ob1 hm (fun q15 e16 hm => ?_)
      refine k_getRN (pc := 30) (z := 3) (k := 2) (index := 84) B hR I (by decide) (by decide) nF_R_84 rfl (fun _ _ => rfl) e16 d_R_openTable_30 ?_
      refine q_astore (pc := 33) (i := 4) (v := va_rf q15) (lo' := [some (.ref y0), none, some (.int y2), some (va_rf q11), some (va_rf q15)]) hx hb d_R_openTable_33 (va_rf_isRef _) hl (Nat.le_of_ble_eq_true rfl) (lx_cq rfl) rfl (fun ls hl => ?_)
      refine lv_goto (pc := 35) (tgt := 8) hx hb d_R_openTable_35 (by decide) ?_
      exact hK8 y0 y2 q11 q15 (sz + c13) S12 _ _ _ _ _ _ _ hl I hz hc hs hm
set_option maxRecDepth 100000 in
set_option maxHeartbeats 4000000 in
theorem w_R_openTable_8i (B : BX p m c cb_R_openTable 5 s args (.code y_R_openTable cb_R_openTable 5 (some (.object "TableText$Node")) :: wsA) RZ4 meth (some (.object "TableText$Node")) D vwCl (tyL dA) b0 Z) (hR : CR b0 K Z) (k : Nat) (y0 : Nat) (y2 : Int32) (y3 : Option Nat) (y4 : Option Nat) (sz : Nat) (S : cS) (ls : Array Slot) (H : Heap) (locs : List Loc) (cells slots dc ds : Nat) (hl : lx ls [some (.ref y0), none, some (.int y2), some (va_rf y3), some (va_rf y4)]) (I : AI D vwCl b0 (cH dA b0 S hp0) sz s.heap H locs) (hz : sz = sz0 + cells) (hc : cells + dc = mc) (hs : slots + ds = ms) (hm : x_R_openTable_8 N b0 K  k y0 y2 y3 y4 sz S = some (q, S', dc, ds)) : W p l e { frames := 5, cells := mc, slots := ms, locals := 113 } s m args below meth c H locs cells slots (MQ below (CQ D vwCl b0 (some (va_rf q)) (cH dA b0 S' hp0) (sz0 + mc)) args s mc ms (fun q => b0 ≤ q)) (F0 m 8 ls []) := by
  induction k generalizing y0 y2 y3 y4 sz S ls H locs cells slots dc ds with
  | zero => cases hm
  | succ k ih => exact w_R_openTable_8F  (fun y0 y2 y3 y4 sz S ls H locs cells slots dc ds hl I hz hc hs hm => ih y0 y2 y3 y4 sz S ls H locs cells slots dc ds hl I hz hc hs hm) B hR hl I hz hc hs hm
theorem w_R_openTable_8 {y0 : Nat} {y2 : Int32} {y3 : Option Nat} {y4 : Option Nat} {sz : Nat} {S : cS} (B : BX p m c cb_R_openTable 5 s args (.code y_R_openTable cb_R_openTable 5 (some (.object "TableText$Node")) :: wsA) RZ4 meth (some (.object "TableText$Node")) D vwCl (tyL dA) b0 Z) (hR : CR b0 K Z) (hl : lx ls [some (.ref y0), none, some (.int y2), some (va_rf y3), some (va_rf y4)]) (I : AI D vwCl b0 (cH dA b0 S hp0) sz s.heap H locs) (hz : sz = sz0 + cells) (hc : cells + dc = mc) (hs : slots + ds = ms) {k : Nat} (hm : x_R_openTable_8 N b0 K  k y0 y2 y3 y4 sz S = some (q, S', dc, ds)) : W p l e { frames := 5, cells := mc, slots := ms, locals := 113 } s m args below meth c H locs cells slots (MQ below (CQ D vwCl b0 (some (va_rf q)) (cH dA b0 S' hp0) (sz0 + mc)) args s mc ms (fun q => b0 ≤ q)) (F0 m 8 ls []) := w_R_openTable_8i  B hR k _ _ _ _ sz S ls H locs _ _ _ _ hl I hz hc hs hm
def x_R_openTable (N b0 : Nat) (K : cS) (p0 : Nat) (p1 : Option Nat) (p2 : Int32) (sz : Nat) (S : cS) : Option (Option Nat × cS × Nat × Nat) :=
  b1 (gR b0 K S 4 4 p0) (fun q1 => x_R_openTable_8 N b0 K  N p0 p2 q1 p1 sz S)
set_option maxRecDepth 100000 in
set_option maxHeartbeats 4000000 in
theorem c_R_openTable {p0 : Nat} {p1 : Option Nat} {p2 : Int32} {S S' : cS} {q : Option Nat} {dc ds : Nat} (hR : CR b0 K Z) (hm : x_R_openTable N b0 K p0 p1 p2 sz S = some (q, S', dc, ds)) : Ct l D vwCl (tyL dA) b0 Z y_R_openTable (.code y_R_openTable cb_R_openTable 5 (some (.object "TableText$Node")) :: wsA) 5 113 [.ref p0, va_rf p1, .int p2] (cH dA b0 S hp0) sz (some (va_rf q)) (cH dA b0 S' hp0) dc ds := by
  refine ct_ofF (cc := cb_R_openTable) (maxL := 5) (ret := (some (.object "TableText$Node"))) (lo0 := [some (.ref p0), some (va_rf p1), some (.int p2), none, none]) hR.1 (by decide +kernel) rfl (by simp [lg_sl, cat_i, cat_r, cat_l, va_rf_cat]) rfl (by simp [lx_all, lv_args, cat_i, cat_r, cat_l, va_rf_cat]) ?_
  intro p e s m args below meth c ls B hnm hl I
  obtain ⟨hx, hb, -⟩ := B.1
  have hz : sz = sz + 0 := rfl
  have hc : 0 + dc = dc := Nat.zero_add _
  have hs : 0 + ds = ds := Nat.zero_add _
  unfold x_R_openTable at hm
  refine q_aload_n (pc := 0) (i := 0) (v := .ref p0) hx hb d_R_openTable_0 rfl rfl (lx_get hl rfl) ?_
  refine ob1 hm (fun q1 e2 hm => ?_)
  refine k_getR (pc := 1) (z := 4) (k := 4) (index := 38) B hR I (by decide) (by decide) mF_R_38 rfl (fun _ _ => rfl) e2 d_R_openTable_1 ?_
  refine q_astore_n (pc := 4) (i := 3) (v := va_rf q1) (lo' := [some (.ref p0), some (va_rf p1), some (.int p2), some (va_rf q1), none]) hx hb d_R_openTable_4 rfl (va_rf_isRef _) hl (Nat.le_of_ble_eq_true rfl) (lx_ci rfl) rfl (fun ls hl => ?_)
  refine q_aload_n (pc := 5) (i := 1) (v := va_rf p1) hx hb d_R_openTable_5 rfl (va_rf_isRef _) (lx_get hl rfl) ?_
  refine q_astore (pc := 6) (i := 4) (v := va_rf p1) (lo' := [some (.ref p0), some (va_rf p1), some (.int p2), some (va_rf q1), some (va_rf p1)]) hx hb d_R_openTable_6 (va_rf_isRef _) hl (Nat.le_of_ble_eq_true rfl) (lx_cq rfl) rfl (fun ls hl => ?_)
  exact w_R_openTable_8 (y0 := p0) (y2 := p2) (y3 := q1) (y4 := p1)  B hR (lx_sub (lo' := [some (.ref p0), none, some (.int p2), some (va_rf q1), some (va_rf p1)]) hl (by simp [lx_le, va_rf])) I hz hc hs hm
def x_R_daysOf_39 (N b0 : Nat) (K : cS) (y1 : Int32) (S : cS) : Option Int32 :=
  if y1 < 1 then (some 0) else (if 12 < y1 then (some 0) else (b1 (daysT (y1 - 1)) (fun x1 => some x1)))
set_option maxRecDepth 100000 in
set_option maxHeartbeats 4000000 in
theorem w_R_daysOf_39 {y1 : Int32} {S : cS} (B : BX p m c cb_R_daysOf 3 s args (.code y_R_daysOf cb_R_daysOf 3 (some .int) :: wsA) RZ4 meth (some .int) D vwCl (tyL dA) b0 Z) (hR : CR b0 K Z) (hl : lx ls [none, some (.int y1), none]) (I : AI D vwCl b0 (cH dA b0 S hp0) sz s.heap H locs)  (hm : x_R_daysOf_39 N b0 K  y1 S = some r) : W p l e { frames := 0, cells := 0, slots := 0, locals := 0 } s m args below meth c H locs 0 0 (MQ below (CQ D vwCl b0 (some (.int r)) (cH dA b0 S hp0) sz) args s 0 0 (fun q => b0 ≤ q)) (F0 m 39 ls []) := by
  obtain ⟨hx, hb, -⟩ := B.1
  unfold x_R_daysOf_39 at hm
  refine lv_iload_n (pc := 39) (i := 1) hx hb d_R_daysOf_39 rfl (lx_get hl rfl) ?_
  refine lv_iconst (pc := 40) (v := 1) hx hb d_R_daysOf_40 (by decide) ?_
  refine lv_icmp_lt (pc := 41) (tgt := 60) hx hb d_R_daysOf_41 (by decide) (fun hcc => ?_) (fun hcc => ?_)
  · have hm := ift hcc hm
    refine lv_iconst (pc := 60) (v := 0) hx hb d_R_daysOf_60 (by decide) ?_
    cases hm
    exact q_iret (pc := 61) B I rfl d_R_daysOf_61
  · have hm := iff' hcc hm
    refine lv_iload_n (pc := 44) (i := 1) hx hb d_R_daysOf_44 rfl (lx_get hl rfl) ?_
    refine lv_bipush (pc := 45) (v := 12) hx hb d_R_daysOf_45 (by decide) ?_
    refine lv_icmp_gt (pc := 47) (tgt := 60) hx hb d_R_daysOf_47 (by decide) (fun hcc => ?_) (fun hcc => ?_)
    · have hm := ift hcc hm
      refine lv_iconst (pc := 60) (v := 0) hx hb d_R_daysOf_60 (by decide) ?_
      cases hm
      exact q_iret (pc := 61) B I rfl d_R_daysOf_61
    · have hm := iff' hcc hm
      refine k_getDays (pc := 50) (index := 236) B hR I nF_R_236 d_R_daysOf_50 (fun dDays hD => ?_)
      refine lv_iload_n (pc := 53) (i := 1) hx hb d_R_daysOf_53 rfl (lx_get hl rfl) ?_
      refine lv_iconst (pc := 54) (v := 1) hx hb d_R_daysOf_54 (by decide) ?_
      refine lv_isub (pc := 55) hx hb d_R_daysOf_55 ?_
      refine ob1 hm (fun x1 e2 hm => ?_)
      refine k_days (pc := 56) B I hD e2 d_R_daysOf_56 ?_
      refine lv_goto (pc := 57) (tgt := 61) hx hb d_R_daysOf_57 (by decide) ?_
      cases hm
      exact q_iret (pc := 61) B I rfl d_R_daysOf_61
def x_R_daysOf_26 (N b0 : Nat) (K : cS) (y1 : Int32) (z0 : Int32) (S : cS) : Option Int32 :=
  if y1 = 2 then (if z0 = 0 then (x_R_daysOf_39 N b0 K  y1 S) else (some 29)) else (x_R_daysOf_39 N b0 K  y1 S)
set_option maxRecDepth 100000 in
set_option maxHeartbeats 4000000 in
theorem w_R_daysOf_26 {y1 : Int32} {z0 : Int32} {S : cS} (B : BX p m c cb_R_daysOf 3 s args (.code y_R_daysOf cb_R_daysOf 3 (some .int) :: wsA) RZ4 meth (some .int) D vwCl (tyL dA) b0 Z) (hR : CR b0 K Z) (hl : lx ls [none, some (.int y1), none]) (I : AI D vwCl b0 (cH dA b0 S hp0) sz s.heap H locs)  (hm : x_R_daysOf_26 N b0 K  y1 z0 S = some r) : W p l e { frames := 0, cells := 0, slots := 0, locals := 0 } s m args below meth c H locs 0 0 (MQ below (CQ D vwCl b0 (some (.int r)) (cH dA b0 S hp0) sz) args s 0 0 (fun q => b0 ≤ q)) (F0 m 26 ls [.int z0]) := by
  obtain ⟨hx, hb, -⟩ := B.1
  unfold x_R_daysOf_26 at hm
  refine q_istore_n (pc := 26) (i := 2) (lo' := [none, some (.int y1), some (.int z0)]) hx hb d_R_daysOf_26 rfl hl (Nat.le_of_ble_eq_true rfl) (lx_ci rfl) rfl (fun ls hl => ?_)
  refine lv_iload_n (pc := 27) (i := 1) hx hb d_R_daysOf_27 rfl (lx_get hl rfl) ?_
  refine lv_iconst (pc := 28) (v := 2) hx hb d_R_daysOf_28 (by decide) ?_
  refine lv_icmp_ne (pc := 29) (tgt := 39) hx hb d_R_daysOf_29 (by decide) (fun hcc => ?_) (fun hcc => ?_)
  · have hm := iff' hcc hm
    exact w_R_daysOf_39 (y1 := y1)  B hR (lx_sub (lo' := [none, some (.int y1), none]) hl (by simp [lx_le])) I hm
  · have hm := ift hcc hm
    refine lv_iload_n (pc := 32) (i := 2) hx hb d_R_daysOf_32 rfl (lx_get hl rfl) ?_
    refine lv_if_eq (pc := 33) (tgt := 39) hx hb d_R_daysOf_33 (by decide) (fun hcc => ?_) (fun hcc => ?_)
    · have hm := ift hcc hm
      exact w_R_daysOf_39 (y1 := y1)  B hR (lx_sub (lo' := [none, some (.int y1), none]) hl (by simp [lx_le])) I hm
    · have hm := iff' hcc hm
      refine lv_bipush (pc := 36) (v := 29) hx hb d_R_daysOf_36 (by decide) ?_
      cases hm
      exact q_iret (pc := 38) B I rfl d_R_daysOf_38
def x_R_daysOf_21 (N b0 : Nat) (K : cS) (y1 : Int32) (S : cS) : Option Int32 :=
  x_R_daysOf_26 N b0 K  y1 1 S
set_option maxRecDepth 100000 in
set_option maxHeartbeats 4000000 in
theorem w_R_daysOf_21 {y1 : Int32} {S : cS} (B : BX p m c cb_R_daysOf 3 s args (.code y_R_daysOf cb_R_daysOf 3 (some .int) :: wsA) RZ4 meth (some .int) D vwCl (tyL dA) b0 Z) (hR : CR b0 K Z) (hl : lx ls [none, some (.int y1), none]) (I : AI D vwCl b0 (cH dA b0 S hp0) sz s.heap H locs)  (hm : x_R_daysOf_21 N b0 K  y1 S = some r) : W p l e { frames := 0, cells := 0, slots := 0, locals := 0 } s m args below meth c H locs 0 0 (MQ below (CQ D vwCl b0 (some (.int r)) (cH dA b0 S hp0) sz) args s 0 0 (fun q => b0 ≤ q)) (F0 m 21 ls []) := by
  obtain ⟨hx, hb, -⟩ := B.1
  unfold x_R_daysOf_21 at hm
  refine lv_iconst (pc := 21) (v := 1) hx hb d_R_daysOf_21 (by decide) ?_
  refine lv_goto (pc := 22) (tgt := 26) hx hb d_R_daysOf_22 (by decide) ?_
  exact w_R_daysOf_26 (y1 := y1) (z0 := 1)  B hR hl I hm
def x_R_daysOf_25 (N b0 : Nat) (K : cS) (y1 : Int32) (S : cS) : Option Int32 :=
  x_R_daysOf_26 N b0 K  y1 0 S
set_option maxRecDepth 100000 in
set_option maxHeartbeats 4000000 in
theorem w_R_daysOf_25 {y1 : Int32} {S : cS} (B : BX p m c cb_R_daysOf 3 s args (.code y_R_daysOf cb_R_daysOf 3 (some .int) :: wsA) RZ4 meth (some .int) D vwCl (tyL dA) b0 Z) (hR : CR b0 K Z) (hl : lx ls [none, some (.int y1), none]) (I : AI D vwCl b0 (cH dA b0 S hp0) sz s.heap H locs)  (hm : x_R_daysOf_25 N b0 K  y1 S = some r) : W p l e { frames := 0, cells := 0, slots := 0, locals := 0 } s m args below meth c H locs 0 0 (MQ below (CQ D vwCl b0 (some (.int r)) (cH dA b0 S hp0) sz) args s 0 0 (fun q => b0 ≤ q)) (F0 m 25 ls []) := by
  obtain ⟨hx, hb, -⟩ := B.1
  unfold x_R_daysOf_25 at hm
  refine lv_iconst (pc := 25) (v := 0) hx hb d_R_daysOf_25 (by decide) ?_
  exact w_R_daysOf_26 (y1 := y1) (z0 := 0)  B hR hl I hm
def x_R_daysOf (N b0 : Nat) (K : cS) (p1 : Int32) (p2 : Int32) (S : cS) : Option Int32 :=
  if p1 - p1 / 4 * 4 = 0 then (if p1 - p1 / 100 * 100 = 0 then (if p1 - p1 / 400 * 400 = 0 then (x_R_daysOf_21 N b0 K  p2 S) else (x_R_daysOf_25 N b0 K  p2 S)) else (x_R_daysOf_21 N b0 K  p2 S)) else (x_R_daysOf_25 N b0 K  p2 S)
set_option maxRecDepth 100000 in
set_option maxHeartbeats 4000000 in
theorem c_R_daysOf {p1 : Int32} {p2 : Int32} {S : cS} {r : Int32} (hR : CR b0 K Z) (hm : x_R_daysOf N b0 K p1 p2 S = some r) : Ct l D vwCl (tyL dA) b0 Z y_R_daysOf (.code y_R_daysOf cb_R_daysOf 3 (some .int) :: wsA) 0 0 [.int p1, .int p2] (cH dA b0 S hp0) sz (some (.int r)) (cH dA b0 S hp0) 0 0 := by
  refine ct_ofF (cc := cb_R_daysOf) (maxL := 3) (ret := (some .int)) (lo0 := [some (.int p1), some (.int p2), none]) hR.1 (by decide +kernel) rfl (by simp [lg_sl, cat_i, cat_r, cat_l, va_rf_cat]) rfl (by simp [lx_all, lv_args, cat_i, cat_r, cat_l, va_rf_cat]) ?_
  intro p e s m args below meth c ls B hnm hl I
  obtain ⟨hx, hb, -⟩ := B.1
  unfold x_R_daysOf at hm
  refine lv_iload_n (pc := 0) (i := 0) hx hb d_R_daysOf_0 rfl (lx_get hl rfl) ?_
  refine lv_iconst (pc := 1) (v := 4) hx hb d_R_daysOf_1 (by decide) ?_
  refine lv_irem (pc := 2) hx hb d_R_daysOf_2 (by decide) ?_
  refine lv_if_ne (pc := 3) (tgt := 25) hx hb d_R_daysOf_3 (by decide) (fun hcc => ?_) (fun hcc => ?_)
  · have hm := iff' hcc hm
    exact w_R_daysOf_25 (y1 := p2)  B hR (lx_sub (lo' := [none, some (.int p2), none]) hl (by simp [lx_le])) I hm
  · have hm := ift hcc hm
    refine lv_iload_n (pc := 6) (i := 0) hx hb d_R_daysOf_6 rfl (lx_get hl rfl) ?_
    refine lv_bipush (pc := 7) (v := 100) hx hb d_R_daysOf_7 (by decide) ?_
    refine lv_irem (pc := 9) hx hb d_R_daysOf_9 (by decide) ?_
    refine lv_if_ne (pc := 10) (tgt := 21) hx hb d_R_daysOf_10 (by decide) (fun hcc => ?_) (fun hcc => ?_)
    · have hm := iff' hcc hm
      exact w_R_daysOf_21 (y1 := p2)  B hR (lx_sub (lo' := [none, some (.int p2), none]) hl (by simp [lx_le])) I hm
    · have hm := ift hcc hm
      refine lv_iload_n (pc := 13) (i := 0) hx hb d_R_daysOf_13 rfl (lx_get hl rfl) ?_
      refine lv_sipush (pc := 14) (v := 400) hx hb d_R_daysOf_14 (by decide) ?_
      refine lv_irem (pc := 17) hx hb d_R_daysOf_17 (by decide) ?_
      refine lv_if_ne (pc := 18) (tgt := 25) hx hb d_R_daysOf_18 (by decide) (fun hcc => ?_) (fun hcc => ?_)
      · have hm := iff' hcc hm
        exact w_R_daysOf_25 (y1 := p2)  B hR (lx_sub (lo' := [none, some (.int p2), none]) hl (by simp [lx_le])) I hm
      · have hm := ift hcc hm
        exact w_R_daysOf_21 (y1 := p2)  B hR (lx_sub (lo' := [none, some (.int p2), none]) hl (by simp [lx_le])) I hm
def x_R_readDate_4F (N b0 : Nat) (K : cS) (K4 : Nat → Int32 → Int32 → Nat → cS → Option (Option Nat × cS × Nat × Nat)) (y0 : Nat) (y1 : Int32) (y2 : Int32) (sz : Nat) (S : cS) : Option (Option Nat × cS × Nat × Nat) :=
  if 4 ≤ y2 then (b1 (gI b0 K S 4 6 y0) (fun x1 => b1 (pI b0 S 4 6 y0 (x1 + 1)) (fun S3 => ifk b0 K S3 4 y0 (b2 (x_R_readTwoDigits N b0 K y0 12 S3) (fun x6 S7 => if x6 < 0 then (some (none, S7, 0, 0)) else (ifk b0 K S7 4 y0 (b2 (x_R_take N b0 K y0 45 S7) (fun x9 S10 => if x9 = 0 then (some (none, S10, 0, 0)) else (b1 (x_R_daysOf N b0 K y1 x6 S10) (fun x12 => ifk b0 K S10 4 y0 (b2 (x_R_readTwoDigits N b0 K y0 x12 S10) (fun x14 S15 => if 0 ≤ x14 then (wr4 1 8 (b1 (nOo b0 S15 2 sz) (fun S16 => b1 (x_N_init N b0 K sz 4 (((10000 * y1) + (100 * x6)) + x14) S16) (fun S19 => some (some sz, S19, 0, 0))))) else (some (none, S15, 0, 0)))))))))))))) else (b1 (gI b0 K S 4 6 y0) (fun x20 => ifk b0 K S 4 y0 (b1 (x_R_digitAt N b0 K y0 x20 10 S) (fun x23 => b1 (gI b0 K S 4 6 y0) (fun x24 => b1 (pI b0 S 4 6 y0 (x24 + 1)) (fun S26 => K4 y0 ((10 * y1) + x23) (y2 + 1) sz S26))))))
def x_R_readDate_4 (N b0 : Nat) (K : cS) : Nat → Nat → Int32 → Int32 → Nat → cS → Option (Option Nat × cS × Nat × Nat)
  | 0, _, _, _, _, _ => none
  | k + 1, y0, y1, y2, sz, S => x_R_readDate_4F N b0 K  (x_R_readDate_4 N b0 K  k) y0 y1 y2 sz S
set_option maxRecDepth 100000 in
set_option maxHeartbeats 4000000 in
theorem w_R_readDate_4F {K4 : Nat → Int32 → Int32 → Nat → cS → Option (Option Nat × cS × Nat × Nat)} {y0 : Nat} {y1 : Int32} {y2 : Int32} {sz : Nat} {S : cS} (hK4 : ∀ (y0 : Nat) (y1 : Int32) (y2 : Int32) (sz : Nat) (S : cS) (ls : Array Slot) (H : Heap) (locs : List Loc) (cells slots dc ds : Nat), lx ls [some (.ref y0), some (.int y1), some (.int y2), none] → AI D vwCl b0 (cH dA b0 S hp0) sz s.heap H locs → sz = sz0 + cells → cells + dc = mc → slots + ds = ms → K4 y0 y1 y2 sz S = some (q, S', dc, ds) → W p l e { frames := 2, cells := mc, slots := ms, locals := 48 } s m args below meth c H locs cells slots (MQ below (CQ D vwCl b0 (some (va_rf q)) (cH dA b0 S' hp0) (sz0 + mc)) args s mc ms (fun q => b0 ≤ q)) (F0 m 4 ls [])) (B : BX p m c cb_R_readDate 4 s args (.code y_R_readDate cb_R_readDate 4 (some (.object "TableText$Node")) :: wsA) RZ4 meth (some (.object "TableText$Node")) D vwCl (tyL dA) b0 Z) (hR : CR b0 K Z) (hl : lx ls [some (.ref y0), some (.int y1), some (.int y2), none]) (I : AI D vwCl b0 (cH dA b0 S hp0) sz s.heap H locs) (hz : sz = sz0 + cells) (hc : cells + dc = mc) (hs : slots + ds = ms) (hm : x_R_readDate_4F N b0 K  K4 y0 y1 y2 sz S = some (q, S', dc, ds)) : W p l e { frames := 2, cells := mc, slots := ms, locals := 48 } s m args below meth c H locs cells slots (MQ below (CQ D vwCl b0 (some (va_rf q)) (cH dA b0 S' hp0) (sz0 + mc)) args s mc ms (fun q => b0 ≤ q)) (F0 m 4 ls []) := by
  obtain ⟨hx, hb, -⟩ := B.1
  unfold x_R_readDate_4F at hm
  refine lv_iload_n (pc := 4) (i := 2) hx hb d_R_readDate_4 rfl (lx_get hl rfl) ?_
  refine lv_iconst (pc := 5) (v := 4) hx hb d_R_readDate_5 (by decide) ?_
  refine lv_icmp_ge (pc := 6) (tgt := 41) hx hb d_R_readDate_6 (by decide) (fun hcc => ?_) (fun hcc => ?_)
  · have hm := ift hcc hm
    refine q_aload_n (pc := 41) (i := 0) (v := .ref y0) hx hb d_R_readDate_41 rfl rfl (lx_get hl rfl) ?_
    refine lv_dup (pc := 42) hx hb d_R_readDate_42 rfl ?_
    refine ob1 hm (fun x1 e2 hm => ?_)
    refine k_getI (pc := 43) (z := 4) (k := 6) (index := 45) B hR I (by decide) (by decide) mF_R_45 rfl (fun _ _ => rfl) e2 d_R_readDate_43 ?_
    refine lv_iconst (pc := 46) (v := 1) hx hb d_R_readDate_46 (by decide) ?_
    refine lv_iadd (pc := 47) hx hb d_R_readDate_47 ?_
    refine ob1 hm (fun S3 e4 hm => ?_)
    refine k_putI (pc := 48) (z := 4) (k := 6) (index := 45) (v := (x1 + 1)) B I (by decide) (by decide) mF_R_45 rfl rfl rfl rfl cset_4_6 e4 d_R_readDate_48 (fun H locs I => ?_)
    refine q_aload_n (pc := 51) (i := 0) (v := .ref y0) hx hb d_R_readDate_51 rfl rfl (lx_get hl rfl) ?_
    refine lv_bipush (pc := 52) (v := 12) hx hb d_R_readDate_52 (by decide) ?_
    refine oifk hm (fun hk hm => ?_)
    refine ob2 hm (fun x6 S7 e5 hm => ?_)
    refine k_callV (pc := 54) (As := [.int 12]) (rest := []) (b := y0) B hR hl rfl I (c_R_readTwoDigits hR e5) kw_R_229 (by decide) hk rfl (Nat.le_of_ble_eq_true rfl) (Nat.le_of_ble_eq_true rfl) rfl (by simp [cat_i, cat_r, cat_l, va_rf_cat]) d_R_readDate_54 (hr0 hc) (hr0 hs) (fun H locs I => ?_)
    refine q_istore_n (pc := 57) (i := 2) (lo' := [some (.ref y0), some (.int y1), some (.int x6), none]) hx hb d_R_readDate_57 rfl hl (Nat.le_of_ble_eq_true rfl) (lx_ci rfl) rfl (fun ls hl => ?_)
    refine lv_iload_n (pc := 58) (i := 2) hx hb d_R_readDate_58 rfl (lx_get hl rfl) ?_
    refine lv_if_lt (pc := 59) (tgt := 71) hx hb d_R_readDate_59 (by decide) (fun hcc => ?_) (fun hcc => ?_)
    · have hm := ift hcc hm
      refine lv_null (pc := 71) hx hb d_R_readDate_71 ?_
      cases hm
      exact q_aretA (pc := 72) B I hz hc hs rfl (Or.inl ⟨_, rfl⟩) d_R_readDate_72
    · have hm := iff' hcc hm
      refine q_aload_n (pc := 62) (i := 0) (v := .ref y0) hx hb d_R_readDate_62 rfl rfl (lx_get hl rfl) ?_
      refine lv_bipush (pc := 63) (v := 45) hx hb d_R_readDate_63 (by decide) ?_
      refine oifk hm (fun hk hm => ?_)
      refine ob2 hm (fun x9 S10 e8 hm => ?_)
      refine k_callV (pc := 65) (As := [.int 45]) (rest := []) (b := y0) B hR hl rfl I (c_R_take hR e8) kw_R_73 (by decide) hk rfl (Nat.le_of_ble_eq_true rfl) (Nat.le_of_ble_eq_true rfl) rfl (by simp [cat_i, cat_r, cat_l, va_rf_cat]) d_R_readDate_65 (hr0 hc) (hr0 hs) (fun H locs I => ?_)
      refine lv_if_ne (pc := 68) (tgt := 73) hx hb d_R_readDate_68 (by decide) (fun hcc => ?_) (fun hcc => ?_)
      · have hm := iff' hcc hm
        refine q_aload_n (pc := 73) (i := 0) (v := .ref y0) hx hb d_R_readDate_73 rfl rfl (lx_get hl rfl) ?_
        refine lv_iload_n (pc := 74) (i := 1) hx hb d_R_readDate_74 rfl (lx_get hl rfl) ?_
        refine lv_iload_n (pc := 75) (i := 2) hx hb d_R_readDate_75 rfl (lx_get hl rfl) ?_
        refine ob1 hm (fun x12 e11 hm => ?_)
        refine k_callS (pc := 76) (As := [.int y1, .int x6]) (rest := [.ref y0]) B hl rfl I (c_R_daysOf hR e11) kw_R_233 rfl (Nat.le_of_ble_eq_true rfl) (Nat.le_of_ble_eq_true rfl) rfl (by simp [cat_i, cat_r, cat_l, va_rf_cat]) d_R_readDate_76 (hr0 hc) (hr0 hs) (fun H locs I => ?_)
        refine oifk hm (fun hk hm => ?_)
        refine ob2 hm (fun x14 S15 e13 hm => ?_)
        refine k_callV (pc := 79) (As := [.int x12]) (rest := []) (b := y0) B hR hl rfl I (c_R_readTwoDigits hR e13) kw_R_229 (by decide) hk rfl (Nat.le_of_ble_eq_true rfl) (Nat.le_of_ble_eq_true rfl) rfl (by simp [cat_i, cat_r, cat_l, va_rf_cat]) d_R_readDate_79 (hr0 hc) (hr0 hs) (fun H locs I => ?_)
        refine q_istore_n (pc := 82) (i := 3) (lo' := [some (.ref y0), some (.int y1), some (.int x6), some (.int x14)]) hx hb d_R_readDate_82 rfl hl (Nat.le_of_ble_eq_true rfl) (lx_ci rfl) rfl (fun ls hl => ?_)
        refine lv_iload_n (pc := 83) (i := 3) hx hb d_R_readDate_83 rfl (lx_get hl rfl) ?_
        refine lv_if_ge (pc := 84) (tgt := 89) hx hb d_R_readDate_84 (by decide) (fun hcc => ?_) (fun hcc => ?_)
        · have hm := ift hcc hm
          refine owr4 hm hc hs (fun dc ds hm hc hs => ?_)
          refine ob1 hm (fun S16 e17 hm => ?_)
          refine k_new (pc := 89) (z := 2) (index := 33) (n := 8) B I (by decide) mC_R_33 mI_2 mN_2 nf_2 (hr_ hc) (hr_ hs) e17 d_R_readDate_89 (fun H I => ?_)
          have hz := hzn (n := 1) hz
          refine lv_dup (pc := 92) hx hb d_R_readDate_92 rfl ?_
          refine lv_iconst (pc := 93) (v := 4) hx hb d_R_readDate_93 (by decide) ?_
          refine lv_sipush (pc := 94) (v := 10000) hx hb d_R_readDate_94 (by decide) ?_
          refine lv_iload_n (pc := 97) (i := 1) hx hb d_R_readDate_97 rfl (lx_get hl rfl) ?_
          refine lv_imul (pc := 98) hx hb d_R_readDate_98 ?_
          refine lv_bipush (pc := 99) (v := 100) hx hb d_R_readDate_99 (by decide) ?_
          refine lv_iload_n (pc := 101) (i := 2) hx hb d_R_readDate_101 rfl (lx_get hl rfl) ?_
          refine lv_imul (pc := 102) hx hb d_R_readDate_102 ?_
          refine lv_iadd (pc := 103) hx hb d_R_readDate_103 ?_
          refine lv_iload_n (pc := 104) (i := 3) hx hb d_R_readDate_104 rfl (lx_get hl rfl) ?_
          refine lv_iadd (pc := 105) hx hb d_R_readDate_105 ?_
          refine ob1 hm (fun S19 e18 hm => ?_)
          refine k_callIN (pc := 106) (As := [.int 4, .int (((10000 * y1) + (100 * x6)) + x14)]) (rest := [.ref sz]) (b := sz) B hR hl rfl I (c_N_init hR e18) kw_R_35 rfl (Nat.le_of_ble_eq_true rfl) (Nat.le_of_ble_eq_true rfl) rfl (by simp [cat_i, cat_r, cat_l, va_rf_cat]) d_R_readDate_106 (hr0 hc) (hr0 hs) (fun H locs I => ?_)
          cases hm
          exact q_aretA (pc := 109) B I hz hc hs rfl (Or.inl ⟨_, rfl⟩) d_R_readDate_109
        · have hm := iff' hcc hm
          refine lv_null (pc := 87) hx hb d_R_readDate_87 ?_
          cases hm
          exact q_aretA (pc := 88) B I hz hc hs rfl (Or.inl ⟨_, rfl⟩) d_R_readDate_88
      · have hm := ift hcc hm
        refine lv_null (pc := 71) hx hb d_R_readDate_71 ?_
        cases hm
        exact q_aretA (pc := 72) B I hz hc hs rfl (Or.inl ⟨_, rfl⟩) d_R_readDate_72
  · have hm := iff' hcc hm
    refine lv_bipush (pc := 9) (v := 10) hx hb d_R_readDate_9 (by decide) ?_
    refine lv_iload_n (pc := 11) (i := 1) hx hb d_R_readDate_11 rfl (lx_get hl rfl) ?_
    refine lv_imul (pc := 12) hx hb d_R_readDate_12 ?_
    refine q_aload_n (pc := 13) (i := 0) (v := .ref y0) hx hb d_R_readDate_13 rfl rfl (lx_get hl rfl) ?_
    refine q_aload_n (pc := 14) (i := 0) (v := .ref y0) hx hb d_R_readDate_14 rfl rfl (lx_get hl rfl) ?_
    refine ob1 hm (fun x20 e21 hm => ?_)
    refine k_getI (pc := 15) (z := 4) (k := 6) (index := 45) B hR I (by decide) (by decide) mF_R_45 rfl (fun _ _ => rfl) e21 d_R_readDate_15 ?_
    refine lv_bipush (pc := 18) (v := 10) hx hb d_R_readDate_18 (by decide) ?_
    refine oifk hm (fun hk hm => ?_)
    refine ob1 hm (fun x23 e22 hm => ?_)
    refine k_callV (pc := 20) (As := [.int x20, .int 10]) (rest := [.int (10 * y1)]) (b := y0) B hR hl rfl I (c_R_digitAt hR e22) kw_R_226 (by decide) hk rfl (Nat.le_of_ble_eq_true rfl) (Nat.le_of_ble_eq_true rfl) rfl (by simp [cat_i, cat_r, cat_l, va_rf_cat]) d_R_readDate_20 (hr0 hc) (hr0 hs) (fun H locs I => ?_)
    refine lv_iadd (pc := 23) hx hb d_R_readDate_23 ?_
    refine q_istore_n (pc := 24) (i := 1) (lo' := [some (.ref y0), some (.int ((10 * y1) + x23)), some (.int y2), none]) hx hb d_R_readDate_24 rfl hl (Nat.le_of_ble_eq_true rfl) (lx_cr rfl) rfl (fun ls hl => ?_)
    refine q_aload_n (pc := 25) (i := 0) (v := .ref y0) hx hb d_R_readDate_25 rfl rfl (lx_get hl rfl) ?_
    refine lv_dup (pc := 26) hx hb d_R_readDate_26 rfl ?_
    refine ob1 hm (fun x24 e25 hm => ?_)
    refine k_getI (pc := 27) (z := 4) (k := 6) (index := 45) B hR I (by decide) (by decide) mF_R_45 rfl (fun _ _ => rfl) e25 d_R_readDate_27 ?_
    refine lv_iconst (pc := 30) (v := 1) hx hb d_R_readDate_30 (by decide) ?_
    refine lv_iadd (pc := 31) hx hb d_R_readDate_31 ?_
    refine ob1 hm (fun S26 e27 hm => ?_)
    refine k_putI (pc := 32) (z := 4) (k := 6) (index := 45) (v := (x24 + 1)) B I (by decide) (by decide) mF_R_45 rfl rfl rfl rfl cset_4_6 e27 d_R_readDate_32 (fun H locs I => ?_)
    refine q_iinc (pc := 35) (i := 2) (v := y2 + 1) (lo' := [some (.ref y0), some (.int ((10 * y1) + x23)), some (.int (y2 + 1)), none]) hx hb d_R_readDate_35 hl rfl rfl (Nat.le_of_ble_eq_true rfl) (lx_ci rfl) rfl (fun ls hl => ?_)
    refine lv_goto (pc := 38) (tgt := 4) hx hb d_R_readDate_38 (by decide) ?_
    exact hK4 y0 ((10 * y1) + x23) (y2 + 1) sz S26 _ _ _ _ _ _ _ hl I hz hc hs hm
set_option maxRecDepth 100000 in
set_option maxHeartbeats 4000000 in
theorem w_R_readDate_4i (B : BX p m c cb_R_readDate 4 s args (.code y_R_readDate cb_R_readDate 4 (some (.object "TableText$Node")) :: wsA) RZ4 meth (some (.object "TableText$Node")) D vwCl (tyL dA) b0 Z) (hR : CR b0 K Z) (k : Nat) (y0 : Nat) (y1 : Int32) (y2 : Int32) (sz : Nat) (S : cS) (ls : Array Slot) (H : Heap) (locs : List Loc) (cells slots dc ds : Nat) (hl : lx ls [some (.ref y0), some (.int y1), some (.int y2), none]) (I : AI D vwCl b0 (cH dA b0 S hp0) sz s.heap H locs) (hz : sz = sz0 + cells) (hc : cells + dc = mc) (hs : slots + ds = ms) (hm : x_R_readDate_4 N b0 K  k y0 y1 y2 sz S = some (q, S', dc, ds)) : W p l e { frames := 2, cells := mc, slots := ms, locals := 48 } s m args below meth c H locs cells slots (MQ below (CQ D vwCl b0 (some (va_rf q)) (cH dA b0 S' hp0) (sz0 + mc)) args s mc ms (fun q => b0 ≤ q)) (F0 m 4 ls []) := by
  induction k generalizing y0 y1 y2 sz S ls H locs cells slots dc ds with
  | zero => cases hm
  | succ k ih => exact w_R_readDate_4F  (fun y0 y1 y2 sz S ls H locs cells slots dc ds hl I hz hc hs hm => ih y0 y1 y2 sz S ls H locs cells slots dc ds hl I hz hc hs hm) B hR hl I hz hc hs hm
theorem w_R_readDate_4 {y0 : Nat} {y1 : Int32} {y2 : Int32} {sz : Nat} {S : cS} (B : BX p m c cb_R_readDate 4 s args (.code y_R_readDate cb_R_readDate 4 (some (.object "TableText$Node")) :: wsA) RZ4 meth (some (.object "TableText$Node")) D vwCl (tyL dA) b0 Z) (hR : CR b0 K Z) (hl : lx ls [some (.ref y0), some (.int y1), some (.int y2), none]) (I : AI D vwCl b0 (cH dA b0 S hp0) sz s.heap H locs) (hz : sz = sz0 + cells) (hc : cells + dc = mc) (hs : slots + ds = ms) {k : Nat} (hm : x_R_readDate_4 N b0 K  k y0 y1 y2 sz S = some (q, S', dc, ds)) : W p l e { frames := 2, cells := mc, slots := ms, locals := 48 } s m args below meth c H locs cells slots (MQ below (CQ D vwCl b0 (some (va_rf q)) (cH dA b0 S' hp0) (sz0 + mc)) args s mc ms (fun q => b0 ≤ q)) (F0 m 4 ls []) := w_R_readDate_4i  B hR k _ _ _ sz S ls H locs _ _ _ _ hl I hz hc hs hm
def x_R_readDate (N b0 : Nat) (K : cS) (p0 : Nat) (sz : Nat) (S : cS) : Option (Option Nat × cS × Nat × Nat) :=
  x_R_readDate_4 N b0 K  N p0 0 0 sz S
set_option maxRecDepth 100000 in
set_option maxHeartbeats 4000000 in
theorem c_R_readDate {p0 : Nat} {S S' : cS} {q : Option Nat} {dc ds : Nat} (hR : CR b0 K Z) (hm : x_R_readDate N b0 K p0 sz S = some (q, S', dc, ds)) : Ct l D vwCl (tyL dA) b0 Z y_R_readDate (.code y_R_readDate cb_R_readDate 4 (some (.object "TableText$Node")) :: wsA) 2 48 [.ref p0] (cH dA b0 S hp0) sz (some (va_rf q)) (cH dA b0 S' hp0) dc ds := by
  refine ct_ofF (cc := cb_R_readDate) (maxL := 4) (ret := (some (.object "TableText$Node"))) (lo0 := [some (.ref p0), none, none, none]) hR.1 (by decide +kernel) rfl (by simp [lg_sl, cat_i, cat_r, cat_l, va_rf_cat]) rfl (by simp [lx_all, lv_args, cat_i, cat_r, cat_l, va_rf_cat]) ?_
  intro p e s m args below meth c ls B hnm hl I
  obtain ⟨hx, hb, -⟩ := B.1
  have hz : sz = sz + 0 := rfl
  have hc : 0 + dc = dc := Nat.zero_add _
  have hs : 0 + ds = ds := Nat.zero_add _
  unfold x_R_readDate at hm
  refine lv_iconst (pc := 0) (v := 0) hx hb d_R_readDate_0 (by decide) ?_
  refine q_istore_n (pc := 1) (i := 1) (lo' := [some (.ref p0), some (.int 0), none, none]) hx hb d_R_readDate_1 rfl hl (Nat.le_of_ble_eq_true rfl) (lx_cr rfl) rfl (fun ls hl => ?_)
  refine lv_iconst (pc := 2) (v := 0) hx hb d_R_readDate_2 (by decide) ?_
  refine q_istore_n (pc := 3) (i := 2) (lo' := [some (.ref p0), some (.int 0), some (.int 0), none]) hx hb d_R_readDate_3 rfl hl (Nat.le_of_ble_eq_true rfl) (lx_ci rfl) rfl (fun ls hl => ?_)
  exact w_R_readDate_4 (y0 := p0) (y1 := 0) (y2 := 0)  B hR hl I hz hc hs hm
def x_R_readNumber_139 (N b0 : Nat) (K : cS) (z0 : Nat) (z1 : Nat) (z2 : Int32) (z3 : Int32) (sz : Nat) (S : cS) : Option (Option Nat × cS × Nat × Nat) :=
  b1 (x_N_init N b0 K z1 z2 z3 S) (fun S2 => some (some z0, S2, 0, 0))
set_option maxRecDepth 100000 in
set_option maxHeartbeats 4000000 in
theorem w_R_readNumber_139 {z0 : Nat} {z1 : Nat} {z2 : Int32} {z3 : Int32} {sz : Nat} {S : cS} (B : BX p m c cb_R_readNumber 4 s args (.code y_R_readNumber cb_R_readNumber 4 (some (.object "TableText$Node")) :: wsA) RZ4 meth (some (.object "TableText$Node")) D vwCl (tyL dA) b0 Z) (hR : CR b0 K Z) (hl : lx ls [none, none, none, none]) (I : AI D vwCl b0 (cH dA b0 S hp0) sz s.heap H locs) (hz : sz = sz0 + cells) (hc : cells + dc = mc) (hs : slots + ds = ms) (hm : x_R_readNumber_139 N b0 K  z0 z1 z2 z3 sz S = some (q, S', dc, ds)) : W p l e { frames := 2, cells := mc, slots := ms, locals := 49 } s m args below meth c H locs cells slots (MQ below (CQ D vwCl b0 (some (va_rf q)) (cH dA b0 S' hp0) (sz0 + mc)) args s mc ms (fun q => b0 ≤ q)) (F0 m 139 ls [.int z3, .int z2, .ref z1, .ref z0]) := by
  obtain ⟨hx, hb, -⟩ := B.1
  unfold x_R_readNumber_139 at hm
  refine ob1 hm (fun S2 e1 hm => ?_)
  refine k_callIN (pc := 139) (As := [.int z2, .int z3]) (rest := [.ref z0]) (b := z1) B hR hl rfl I (c_N_init hR e1) kw_R_35 rfl (Nat.le_of_ble_eq_true rfl) (Nat.le_of_ble_eq_true rfl) rfl (by simp [cat_i, cat_r, cat_l, va_rf_cat]) d_R_readNumber_139 (hr0 hc) (hr0 hs) (fun H locs I => ?_)
  cases hm
  exact q_aretA (pc := 142) B I hz hc hs rfl (Or.inl ⟨_, rfl⟩) d_R_readNumber_142
def x_R_readNumber_118 (N b0 : Nat) (K : cS) (y2 : Int32) (y3 : Int32) (sz : Nat) (S : cS) : Option (Option Nat × cS × Nat × Nat) :=
  if 0 ≤ y3 then (wr4 1 8 (b1 (nOo b0 S 2 sz) (fun S1 => if y2 = 0 then (x_R_readNumber_139 N b0 K  sz sz 1 y3 (sz + 1) S1) else (x_R_readNumber_139 N b0 K  sz sz 1 (-y3) (sz + 1) S1)))) else (some (none, S, 0, 0))
set_option maxRecDepth 100000 in
set_option maxHeartbeats 4000000 in
theorem w_R_readNumber_118 {y2 : Int32} {y3 : Int32} {sz : Nat} {S : cS} (B : BX p m c cb_R_readNumber 4 s args (.code y_R_readNumber cb_R_readNumber 4 (some (.object "TableText$Node")) :: wsA) RZ4 meth (some (.object "TableText$Node")) D vwCl (tyL dA) b0 Z) (hR : CR b0 K Z) (hl : lx ls [none, none, some (.int y2), some (.int y3)]) (I : AI D vwCl b0 (cH dA b0 S hp0) sz s.heap H locs) (hz : sz = sz0 + cells) (hc : cells + dc = mc) (hs : slots + ds = ms) (hm : x_R_readNumber_118 N b0 K  y2 y3 sz S = some (q, S', dc, ds)) : W p l e { frames := 2, cells := mc, slots := ms, locals := 49 } s m args below meth c H locs cells slots (MQ below (CQ D vwCl b0 (some (va_rf q)) (cH dA b0 S' hp0) (sz0 + mc)) args s mc ms (fun q => b0 ≤ q)) (F0 m 118 ls []) := by
  obtain ⟨hx, hb, -⟩ := B.1
  unfold x_R_readNumber_118 at hm
  refine lv_iload_n (pc := 118) (i := 3) hx hb d_R_readNumber_118 rfl (lx_get hl rfl) ?_
  refine lv_if_ge (pc := 119) (tgt := 124) hx hb d_R_readNumber_119 (by decide) (fun hcc => ?_) (fun hcc => ?_)
  · have hm := ift hcc hm
    refine owr4 hm hc hs (fun dc ds hm hc hs => ?_)
    refine ob1 hm (fun S1 e2 hm => ?_)
    refine k_new (pc := 124) (z := 2) (index := 33) (n := 8) B I (by decide) mC_R_33 mI_2 mN_2 nf_2 (hr_ hc) (hr_ hs) e2 d_R_readNumber_124 (fun H I => ?_)
    have hz := hzn (n := 1) hz
    refine lv_dup (pc := 127) hx hb d_R_readNumber_127 rfl ?_
    refine lv_iconst (pc := 128) (v := 1) hx hb d_R_readNumber_128 (by decide) ?_
    refine lv_iload_n (pc := 129) (i := 2) hx hb d_R_readNumber_129 rfl (lx_get hl rfl) ?_
    refine lv_if_eq (pc := 130) (tgt := 138) hx hb d_R_readNumber_130 (by decide) (fun hcc => ?_) (fun hcc => ?_)
    · have hm := ift hcc hm
      refine lv_iload_n (pc := 138) (i := 3) hx hb d_R_readNumber_138 rfl (lx_get hl rfl) ?_
      exact w_R_readNumber_139 (z0 := sz) (z1 := sz) (z2 := 1) (z3 := y3)  B hR (lx_sub (lo' := [none, none, none, none]) hl (by simp [lx_le])) I hz hc hs hm
    · have hm := iff' hcc hm
      refine lv_iload_n (pc := 133) (i := 3) hx hb d_R_readNumber_133 rfl (lx_get hl rfl) ?_
      refine lv_ineg (pc := 134) hx hb d_R_readNumber_134 ?_
      refine lv_goto (pc := 135) (tgt := 139) hx hb d_R_readNumber_135 (by decide) ?_
      exact w_R_readNumber_139 (z0 := sz) (z1 := sz) (z2 := 1) (z3 := (-y3))  B hR (lx_sub (lo' := [none, none, none, none]) hl (by simp [lx_le])) I hz hc hs hm
  · have hm := iff' hcc hm
    refine lv_null (pc := 122) hx hb d_R_readNumber_122 ?_
    cases hm
    exact q_aretA (pc := 123) B I hz hc hs rfl (Or.inl ⟨_, rfl⟩) d_R_readNumber_123
def x_R_readNumber_53 (N b0 : Nat) (K : cS) (y0 : Nat) (y1 : Int32) (y2 : Int32) (sz : Nat) (S : cS) : Option (Option Nat × cS × Nat × Nat) :=
  ifk b0 K S 4 y0 (b1 (x_R_peek N b0 K y0 S) (fun x2 => if x2 = 48 then (b1 (gI b0 K S 4 6 y0) (fun x3 => b1 (pI b0 S 4 6 y0 (x3 + 1)) (fun S5 => if y1 = 0 then (ifk b0 K S5 4 y0 (b1 (x_R_peek N b0 K y0 S5) (fun x8 => if x8 = 120 then (b1 (gI b0 K S5 4 6 y0) (fun x9 => b1 (pI b0 S5 4 6 y0 (x9 + 1)) (fun S11 => ifk b0 K S11 4 y0 (b2 (x_R_readDigits N b0 K y0 16 7 S11) (fun x14 S15 => x_R_readNumber_118 N b0 K  y2 x14 sz S15))))) else (x_R_readNumber_118 N b0 K  y2 0 sz S5)))) else (x_R_readNumber_118 N b0 K  y2 0 sz S5)))) else (ifk b0 K S 4 y0 (b2 (x_R_readDigits N b0 K y0 10 9 S) (fun x17 S18 => x_R_readNumber_118 N b0 K  y2 x17 sz S18)))))
set_option maxRecDepth 100000 in
set_option maxHeartbeats 4000000 in
theorem w_R_readNumber_53 {y0 : Nat} {y1 : Int32} {y2 : Int32} {sz : Nat} {S : cS} (B : BX p m c cb_R_readNumber 4 s args (.code y_R_readNumber cb_R_readNumber 4 (some (.object "TableText$Node")) :: wsA) RZ4 meth (some (.object "TableText$Node")) D vwCl (tyL dA) b0 Z) (hR : CR b0 K Z) (hl : lx ls [some (.ref y0), some (.int y1), some (.int y2), none]) (I : AI D vwCl b0 (cH dA b0 S hp0) sz s.heap H locs) (hz : sz = sz0 + cells) (hc : cells + dc = mc) (hs : slots + ds = ms) (hm : x_R_readNumber_53 N b0 K  y0 y1 y2 sz S = some (q, S', dc, ds)) : W p l e { frames := 2, cells := mc, slots := ms, locals := 49 } s m args below meth c H locs cells slots (MQ below (CQ D vwCl b0 (some (va_rf q)) (cH dA b0 S' hp0) (sz0 + mc)) args s mc ms (fun q => b0 ≤ q)) (F0 m 53 ls []) := by
  obtain ⟨hx, hb, -⟩ := B.1
  unfold x_R_readNumber_53 at hm
  refine lv_iconst (pc := 53) (v := 0) hx hb d_R_readNumber_53 (by decide) ?_
  refine q_istore_n (pc := 54) (i := 3) (lo' := [some (.ref y0), some (.int y1), some (.int y2), some (.int 0)]) hx hb d_R_readNumber_54 rfl hl (Nat.le_of_ble_eq_true rfl) (lx_ci rfl) rfl (fun ls hl => ?_)
  refine q_aload_n (pc := 55) (i := 0) (v := .ref y0) hx hb d_R_readNumber_55 rfl rfl (lx_get hl rfl) ?_
  refine oifk hm (fun hk hm => ?_)
  refine ob1 hm (fun x2 e1 hm => ?_)
  refine k_callV (pc := 56) (As := []) (rest := []) (b := y0) B hR hl rfl I (c_R_peek hR e1) kw_R_54 (by decide) hk rfl (Nat.le_of_ble_eq_true rfl) (Nat.le_of_ble_eq_true rfl) rfl (by simp [cat_i, cat_r, cat_l, va_rf_cat]) d_R_readNumber_56 (hr0 hc) (hr0 hs) (fun H locs I => ?_)
  refine lv_bipush (pc := 59) (v := 48) hx hb d_R_readNumber_59 (by decide) ?_
  refine lv_icmp_eq (pc := 61) (tgt := 76) hx hb d_R_readNumber_61 (by decide) (fun hcc => ?_) (fun hcc => ?_)
  · have hm := ift hcc hm
    refine q_aload_n (pc := 76) (i := 0) (v := .ref y0) hx hb d_R_readNumber_76 rfl rfl (lx_get hl rfl) ?_
    refine lv_dup (pc := 77) hx hb d_R_readNumber_77 rfl ?_
    refine ob1 hm (fun x3 e4 hm => ?_)
    refine k_getI (pc := 78) (z := 4) (k := 6) (index := 45) B hR I (by decide) (by decide) mF_R_45 rfl (fun _ _ => rfl) e4 d_R_readNumber_78 ?_
    refine lv_iconst (pc := 81) (v := 1) hx hb d_R_readNumber_81 (by decide) ?_
    refine lv_iadd (pc := 82) hx hb d_R_readNumber_82 ?_
    refine ob1 hm (fun S5 e6 hm => ?_)
    refine k_putI (pc := 83) (z := 4) (k := 6) (index := 45) (v := (x3 + 1)) B I (by decide) (by decide) mF_R_45 rfl rfl rfl rfl cset_4_6 e6 d_R_readNumber_83 (fun H locs I => ?_)
    refine lv_iload_n (pc := 86) (i := 1) hx hb d_R_readNumber_86 rfl (lx_get hl rfl) ?_
    refine lv_if_ne (pc := 87) (tgt := 118) hx hb d_R_readNumber_87 (by decide) (fun hcc => ?_) (fun hcc => ?_)
    · have hm := iff' hcc hm
      exact w_R_readNumber_118 (y2 := y2) (y3 := 0)  B hR (lx_sub (lo' := [none, none, some (.int y2), some (.int 0)]) hl (by simp [lx_le])) I hz hc hs hm
    · have hm := ift hcc hm
      refine q_aload_n (pc := 90) (i := 0) (v := .ref y0) hx hb d_R_readNumber_90 rfl rfl (lx_get hl rfl) ?_
      refine oifk hm (fun hk hm => ?_)
      refine ob1 hm (fun x8 e7 hm => ?_)
      refine k_callV (pc := 91) (As := []) (rest := []) (b := y0) B hR hl rfl I (c_R_peek hR e7) kw_R_54 (by decide) hk rfl (Nat.le_of_ble_eq_true rfl) (Nat.le_of_ble_eq_true rfl) rfl (by simp [cat_i, cat_r, cat_l, va_rf_cat]) d_R_readNumber_91 (hr0 hc) (hr0 hs) (fun H locs I => ?_)
      refine lv_bipush (pc := 94) (v := 120) hx hb d_R_readNumber_94 (by decide) ?_
      refine lv_icmp_ne (pc := 96) (tgt := 118) hx hb d_R_readNumber_96 (by decide) (fun hcc => ?_) (fun hcc => ?_)
      · have hm := iff' hcc hm
        exact w_R_readNumber_118 (y2 := y2) (y3 := 0)  B hR (lx_sub (lo' := [none, none, some (.int y2), some (.int 0)]) hl (by simp [lx_le])) I hz hc hs hm
      · have hm := ift hcc hm
        refine q_aload_n (pc := 99) (i := 0) (v := .ref y0) hx hb d_R_readNumber_99 rfl rfl (lx_get hl rfl) ?_
        refine lv_dup (pc := 100) hx hb d_R_readNumber_100 rfl ?_
        refine ob1 hm (fun x9 e10 hm => ?_)
        refine k_getI (pc := 101) (z := 4) (k := 6) (index := 45) B hR I (by decide) (by decide) mF_R_45 rfl (fun _ _ => rfl) e10 d_R_readNumber_101 ?_
        refine lv_iconst (pc := 104) (v := 1) hx hb d_R_readNumber_104 (by decide) ?_
        refine lv_iadd (pc := 105) hx hb d_R_readNumber_105 ?_
        refine ob1 hm (fun S11 e12 hm => ?_)
        refine k_putI (pc := 106) (z := 4) (k := 6) (index := 45) (v := (x9 + 1)) B I (by decide) (by decide) mF_R_45 rfl rfl rfl rfl cset_4_6 e12 d_R_readNumber_106 (fun H locs I => ?_)
        refine q_aload_n (pc := 109) (i := 0) (v := .ref y0) hx hb d_R_readNumber_109 rfl rfl (lx_get hl rfl) ?_
        refine lv_bipush (pc := 110) (v := 16) hx hb d_R_readNumber_110 (by decide) ?_
        refine lv_bipush (pc := 112) (v := 7) hx hb d_R_readNumber_112 (by decide) ?_
        refine oifk hm (fun hk hm => ?_)
        refine ob2 hm (fun x14 S15 e13 hm => ?_)
        refine k_callV (pc := 114) (As := [.int 16, .int 7]) (rest := []) (b := y0) B hR hl rfl I (c_R_readDigits hR e13) kw_R_222 (by decide) hk rfl (Nat.le_of_ble_eq_true rfl) (Nat.le_of_ble_eq_true rfl) rfl (by simp [cat_i, cat_r, cat_l, va_rf_cat]) d_R_readNumber_114 (hr0 hc) (hr0 hs) (fun H locs I => ?_)
        refine q_istore_n (pc := 117) (i := 3) (lo' := [some (.ref y0), some (.int y1), some (.int y2), some (.int x14)]) hx hb d_R_readNumber_117 rfl hl (Nat.le_of_ble_eq_true rfl) (lx_ci rfl) rfl (fun ls hl => ?_)
        exact w_R_readNumber_118 (y2 := y2) (y3 := x14)  B hR (lx_sub (lo' := [none, none, some (.int y2), some (.int x14)]) hl (by simp [lx_le])) I hz hc hs hm
  · have hm := iff' hcc hm
    refine q_aload_n (pc := 64) (i := 0) (v := .ref y0) hx hb d_R_readNumber_64 rfl rfl (lx_get hl rfl) ?_
    refine lv_bipush (pc := 65) (v := 10) hx hb d_R_readNumber_65 (by decide) ?_
    refine lv_bipush (pc := 67) (v := 9) hx hb d_R_readNumber_67 (by decide) ?_
    refine oifk hm (fun hk hm => ?_)
    refine ob2 hm (fun x17 S18 e16 hm => ?_)
    refine k_callV (pc := 69) (As := [.int 10, .int 9]) (rest := []) (b := y0) B hR hl rfl I (c_R_readDigits hR e16) kw_R_222 (by decide) hk rfl (Nat.le_of_ble_eq_true rfl) (Nat.le_of_ble_eq_true rfl) rfl (by simp [cat_i, cat_r, cat_l, va_rf_cat]) d_R_readNumber_69 (hr0 hc) (hr0 hs) (fun H locs I => ?_)
    refine q_istore_n (pc := 72) (i := 3) (lo' := [some (.ref y0), some (.int y1), some (.int y2), some (.int x17)]) hx hb d_R_readNumber_72 rfl hl (Nat.le_of_ble_eq_true rfl) (lx_ci rfl) rfl (fun ls hl => ?_)
    refine lv_goto (pc := 73) (tgt := 118) hx hb d_R_readNumber_73 (by decide) ?_
    exact w_R_readNumber_118 (y2 := y2) (y3 := x17)  B hR (lx_sub (lo' := [none, none, some (.int y2), some (.int x17)]) hl (by simp [lx_le])) I hz hc hs hm
def x_R_readNumber_38 (N b0 : Nat) (K : cS) (y0 : Nat) (y1 : Int32) (z0 : Int32) (sz : Nat) (S : cS) : Option (Option Nat × cS × Nat × Nat) :=
  if y1 = 0 then (x_R_readNumber_53 N b0 K  y0 y1 z0 sz S) else (b1 (gI b0 K S 4 6 y0) (fun x1 => b1 (pI b0 S 4 6 y0 (x1 + 1)) (fun S3 => x_R_readNumber_53 N b0 K  y0 y1 z0 sz S3)))
set_option maxRecDepth 100000 in
set_option maxHeartbeats 4000000 in
theorem w_R_readNumber_38 {y0 : Nat} {y1 : Int32} {z0 : Int32} {sz : Nat} {S : cS} (B : BX p m c cb_R_readNumber 4 s args (.code y_R_readNumber cb_R_readNumber 4 (some (.object "TableText$Node")) :: wsA) RZ4 meth (some (.object "TableText$Node")) D vwCl (tyL dA) b0 Z) (hR : CR b0 K Z) (hl : lx ls [some (.ref y0), some (.int y1), none, none]) (I : AI D vwCl b0 (cH dA b0 S hp0) sz s.heap H locs) (hz : sz = sz0 + cells) (hc : cells + dc = mc) (hs : slots + ds = ms) (hm : x_R_readNumber_38 N b0 K  y0 y1 z0 sz S = some (q, S', dc, ds)) : W p l e { frames := 2, cells := mc, slots := ms, locals := 49 } s m args below meth c H locs cells slots (MQ below (CQ D vwCl b0 (some (va_rf q)) (cH dA b0 S' hp0) (sz0 + mc)) args s mc ms (fun q => b0 ≤ q)) (F0 m 38 ls [.int z0]) := by
  obtain ⟨hx, hb, -⟩ := B.1
  unfold x_R_readNumber_38 at hm
  refine q_istore_n (pc := 38) (i := 2) (lo' := [some (.ref y0), some (.int y1), some (.int z0), none]) hx hb d_R_readNumber_38 rfl hl (Nat.le_of_ble_eq_true rfl) (lx_ci rfl) rfl (fun ls hl => ?_)
  refine lv_iload_n (pc := 39) (i := 1) hx hb d_R_readNumber_39 rfl (lx_get hl rfl) ?_
  refine lv_if_eq (pc := 40) (tgt := 53) hx hb d_R_readNumber_40 (by decide) (fun hcc => ?_) (fun hcc => ?_)
  · have hm := ift hcc hm
    exact w_R_readNumber_53 (y0 := y0) (y1 := y1) (y2 := z0)  B hR hl I hz hc hs hm
  · have hm := iff' hcc hm
    refine q_aload_n (pc := 43) (i := 0) (v := .ref y0) hx hb d_R_readNumber_43 rfl rfl (lx_get hl rfl) ?_
    refine lv_dup (pc := 44) hx hb d_R_readNumber_44 rfl ?_
    refine ob1 hm (fun x1 e2 hm => ?_)
    refine k_getI (pc := 45) (z := 4) (k := 6) (index := 45) B hR I (by decide) (by decide) mF_R_45 rfl (fun _ _ => rfl) e2 d_R_readNumber_45 ?_
    refine lv_iconst (pc := 48) (v := 1) hx hb d_R_readNumber_48 (by decide) ?_
    refine lv_iadd (pc := 49) hx hb d_R_readNumber_49 ?_
    refine ob1 hm (fun S3 e4 hm => ?_)
    refine k_putI (pc := 50) (z := 4) (k := 6) (index := 45) (v := (x1 + 1)) B I (by decide) (by decide) mF_R_45 rfl rfl rfl rfl cset_4_6 e4 d_R_readNumber_50 (fun H locs I => ?_)
    exact w_R_readNumber_53 (y0 := y0) (y1 := y1) (y2 := z0)  B hR hl I hz hc hs hm
def x_R_readNumber_23 (N b0 : Nat) (K : cS) (y0 : Nat) (z0 : Int32) (sz : Nat) (S : cS) : Option (Option Nat × cS × Nat × Nat) :=
  ifk b0 K S 4 y0 (b1 (x_R_peek N b0 K y0 S) (fun x2 => if x2 = 45 then (x_R_readNumber_38 N b0 K  y0 z0 1 sz S) else (x_R_readNumber_38 N b0 K  y0 z0 0 sz S)))
set_option maxRecDepth 100000 in
set_option maxHeartbeats 4000000 in
theorem w_R_readNumber_23 {y0 : Nat} {z0 : Int32} {sz : Nat} {S : cS} (B : BX p m c cb_R_readNumber 4 s args (.code y_R_readNumber cb_R_readNumber 4 (some (.object "TableText$Node")) :: wsA) RZ4 meth (some (.object "TableText$Node")) D vwCl (tyL dA) b0 Z) (hR : CR b0 K Z) (hl : lx ls [some (.ref y0), none, none, none]) (I : AI D vwCl b0 (cH dA b0 S hp0) sz s.heap H locs) (hz : sz = sz0 + cells) (hc : cells + dc = mc) (hs : slots + ds = ms) (hm : x_R_readNumber_23 N b0 K  y0 z0 sz S = some (q, S', dc, ds)) : W p l e { frames := 2, cells := mc, slots := ms, locals := 49 } s m args below meth c H locs cells slots (MQ below (CQ D vwCl b0 (some (va_rf q)) (cH dA b0 S' hp0) (sz0 + mc)) args s mc ms (fun q => b0 ≤ q)) (F0 m 23 ls [.int z0]) := by
  obtain ⟨hx, hb, -⟩ := B.1
  unfold x_R_readNumber_23 at hm
  refine q_istore_n (pc := 23) (i := 1) (lo' := [some (.ref y0), some (.int z0), none, none]) hx hb d_R_readNumber_23 rfl hl (Nat.le_of_ble_eq_true rfl) (lx_cr rfl) rfl (fun ls hl => ?_)
  refine q_aload_n (pc := 24) (i := 0) (v := .ref y0) hx hb d_R_readNumber_24 rfl rfl (lx_get hl rfl) ?_
  refine oifk hm (fun hk hm => ?_)
  refine ob1 hm (fun x2 e1 hm => ?_)
  refine k_callV (pc := 25) (As := []) (rest := []) (b := y0) B hR hl rfl I (c_R_peek hR e1) kw_R_54 (by decide) hk rfl (Nat.le_of_ble_eq_true rfl) (Nat.le_of_ble_eq_true rfl) rfl (by simp [cat_i, cat_r, cat_l, va_rf_cat]) d_R_readNumber_25 (hr0 hc) (hr0 hs) (fun H locs I => ?_)
  refine lv_bipush (pc := 28) (v := 45) hx hb d_R_readNumber_28 (by decide) ?_
  refine lv_icmp_ne (pc := 30) (tgt := 37) hx hb d_R_readNumber_30 (by decide) (fun hcc => ?_) (fun hcc => ?_)
  · have hm := iff' hcc hm
    refine lv_iconst (pc := 37) (v := 0) hx hb d_R_readNumber_37 (by decide) ?_
    exact w_R_readNumber_38 (y0 := y0) (y1 := z0) (z0 := 0)  B hR hl I hz hc hs hm
  · have hm := ift hcc hm
    refine lv_iconst (pc := 33) (v := 1) hx hb d_R_readNumber_33 (by decide) ?_
    refine lv_goto (pc := 34) (tgt := 38) hx hb d_R_readNumber_34 (by decide) ?_
    exact w_R_readNumber_38 (y0 := y0) (y1 := z0) (z0 := 1)  B hR hl I hz hc hs hm
def x_R_readNumber_18 (N b0 : Nat) (K : cS) (y0 : Nat) (sz : Nat) (S : cS) : Option (Option Nat × cS × Nat × Nat) :=
  x_R_readNumber_23 N b0 K  y0 1 sz S
set_option maxRecDepth 100000 in
set_option maxHeartbeats 4000000 in
theorem w_R_readNumber_18 {y0 : Nat} {sz : Nat} {S : cS} (B : BX p m c cb_R_readNumber 4 s args (.code y_R_readNumber cb_R_readNumber 4 (some (.object "TableText$Node")) :: wsA) RZ4 meth (some (.object "TableText$Node")) D vwCl (tyL dA) b0 Z) (hR : CR b0 K Z) (hl : lx ls [some (.ref y0), none, none, none]) (I : AI D vwCl b0 (cH dA b0 S hp0) sz s.heap H locs) (hz : sz = sz0 + cells) (hc : cells + dc = mc) (hs : slots + ds = ms) (hm : x_R_readNumber_18 N b0 K  y0 sz S = some (q, S', dc, ds)) : W p l e { frames := 2, cells := mc, slots := ms, locals := 49 } s m args below meth c H locs cells slots (MQ below (CQ D vwCl b0 (some (va_rf q)) (cH dA b0 S' hp0) (sz0 + mc)) args s mc ms (fun q => b0 ≤ q)) (F0 m 18 ls []) := by
  obtain ⟨hx, hb, -⟩ := B.1
  unfold x_R_readNumber_18 at hm
  refine lv_iconst (pc := 18) (v := 1) hx hb d_R_readNumber_18 (by decide) ?_
  refine lv_goto (pc := 19) (tgt := 23) hx hb d_R_readNumber_19 (by decide) ?_
  exact w_R_readNumber_23 (y0 := y0) (z0 := 1)  B hR hl I hz hc hs hm
def x_R_readNumber (N b0 : Nat) (K : cS) (p0 : Nat) (sz : Nat) (S : cS) : Option (Option Nat × cS × Nat × Nat) :=
  ifk b0 K S 4 p0 (b1 (x_R_peek N b0 K p0 S) (fun x2 => if x2 = 43 then (x_R_readNumber_18 N b0 K  p0 sz S) else (ifk b0 K S 4 p0 (b1 (x_R_peek N b0 K p0 S) (fun x4 => if x4 = 45 then (x_R_readNumber_18 N b0 K  p0 sz S) else (x_R_readNumber_23 N b0 K  p0 0 sz S))))))
set_option maxRecDepth 100000 in
set_option maxHeartbeats 4000000 in
theorem c_R_readNumber {p0 : Nat} {S S' : cS} {q : Option Nat} {dc ds : Nat} (hR : CR b0 K Z) (hm : x_R_readNumber N b0 K p0 sz S = some (q, S', dc, ds)) : Ct l D vwCl (tyL dA) b0 Z y_R_readNumber (.code y_R_readNumber cb_R_readNumber 4 (some (.object "TableText$Node")) :: wsA) 2 49 [.ref p0] (cH dA b0 S hp0) sz (some (va_rf q)) (cH dA b0 S' hp0) dc ds := by
  refine ct_ofF (cc := cb_R_readNumber) (maxL := 4) (ret := (some (.object "TableText$Node"))) (lo0 := [some (.ref p0), none, none, none]) hR.1 (by decide +kernel) rfl (by simp [lg_sl, cat_i, cat_r, cat_l, va_rf_cat]) rfl (by simp [lx_all, lv_args, cat_i, cat_r, cat_l, va_rf_cat]) ?_
  intro p e s m args below meth c ls B hnm hl I
  obtain ⟨hx, hb, -⟩ := B.1
  have hz : sz = sz + 0 := rfl
  have hc : 0 + dc = dc := Nat.zero_add _
  have hs : 0 + ds = ds := Nat.zero_add _
  unfold x_R_readNumber at hm
  refine q_aload_n (pc := 0) (i := 0) (v := .ref p0) hx hb d_R_readNumber_0 rfl rfl (lx_get hl rfl) ?_
  refine oifk hm (fun hk hm => ?_)
  refine ob1 hm (fun x2 e1 hm => ?_)
  refine k_callV (pc := 1) (As := []) (rest := []) (b := p0) B hR hl rfl I (c_R_peek hR e1) kw_R_54 (by decide) hk rfl (Nat.le_of_ble_eq_true rfl) (Nat.le_of_ble_eq_true rfl) rfl (by simp [cat_i, cat_r, cat_l, va_rf_cat]) d_R_readNumber_1 (hr0 hc) (hr0 hs) (fun H locs I => ?_)
  refine lv_bipush (pc := 4) (v := 43) hx hb d_R_readNumber_4 (by decide) ?_
  refine lv_icmp_eq (pc := 6) (tgt := 18) hx hb d_R_readNumber_6 (by decide) (fun hcc => ?_) (fun hcc => ?_)
  · have hm := ift hcc hm
    exact w_R_readNumber_18 (y0 := p0)  B hR hl I hz hc hs hm
  · have hm := iff' hcc hm
    refine q_aload_n (pc := 9) (i := 0) (v := .ref p0) hx hb d_R_readNumber_9 rfl rfl (lx_get hl rfl) ?_
    refine oifk hm (fun hk hm => ?_)
    refine ob1 hm (fun x4 e3 hm => ?_)
    refine k_callV (pc := 10) (As := []) (rest := []) (b := p0) B hR hl rfl I (c_R_peek hR e3) kw_R_54 (by decide) hk rfl (Nat.le_of_ble_eq_true rfl) (Nat.le_of_ble_eq_true rfl) rfl (by simp [cat_i, cat_r, cat_l, va_rf_cat]) d_R_readNumber_10 (hr0 hc) (hr0 hs) (fun H locs I => ?_)
    refine lv_bipush (pc := 13) (v := 45) hx hb d_R_readNumber_13 (by decide) ?_
    refine lv_icmp_ne (pc := 15) (tgt := 22) hx hb d_R_readNumber_15 (by decide) (fun hcc => ?_) (fun hcc => ?_)
    · have hm := iff' hcc hm
      refine lv_iconst (pc := 22) (v := 0) hx hb d_R_readNumber_22 (by decide) ?_
      exact w_R_readNumber_23 (y0 := p0) (z0 := 0)  B hR hl I hz hc hs hm
    · have hm := ift hcc hm
      exact w_R_readNumber_18 (y0 := p0)  B hR hl I hz hc hs hm
def x_R_readTruth_2F (N b0 : Nat) (K : cS) (K2 : Nat → Option Nat → Int32 → Int32 → Nat → cS → Option (Option Nat × cS × Nat × Nat)) (y0 : Nat) (y1 : Option Nat) (y2 : Int32) (y3 : Int32) (sz : Nat) (S : cS) : Option (Option Nat × cS × Nat × Nat) :=
  b1 y1 (fun a1 => ifk b0 K S 6 a1 (b1 (x_Str_length N b0 K a1 S) (fun x5 => if x5 ≤ y3 then (wr4 1 8 (b1 (nOo b0 S 2 sz) (fun S6 => b1 (x_N_init N b0 K sz 2 y2 S6) (fun S9 => some (some sz, S9, 0, 0))))) else (ifk b0 K S 6 a1 (b1 (x_Str_charAt N b0 K a1 y3 S) (fun x11 => ifk b0 K S 4 y0 (b2 (x_R_take N b0 K y0 x11 S) (fun x13 S14 => if x13 = 0 then (some (none, S14, 0, 0)) else (K2 y0 (some a1) y2 (y3 + 1) sz S14)))))))))
def x_R_readTruth_2 (N b0 : Nat) (K : cS) : Nat → Nat → Option Nat → Int32 → Int32 → Nat → cS → Option (Option Nat × cS × Nat × Nat)
  | 0, _, _, _, _, _, _ => none
  | k + 1, y0, y1, y2, y3, sz, S => x_R_readTruth_2F N b0 K  (x_R_readTruth_2 N b0 K  k) y0 y1 y2 y3 sz S
set_option maxRecDepth 100000 in
set_option maxHeartbeats 4000000 in
theorem w_R_readTruth_2F {K2 : Nat → Option Nat → Int32 → Int32 → Nat → cS → Option (Option Nat × cS × Nat × Nat)} {y0 : Nat} {y1 : Option Nat} {y2 : Int32} {y3 : Int32} {sz : Nat} {S : cS} (hK2 : ∀ (y0 : Nat) (y1 : Option Nat) (y2 : Int32) (y3 : Int32) (sz : Nat) (S : cS) (ls : Array Slot) (H : Heap) (locs : List Loc) (cells slots dc ds : Nat), lx ls [some (.ref y0), some (va_rf y1), some (.int y2), some (.int y3)] → AI D vwCl b0 (cH dA b0 S hp0) sz s.heap H locs → sz = sz0 + cells → cells + dc = mc → slots + ds = ms → K2 y0 y1 y2 y3 sz S = some (q, S', dc, ds) → W p l e { frames := 7, cells := mc, slots := ms, locals := 205 } s m args below meth c H locs cells slots (MQ below (CQ D vwCl b0 (some (va_rf q)) (cH dA b0 S' hp0) (sz0 + mc)) args s mc ms (fun q => b0 ≤ q)) (F0 m 2 ls [])) (B : BX p m c cb_R_readTruth 4 s args (.code y_R_readTruth cb_R_readTruth 4 (some (.object "TableText$Node")) :: wsA) RZ4 meth (some (.object "TableText$Node")) D vwCl (tyL dA) b0 Z) (hR : CR b0 K Z) (hl : lx ls [some (.ref y0), some (va_rf y1), some (.int y2), some (.int y3)]) (I : AI D vwCl b0 (cH dA b0 S hp0) sz s.heap H locs) (hz : sz = sz0 + cells) (hc : cells + dc = mc) (hs : slots + ds = ms) (hm : x_R_readTruth_2F N b0 K  K2 y0 y1 y2 y3 sz S = some (q, S', dc, ds)) : W p l e { frames := 7, cells := mc, slots := ms, locals := 205 } s m args below meth c H locs cells slots (MQ below (CQ D vwCl b0 (some (va_rf q)) (cH dA b0 S' hp0) (sz0 + mc)) args s mc ms (fun q => b0 ≤ q)) (F0 m 2 ls []) := by
  obtain ⟨hx, hb, -⟩ := B.1
  unfold x_R_readTruth_2F at hm
  refine lv_iload_n (pc := 2) (i := 3) hx hb d_R_readTruth_2 rfl (lx_get hl rfl) ?_
  refine q_aload_n (pc := 3) (i := 1) (v := va_rf y1) hx hb d_R_readTruth_3 rfl (va_rf_isRef _) (lx_get hl rfl) ?_
  refine ob1 hm (fun a1 e2 hm => ?_)
  have hm_3 := hm; have hl_3 := hl; have I_3 := I
  subst e2
  have hm := hm_3; have hl := hl_3; have I := I_3
  refine oifk hm (fun hk hm => ?_)
  refine ob1 hm (fun x5 e4 hm => ?_)
  refine k_callV (pc := 4) (As := []) (rest := [.int y3]) (b := a1) B hR hl rfl I (c_Str_length hR e4) kw_R_191 (by decide) hk rfl (Nat.le_of_ble_eq_true rfl) (Nat.le_of_ble_eq_true rfl) rfl (by simp [cat_i, cat_r, cat_l, va_rf_cat]) d_R_readTruth_4 (hr0 hc) (hr0 hs) (fun H locs I => ?_)
  refine lv_icmp_ge (pc := 7) (tgt := 30) hx hb d_R_readTruth_7 (by decide) (fun hcc => ?_) (fun hcc => ?_)
  · have hm := ift hcc hm
    refine owr4 hm hc hs (fun dc ds hm hc hs => ?_)
    refine ob1 hm (fun S6 e7 hm => ?_)
    refine k_new (pc := 30) (z := 2) (index := 33) (n := 8) B I (by decide) mC_R_33 mI_2 mN_2 nf_2 (hr_ hc) (hr_ hs) e7 d_R_readTruth_30 (fun H I => ?_)
    have hz := hzn (n := 1) hz
    refine lv_dup (pc := 33) hx hb d_R_readTruth_33 rfl ?_
    refine lv_iconst (pc := 34) (v := 2) hx hb d_R_readTruth_34 (by decide) ?_
    refine lv_iload_n (pc := 35) (i := 2) hx hb d_R_readTruth_35 rfl (lx_get hl rfl) ?_
    refine ob1 hm (fun S9 e8 hm => ?_)
    refine k_callIN (pc := 36) (As := [.int 2, .int y2]) (rest := [.ref sz]) (b := sz) B hR hl rfl I (c_N_init hR e8) kw_R_35 rfl (Nat.le_of_ble_eq_true rfl) (Nat.le_of_ble_eq_true rfl) rfl (by simp [cat_i, cat_r, cat_l, va_rf_cat]) d_R_readTruth_36 (hr0 hc) (hr0 hs) (fun H locs I => ?_)
    cases hm
    exact q_aretA (pc := 39) B I hz hc hs rfl (Or.inl ⟨_, rfl⟩) d_R_readTruth_39
  · have hm := iff' hcc hm
    refine q_aload_n (pc := 10) (i := 0) (v := .ref y0) hx hb d_R_readTruth_10 rfl rfl (lx_get hl rfl) ?_
    refine q_aload_n (pc := 11) (i := 1) (v := .ref a1) hx hb d_R_readTruth_11 rfl rfl (lx_get hl rfl) ?_
    refine lv_iload_n (pc := 12) (i := 3) hx hb d_R_readTruth_12 rfl (lx_get hl rfl) ?_
    refine oifk hm (fun hk hm => ?_)
    refine ob1 hm (fun x11 e10 hm => ?_)
    refine k_callV (pc := 13) (As := [.int y3]) (rest := [.ref y0]) (b := a1) B hR hl rfl I (c_Str_charAt hR e10) kw_R_219 (by decide) hk rfl (Nat.le_of_ble_eq_true rfl) (Nat.le_of_ble_eq_true rfl) rfl (by simp [cat_i, cat_r, cat_l, va_rf_cat]) d_R_readTruth_13 (hr0 hc) (hr0 hs) (fun H locs I => ?_)
    refine oifk hm (fun hk hm => ?_)
    refine ob2 hm (fun x13 S14 e12 hm => ?_)
    refine k_callV (pc := 16) (As := [.int x11]) (rest := []) (b := y0) B hR hl rfl I (c_R_take hR e12) kw_R_73 (by decide) hk rfl (Nat.le_of_ble_eq_true rfl) (Nat.le_of_ble_eq_true rfl) rfl (by simp [cat_i, cat_r, cat_l, va_rf_cat]) d_R_readTruth_16 (hr0 hc) (hr0 hs) (fun H locs I => ?_)
    refine lv_if_ne (pc := 19) (tgt := 24) hx hb d_R_readTruth_19 (by decide) (fun hcc => ?_) (fun hcc => ?_)
    · have hm := iff' hcc hm
      refine q_iinc (pc := 24) (i := 3) (v := y3 + 1) (lo' := [some (.ref y0), some (.ref a1), some (.int y2), some (.int (y3 + 1))]) hx hb d_R_readTruth_24 hl rfl rfl (Nat.le_of_ble_eq_true rfl) (lx_ci rfl) rfl (fun ls hl => ?_)
      refine lv_goto (pc := 27) (tgt := 2) hx hb d_R_readTruth_27 (by decide) ?_
      exact hK2 y0 (some a1) y2 (y3 + 1) sz S14 _ _ _ _ _ _ _ hl I hz hc hs hm
    · have hm := ift hcc hm
      refine lv_null (pc := 22) hx hb d_R_readTruth_22 ?_
      cases hm
      exact q_aretA (pc := 23) B I hz hc hs rfl (Or.inl ⟨_, rfl⟩) d_R_readTruth_23
set_option maxRecDepth 100000 in
set_option maxHeartbeats 4000000 in
theorem w_R_readTruth_2i (B : BX p m c cb_R_readTruth 4 s args (.code y_R_readTruth cb_R_readTruth 4 (some (.object "TableText$Node")) :: wsA) RZ4 meth (some (.object "TableText$Node")) D vwCl (tyL dA) b0 Z) (hR : CR b0 K Z) (k : Nat) (y0 : Nat) (y1 : Option Nat) (y2 : Int32) (y3 : Int32) (sz : Nat) (S : cS) (ls : Array Slot) (H : Heap) (locs : List Loc) (cells slots dc ds : Nat) (hl : lx ls [some (.ref y0), some (va_rf y1), some (.int y2), some (.int y3)]) (I : AI D vwCl b0 (cH dA b0 S hp0) sz s.heap H locs) (hz : sz = sz0 + cells) (hc : cells + dc = mc) (hs : slots + ds = ms) (hm : x_R_readTruth_2 N b0 K  k y0 y1 y2 y3 sz S = some (q, S', dc, ds)) : W p l e { frames := 7, cells := mc, slots := ms, locals := 205 } s m args below meth c H locs cells slots (MQ below (CQ D vwCl b0 (some (va_rf q)) (cH dA b0 S' hp0) (sz0 + mc)) args s mc ms (fun q => b0 ≤ q)) (F0 m 2 ls []) := by
  induction k generalizing y0 y1 y2 y3 sz S ls H locs cells slots dc ds with
  | zero => cases hm
  | succ k ih => exact w_R_readTruth_2F  (fun y0 y1 y2 y3 sz S ls H locs cells slots dc ds hl I hz hc hs hm => ih y0 y1 y2 y3 sz S ls H locs cells slots dc ds hl I hz hc hs hm) B hR hl I hz hc hs hm
theorem w_R_readTruth_2 {y0 : Nat} {y1 : Option Nat} {y2 : Int32} {y3 : Int32} {sz : Nat} {S : cS} (B : BX p m c cb_R_readTruth 4 s args (.code y_R_readTruth cb_R_readTruth 4 (some (.object "TableText$Node")) :: wsA) RZ4 meth (some (.object "TableText$Node")) D vwCl (tyL dA) b0 Z) (hR : CR b0 K Z) (hl : lx ls [some (.ref y0), some (va_rf y1), some (.int y2), some (.int y3)]) (I : AI D vwCl b0 (cH dA b0 S hp0) sz s.heap H locs) (hz : sz = sz0 + cells) (hc : cells + dc = mc) (hs : slots + ds = ms) {k : Nat} (hm : x_R_readTruth_2 N b0 K  k y0 y1 y2 y3 sz S = some (q, S', dc, ds)) : W p l e { frames := 7, cells := mc, slots := ms, locals := 205 } s m args below meth c H locs cells slots (MQ below (CQ D vwCl b0 (some (va_rf q)) (cH dA b0 S' hp0) (sz0 + mc)) args s mc ms (fun q => b0 ≤ q)) (F0 m 2 ls []) := w_R_readTruth_2i  B hR k _ _ _ _ sz S ls H locs _ _ _ _ hl I hz hc hs hm
def x_R_readTruth (N b0 : Nat) (K : cS) (p0 : Nat) (p1 : Option Nat) (p2 : Int32) (sz : Nat) (S : cS) : Option (Option Nat × cS × Nat × Nat) :=
  x_R_readTruth_2 N b0 K  N p0 p1 p2 0 sz S
set_option maxRecDepth 100000 in
set_option maxHeartbeats 4000000 in
theorem c_R_readTruth {p0 : Nat} {p1 : Option Nat} {p2 : Int32} {S S' : cS} {q : Option Nat} {dc ds : Nat} (hR : CR b0 K Z) (hm : x_R_readTruth N b0 K p0 p1 p2 sz S = some (q, S', dc, ds)) : Ct l D vwCl (tyL dA) b0 Z y_R_readTruth (.code y_R_readTruth cb_R_readTruth 4 (some (.object "TableText$Node")) :: wsA) 7 205 [.ref p0, va_rf p1, .int p2] (cH dA b0 S hp0) sz (some (va_rf q)) (cH dA b0 S' hp0) dc ds := by
  refine ct_ofF (cc := cb_R_readTruth) (maxL := 4) (ret := (some (.object "TableText$Node"))) (lo0 := [some (.ref p0), some (va_rf p1), some (.int p2), none]) hR.1 (by decide +kernel) rfl (by simp [lg_sl, cat_i, cat_r, cat_l, va_rf_cat]) rfl (by simp [lx_all, lv_args, cat_i, cat_r, cat_l, va_rf_cat]) ?_
  intro p e s m args below meth c ls B hnm hl I
  obtain ⟨hx, hb, -⟩ := B.1
  have hz : sz = sz + 0 := rfl
  have hc : 0 + dc = dc := Nat.zero_add _
  have hs : 0 + ds = ds := Nat.zero_add _
  unfold x_R_readTruth at hm
  refine lv_iconst (pc := 0) (v := 0) hx hb d_R_readTruth_0 (by decide) ?_
  refine q_istore_n (pc := 1) (i := 3) (lo' := [some (.ref p0), some (va_rf p1), some (.int p2), some (.int 0)]) hx hb d_R_readTruth_1 rfl hl (Nat.le_of_ble_eq_true rfl) (lx_ci rfl) rfl (fun ls hl => ?_)
  exact w_R_readTruth_2 (y0 := p0) (y1 := p1) (y2 := p2) (y3 := 0)  B hR hl I hz hc hs hm
def x_P_putAll_2F (N b0 : Nat) (K : cS) (K2 : Nat → Option Nat → Int32 → cS → Option cS) (y0 : Nat) (y1 : Option Nat) (y2 : Int32) (S : cS) : Option cS :=
  b1 y1 (fun a1 => ifk b0 K S 6 a1 (b1 (x_Str_length N b0 K a1 S) (fun x5 => if x5 ≤ y2 then (some S) else (ifk b0 K S 6 a1 (b1 (x_Str_charAt N b0 K a1 y2 S) (fun x7 => ifk b0 K S 5 y0 (b1 (x_P_put N b0 K y0 x7 S) (fun S9 => K2 y0 (some a1) (y2 + 1) S9))))))))
def x_P_putAll_2 (N b0 : Nat) (K : cS) : Nat → Nat → Option Nat → Int32 → cS → Option cS
  | 0, _, _, _, _ => none
  | k + 1, y0, y1, y2, S => x_P_putAll_2F N b0 K  (x_P_putAll_2 N b0 K  k) y0 y1 y2 S
set_option maxRecDepth 100000 in
set_option maxHeartbeats 4000000 in
theorem w_P_putAll_2F {K2 : Nat → Option Nat → Int32 → cS → Option cS} {y0 : Nat} {y1 : Option Nat} {y2 : Int32} {S : cS} (hK2 : ∀ (y0 : Nat) (y1 : Option Nat) (y2 : Int32) (S : cS) (ls : Array Slot) (H : Heap) (locs : List Loc), lx ls [some (.ref y0), some (va_rf y1), some (.int y2)] → AI D vwCl b0 (cH dA b0 S hp0) sz s.heap H locs → K2 y0 y1 y2 S = some S' → W p l e { frames := 7, cells := 0, slots := 0, locals := 205 } s m args below meth c H locs 0 0 (MQ below (CQ D vwCl b0 none (cH dA b0 S' hp0) sz) args s 0 0 (fun q => b0 ≤ q)) (F0 m 2 ls [])) (B : BX p m c cb_P_putAll 3 s args (.code y_P_putAll cb_P_putAll 3 none :: wsA) RZ5 meth none D vwCl (tyL dA) b0 Z) (hR : CR b0 K Z) (hl : lx ls [some (.ref y0), some (va_rf y1), some (.int y2)]) (I : AI D vwCl b0 (cH dA b0 S hp0) sz s.heap H locs)  (hm : x_P_putAll_2F N b0 K  K2 y0 y1 y2 S = some S') : W p l e { frames := 7, cells := 0, slots := 0, locals := 205 } s m args below meth c H locs 0 0 (MQ below (CQ D vwCl b0 none (cH dA b0 S' hp0) sz) args s 0 0 (fun q => b0 ≤ q)) (F0 m 2 ls []) := by
  obtain ⟨hx, hb, -⟩ := B.1
  unfold x_P_putAll_2F at hm
  refine lv_iload_n (pc := 2) (i := 2) hx hb d_P_putAll_2 rfl (lx_get hl rfl) ?_
  refine q_aload_n (pc := 3) (i := 1) (v := va_rf y1) hx hb d_P_putAll_3 rfl (va_rf_isRef _) (lx_get hl rfl) ?_
  refine ob1 hm (fun a1 e2 hm => ?_)
  have hm_3 := hm; have hl_3 := hl; have I_3 := I
  subst e2
  have hm := hm_3; have hl := hl_3; have I := I_3
  refine oifk hm (fun hk hm => ?_)
  refine ob1 hm (fun x5 e4 hm => ?_)
  refine k_callV (pc := 4) (As := []) (rest := [.int y2]) (b := a1) B hR hl rfl I (c_Str_length hR e4) kw_P_102 (by decide) hk rfl (Nat.le_of_ble_eq_true rfl) (Nat.le_of_ble_eq_true rfl) rfl (by simp [cat_i, cat_r, cat_l, va_rf_cat]) d_P_putAll_4 (Nat.le_refl _) (Nat.le_refl _) (fun H locs I => ?_)
  refine lv_icmp_ge (pc := 7) (tgt := 25) hx hb d_P_putAll_7 (by decide) (fun hcc => ?_) (fun hcc => ?_)
  · have hm := ift hcc hm
    cases hm
    exact q_vret (pc := 25) B I rfl d_P_putAll_25
  · have hm := iff' hcc hm
    refine q_aload_n (pc := 10) (i := 0) (v := .ref y0) hx hb d_P_putAll_10 rfl rfl (lx_get hl rfl) ?_
    refine q_aload_n (pc := 11) (i := 1) (v := .ref a1) hx hb d_P_putAll_11 rfl rfl (lx_get hl rfl) ?_
    refine lv_iload_n (pc := 12) (i := 2) hx hb d_P_putAll_12 rfl (lx_get hl rfl) ?_
    refine oifk hm (fun hk hm => ?_)
    refine ob1 hm (fun x7 e6 hm => ?_)
    refine k_callV (pc := 13) (As := [.int y2]) (rest := [.ref y0]) (b := a1) B hR hl rfl I (c_Str_charAt hR e6) kw_P_106 (by decide) hk rfl (Nat.le_of_ble_eq_true rfl) (Nat.le_of_ble_eq_true rfl) rfl (by simp [cat_i, cat_r, cat_l, va_rf_cat]) d_P_putAll_13 (Nat.le_refl _) (Nat.le_refl _) (fun H locs I => ?_)
    refine oifk hm (fun hk hm => ?_)
    refine ob1 hm (fun S9 e8 hm => ?_)
    refine k_callV (pc := 16) (As := [.int x7]) (rest := []) (b := y0) B hR hl rfl I (c_P_put hR e8) kw_P_50 (by decide) hk rfl (Nat.le_of_ble_eq_true rfl) (Nat.le_of_ble_eq_true rfl) rfl (by simp [cat_i, cat_r, cat_l, va_rf_cat]) d_P_putAll_16 (Nat.le_refl _) (Nat.le_refl _) (fun H locs I => ?_)
    refine q_iinc (pc := 19) (i := 2) (v := y2 + 1) (lo' := [some (.ref y0), some (.ref a1), some (.int (y2 + 1))]) hx hb d_P_putAll_19 hl rfl rfl (Nat.le_of_ble_eq_true rfl) (lx_cr rfl) rfl (fun ls hl => ?_)
    refine lv_goto (pc := 22) (tgt := 2) hx hb d_P_putAll_22 (by decide) ?_
    exact hK2 y0 (some a1) (y2 + 1) S9 _ _ _ hl I hm
set_option maxRecDepth 100000 in
set_option maxHeartbeats 4000000 in
theorem w_P_putAll_2i (B : BX p m c cb_P_putAll 3 s args (.code y_P_putAll cb_P_putAll 3 none :: wsA) RZ5 meth none D vwCl (tyL dA) b0 Z) (hR : CR b0 K Z) (k : Nat) (y0 : Nat) (y1 : Option Nat) (y2 : Int32) (S : cS) (ls : Array Slot) (H : Heap) (locs : List Loc) (hl : lx ls [some (.ref y0), some (va_rf y1), some (.int y2)]) (I : AI D vwCl b0 (cH dA b0 S hp0) sz s.heap H locs)  (hm : x_P_putAll_2 N b0 K  k y0 y1 y2 S = some S') : W p l e { frames := 7, cells := 0, slots := 0, locals := 205 } s m args below meth c H locs 0 0 (MQ below (CQ D vwCl b0 none (cH dA b0 S' hp0) sz) args s 0 0 (fun q => b0 ≤ q)) (F0 m 2 ls []) := by
  induction k generalizing y0 y1 y2 S ls H locs with
  | zero => cases hm
  | succ k ih => exact w_P_putAll_2F  (fun y0 y1 y2 S ls H locs hl I hm => ih y0 y1 y2 S ls H locs hl I hm) B hR hl I hm
theorem w_P_putAll_2 {y0 : Nat} {y1 : Option Nat} {y2 : Int32} {S : cS} (B : BX p m c cb_P_putAll 3 s args (.code y_P_putAll cb_P_putAll 3 none :: wsA) RZ5 meth none D vwCl (tyL dA) b0 Z) (hR : CR b0 K Z) (hl : lx ls [some (.ref y0), some (va_rf y1), some (.int y2)]) (I : AI D vwCl b0 (cH dA b0 S hp0) sz s.heap H locs)  {k : Nat} (hm : x_P_putAll_2 N b0 K  k y0 y1 y2 S = some S') : W p l e { frames := 7, cells := 0, slots := 0, locals := 205 } s m args below meth c H locs 0 0 (MQ below (CQ D vwCl b0 none (cH dA b0 S' hp0) sz) args s 0 0 (fun q => b0 ≤ q)) (F0 m 2 ls []) := w_P_putAll_2i  B hR k _ _ _ S ls H locs hl I hm
def x_P_putAll (N b0 : Nat) (K : cS) (p0 : Nat) (p1 : Option Nat) (S : cS) : Option cS :=
  x_P_putAll_2 N b0 K  N p0 p1 0 S
set_option maxRecDepth 100000 in
set_option maxHeartbeats 4000000 in
theorem c_P_putAll {p0 : Nat} {p1 : Option Nat} {S S' : cS} (hR : CR b0 K Z) (hm : x_P_putAll N b0 K p0 p1 S = some S') : Ct l D vwCl (tyL dA) b0 Z y_P_putAll (.code y_P_putAll cb_P_putAll 3 none :: wsA) 7 205 [.ref p0, va_rf p1] (cH dA b0 S hp0) sz none (cH dA b0 S' hp0) 0 0 := by
  refine ct_ofF (cc := cb_P_putAll) (maxL := 3) (ret := none) (lo0 := [some (.ref p0), some (va_rf p1), none]) hR.1 (by decide +kernel) rfl (by simp [lg_sl, cat_i, cat_r, cat_l, va_rf_cat]) rfl (by simp [lx_all, lv_args, cat_i, cat_r, cat_l, va_rf_cat]) ?_
  intro p e s m args below meth c ls B hnm hl I
  obtain ⟨hx, hb, -⟩ := B.1
  unfold x_P_putAll at hm
  refine lv_iconst (pc := 0) (v := 0) hx hb d_P_putAll_0 (by decide) ?_
  refine q_istore_n (pc := 1) (i := 2) (lo' := [some (.ref p0), some (va_rf p1), some (.int 0)]) hx hb d_P_putAll_1 rfl hl (Nat.le_of_ble_eq_true rfl) (lx_cq rfl) rfl (fun ls hl => ?_)
  exact w_P_putAll_2 (y0 := p0) (y1 := p1) (y2 := 0)  B hR hl I hm
def x_P_putQuoted_75 (N b0 : Nat) (K : cS) (K8 : Nat → Option Nat → Int32 → cS → Option cS) (y0 : Nat) (y1 : Nat) (y2 : Int32) (S : cS) : Option cS :=
  K8 y0 (some y1) (y2 + 1) S
set_option maxRecDepth 100000 in
set_option maxHeartbeats 4000000 in
theorem w_P_putQuoted_75 {K8 : Nat → Option Nat → Int32 → cS → Option cS} {y0 : Nat} {y1 : Nat} {y2 : Int32} {S : cS} (hK8 : ∀ (y0 : Nat) (y1 : Option Nat) (y2 : Int32) (S : cS) (ls : Array Slot) (H : Heap) (locs : List Loc), lx ls [some (.ref y0), some (va_rf y1), some (.int y2), none] → AI D vwCl b0 (cH dA b0 S hp0) sz s.heap H locs → K8 y0 y1 y2 S = some S' → W p l e { frames := 8, cells := 0, slots := 0, locals := 227 } s m args below meth c H locs 0 0 (MQ below (CQ D vwCl b0 none (cH dA b0 S' hp0) sz) args s 0 0 (fun q => b0 ≤ q)) (F0 m 8 ls [])) (B : BX p m c cb_P_putQuoted 4 s args (.code y_P_putQuoted cb_P_putQuoted 4 none :: wsA) RZ5 meth none D vwCl (tyL dA) b0 Z) (hR : CR b0 K Z) (hl : lx ls [some (.ref y0), some (.ref y1), some (.int y2), none]) (I : AI D vwCl b0 (cH dA b0 S hp0) sz s.heap H locs)  (hm : x_P_putQuoted_75 N b0 K K8 y0 y1 y2 S = some S') : W p l e { frames := 8, cells := 0, slots := 0, locals := 227 } s m args below meth c H locs 0 0 (MQ below (CQ D vwCl b0 none (cH dA b0 S' hp0) sz) args s 0 0 (fun q => b0 ≤ q)) (F0 m 75 ls []) := by
  obtain ⟨hx, hb, -⟩ := B.1
  unfold x_P_putQuoted_75 at hm
  refine q_iinc (pc := 75) (i := 2) (v := y2 + 1) (lo' := [some (.ref y0), some (.ref y1), some (.int (y2 + 1)), none]) hx hb d_P_putQuoted_75 hl rfl rfl (Nat.le_of_ble_eq_true rfl) (lx_cr rfl) rfl (fun ls hl => ?_)
  refine lv_goto (pc := 78) (tgt := 8) hx hb d_P_putQuoted_78 (by decide) ?_
  exact hK8 y0 (some y1) (y2 + 1) S _ _ _ hl I hm
def x_P_putQuoted_70 (N b0 : Nat) (K : cS) (K8 : Nat → Option Nat → Int32 → cS → Option cS) (y0 : Nat) (y1 : Nat) (y2 : Int32) (y3 : Int32) (S : cS) : Option cS :=
  ifk b0 K S 5 y0 (b1 (x_P_put N b0 K y0 y3 S) (fun S2 => x_P_putQuoted_75 N b0 K K8 y0 y1 y2 S2))
set_option maxRecDepth 100000 in
set_option maxHeartbeats 4000000 in
theorem w_P_putQuoted_70 {K8 : Nat → Option Nat → Int32 → cS → Option cS} {y0 : Nat} {y1 : Nat} {y2 : Int32} {y3 : Int32} {S : cS} (hK8 : ∀ (y0 : Nat) (y1 : Option Nat) (y2 : Int32) (S : cS) (ls : Array Slot) (H : Heap) (locs : List Loc), lx ls [some (.ref y0), some (va_rf y1), some (.int y2), none] → AI D vwCl b0 (cH dA b0 S hp0) sz s.heap H locs → K8 y0 y1 y2 S = some S' → W p l e { frames := 8, cells := 0, slots := 0, locals := 227 } s m args below meth c H locs 0 0 (MQ below (CQ D vwCl b0 none (cH dA b0 S' hp0) sz) args s 0 0 (fun q => b0 ≤ q)) (F0 m 8 ls [])) (B : BX p m c cb_P_putQuoted 4 s args (.code y_P_putQuoted cb_P_putQuoted 4 none :: wsA) RZ5 meth none D vwCl (tyL dA) b0 Z) (hR : CR b0 K Z) (hl : lx ls [some (.ref y0), some (.ref y1), some (.int y2), some (.int y3)]) (I : AI D vwCl b0 (cH dA b0 S hp0) sz s.heap H locs)  (hm : x_P_putQuoted_70 N b0 K K8 y0 y1 y2 y3 S = some S') : W p l e { frames := 8, cells := 0, slots := 0, locals := 227 } s m args below meth c H locs 0 0 (MQ below (CQ D vwCl b0 none (cH dA b0 S' hp0) sz) args s 0 0 (fun q => b0 ≤ q)) (F0 m 70 ls []) := by
  obtain ⟨hx, hb, -⟩ := B.1
  unfold x_P_putQuoted_70 at hm
  refine q_aload_n (pc := 70) (i := 0) (v := .ref y0) hx hb d_P_putQuoted_70 rfl rfl (lx_get hl rfl) ?_
  refine lv_iload_n (pc := 71) (i := 3) hx hb d_P_putQuoted_71 rfl (lx_get hl rfl) ?_
  refine oifk hm (fun hk hm => ?_)
  refine ob1 hm (fun S2 e1 hm => ?_)
  refine k_callV (pc := 72) (As := [.int y3]) (rest := []) (b := y0) B hR hl rfl I (c_P_put hR e1) kw_P_50 (by decide) hk rfl (Nat.le_of_ble_eq_true rfl) (Nat.le_of_ble_eq_true rfl) rfl (by simp [cat_i, cat_r, cat_l, va_rf_cat]) d_P_putQuoted_72 (Nat.le_refl _) (Nat.le_refl _) (fun H locs I => ?_)
  exact w_P_putQuoted_75 (y0 := y0) (y1 := y1) (y2 := y2) hK8 B hR (lx_sub (lo' := [some (.ref y0), some (.ref y1), some (.int y2), none]) hl (by simp [lx_le])) I hm
def x_P_putQuoted_64 (N b0 : Nat) (K : cS) (K8 : Nat → Option Nat → Int32 → cS → Option cS) (y0 : Nat) (y1 : Nat) (y2 : Int32) (y3 : Int32) (S : cS) : Option cS :=
  ifk b0 K S 5 y0 (b1 (x_P_put N b0 K y0 92 S) (fun S2 => x_P_putQuoted_70 N b0 K K8 y0 y1 y2 y3 S2))
set_option maxRecDepth 100000 in
set_option maxHeartbeats 4000000 in
theorem w_P_putQuoted_64 {K8 : Nat → Option Nat → Int32 → cS → Option cS} {y0 : Nat} {y1 : Nat} {y2 : Int32} {y3 : Int32} {S : cS} (hK8 : ∀ (y0 : Nat) (y1 : Option Nat) (y2 : Int32) (S : cS) (ls : Array Slot) (H : Heap) (locs : List Loc), lx ls [some (.ref y0), some (va_rf y1), some (.int y2), none] → AI D vwCl b0 (cH dA b0 S hp0) sz s.heap H locs → K8 y0 y1 y2 S = some S' → W p l e { frames := 8, cells := 0, slots := 0, locals := 227 } s m args below meth c H locs 0 0 (MQ below (CQ D vwCl b0 none (cH dA b0 S' hp0) sz) args s 0 0 (fun q => b0 ≤ q)) (F0 m 8 ls [])) (B : BX p m c cb_P_putQuoted 4 s args (.code y_P_putQuoted cb_P_putQuoted 4 none :: wsA) RZ5 meth none D vwCl (tyL dA) b0 Z) (hR : CR b0 K Z) (hl : lx ls [some (.ref y0), some (.ref y1), some (.int y2), some (.int y3)]) (I : AI D vwCl b0 (cH dA b0 S hp0) sz s.heap H locs)  (hm : x_P_putQuoted_64 N b0 K K8 y0 y1 y2 y3 S = some S') : W p l e { frames := 8, cells := 0, slots := 0, locals := 227 } s m args below meth c H locs 0 0 (MQ below (CQ D vwCl b0 none (cH dA b0 S' hp0) sz) args s 0 0 (fun q => b0 ≤ q)) (F0 m 64 ls []) := by
  obtain ⟨hx, hb, -⟩ := B.1
  unfold x_P_putQuoted_64 at hm
  refine q_aload_n (pc := 64) (i := 0) (v := .ref y0) hx hb d_P_putQuoted_64 rfl rfl (lx_get hl rfl) ?_
  refine lv_bipush (pc := 65) (v := 92) hx hb d_P_putQuoted_65 (by decide) ?_
  refine oifk hm (fun hk hm => ?_)
  refine ob1 hm (fun S2 e1 hm => ?_)
  refine k_callV (pc := 67) (As := [.int 92]) (rest := []) (b := y0) B hR hl rfl I (c_P_put hR e1) kw_P_50 (by decide) hk rfl (Nat.le_of_ble_eq_true rfl) (Nat.le_of_ble_eq_true rfl) rfl (by simp [cat_i, cat_r, cat_l, va_rf_cat]) d_P_putQuoted_67 (Nat.le_refl _) (Nat.le_refl _) (fun H locs I => ?_)
  exact w_P_putQuoted_70 (y0 := y0) (y1 := y1) (y2 := y2) (y3 := y3) hK8 B hR hl I hm
def x_P_putQuoted_8F (N b0 : Nat) (K : cS) (K8 : Nat → Option Nat → Int32 → cS → Option cS) (y0 : Nat) (y1 : Option Nat) (y2 : Int32) (S : cS) : Option cS :=
  b1 y1 (fun a1 => ifk b0 K S 6 a1 (b1 (x_Str_length N b0 K a1 S) (fun x5 => if x5 ≤ y2 then (ifk b0 K S 5 y0 (b1 (x_P_put N b0 K y0 34 S) (fun S7 => some S7))) else (ifk b0 K S 6 a1 (b1 (x_Str_charAt N b0 K a1 y2 S) (fun x9 => if x9 = 10 then (b1 (K.2.2.2 0 3) (fun a14 => ifk b0 K S 5 y0 (b1 (x_P_putAll N b0 K y0 (some a14) S) (fun S17 => x_P_putQuoted_75 N b0 K K8 y0 a1 y2 S17)))) else (if x9 = 9 then (b1 (K.2.2.2 0 4) (fun a10 => ifk b0 K S 5 y0 (b1 (x_P_putAll N b0 K y0 (some a10) S) (fun S13 => x_P_putQuoted_75 N b0 K K8 y0 a1 y2 S13)))) else (if x9 = 34 then (x_P_putQuoted_64 N b0 K K8 y0 a1 y2 x9 S) else (if x9 = 92 then (x_P_putQuoted_64 N b0 K K8 y0 a1 y2 x9 S) else (x_P_putQuoted_70 N b0 K K8 y0 a1 y2 x9 S))))))))))
def x_P_putQuoted_8 (N b0 : Nat) (K : cS) : Nat → Nat → Option Nat → Int32 → cS → Option cS
  | 0, _, _, _, _ => none
  | k + 1, y0, y1, y2, S => x_P_putQuoted_8F N b0 K  (x_P_putQuoted_8 N b0 K  k) y0 y1 y2 S
set_option maxRecDepth 100000 in
set_option maxHeartbeats 4000000 in
theorem w_P_putQuoted_8F {K8 : Nat → Option Nat → Int32 → cS → Option cS} {y0 : Nat} {y1 : Option Nat} {y2 : Int32} {S : cS} (hK8 : ∀ (y0 : Nat) (y1 : Option Nat) (y2 : Int32) (S : cS) (ls : Array Slot) (H : Heap) (locs : List Loc), lx ls [some (.ref y0), some (va_rf y1), some (.int y2), none] → AI D vwCl b0 (cH dA b0 S hp0) sz s.heap H locs → K8 y0 y1 y2 S = some S' → W p l e { frames := 8, cells := 0, slots := 0, locals := 227 } s m args below meth c H locs 0 0 (MQ below (CQ D vwCl b0 none (cH dA b0 S' hp0) sz) args s 0 0 (fun q => b0 ≤ q)) (F0 m 8 ls [])) (B : BX p m c cb_P_putQuoted 4 s args (.code y_P_putQuoted cb_P_putQuoted 4 none :: wsA) RZ5 meth none D vwCl (tyL dA) b0 Z) (hR : CR b0 K Z) (hl : lx ls [some (.ref y0), some (va_rf y1), some (.int y2), none]) (I : AI D vwCl b0 (cH dA b0 S hp0) sz s.heap H locs)  (hm : x_P_putQuoted_8F N b0 K  K8 y0 y1 y2 S = some S') : W p l e { frames := 8, cells := 0, slots := 0, locals := 227 } s m args below meth c H locs 0 0 (MQ below (CQ D vwCl b0 none (cH dA b0 S' hp0) sz) args s 0 0 (fun q => b0 ≤ q)) (F0 m 8 ls []) := by
  obtain ⟨hx, hb, -⟩ := B.1
  unfold x_P_putQuoted_8F at hm
  refine lv_iload_n (pc := 8) (i := 2) hx hb d_P_putQuoted_8 rfl (lx_get hl rfl) ?_
  refine q_aload_n (pc := 9) (i := 1) (v := va_rf y1) hx hb d_P_putQuoted_9 rfl (va_rf_isRef _) (lx_get hl rfl) ?_
  refine ob1 hm (fun a1 e2 hm => ?_)
  have hm_3 := hm; have hl_3 := hl; have I_3 := I
  subst e2
  have hm := hm_3; have hl := hl_3; have I := I_3
  refine oifk hm (fun hk hm => ?_)
  refine ob1 hm (fun x5 e4 hm => ?_)
  refine k_callV (pc := 10) (As := []) (rest := [.int y2]) (b := a1) B hR hl rfl I (c_Str_length hR e4) kw_P_102 (by decide) hk rfl (Nat.le_of_ble_eq_true rfl) (Nat.le_of_ble_eq_true rfl) rfl (by simp [cat_i, cat_r, cat_l, va_rf_cat]) d_P_putQuoted_10 (Nat.le_refl _) (Nat.le_refl _) (fun H locs I => ?_)
  refine lv_icmp_ge (pc := 13) (tgt := 81) hx hb d_P_putQuoted_13 (by decide) (fun hcc => ?_) (fun hcc => ?_)
  · have hm := ift hcc hm
    refine q_aload_n (pc := 81) (i := 0) (v := .ref y0) hx hb d_P_putQuoted_81 rfl rfl (lx_get hl rfl) ?_
    refine lv_bipush (pc := 82) (v := 34) hx hb d_P_putQuoted_82 (by decide) ?_
    refine oifk hm (fun hk hm => ?_)
    refine ob1 hm (fun S7 e6 hm => ?_)
    refine k_callV (pc := 84) (As := [.int 34]) (rest := []) (b := y0) B hR hl rfl I (c_P_put hR e6) kw_P_50 (by decide) hk rfl (Nat.le_of_ble_eq_true rfl) (Nat.le_of_ble_eq_true rfl) rfl (by simp [cat_i, cat_r, cat_l, va_rf_cat]) d_P_putQuoted_84 (Nat.le_refl _) (Nat.le_refl _) (fun H locs I => ?_)
    cases hm
    exact q_vret (pc := 87) B I rfl d_P_putQuoted_87
  · have hm := iff' hcc hm
    refine q_aload_n (pc := 16) (i := 1) (v := .ref a1) hx hb d_P_putQuoted_16 rfl rfl (lx_get hl rfl) ?_
    refine lv_iload_n (pc := 17) (i := 2) hx hb d_P_putQuoted_17 rfl (lx_get hl rfl) ?_
    refine oifk hm (fun hk hm => ?_)
    refine ob1 hm (fun x9 e8 hm => ?_)
    refine k_callV (pc := 18) (As := [.int y2]) (rest := []) (b := a1) B hR hl rfl I (c_Str_charAt hR e8) kw_P_106 (by decide) hk rfl (Nat.le_of_ble_eq_true rfl) (Nat.le_of_ble_eq_true rfl) rfl (by simp [cat_i, cat_r, cat_l, va_rf_cat]) d_P_putQuoted_18 (Nat.le_refl _) (Nat.le_refl _) (fun H locs I => ?_)
    refine q_istore_n (pc := 21) (i := 3) (lo' := [some (.ref y0), some (.ref a1), some (.int y2), some (.int x9)]) hx hb d_P_putQuoted_21 rfl hl (Nat.le_of_ble_eq_true rfl) (lx_ci rfl) rfl (fun ls hl => ?_)
    refine lv_iload_n (pc := 22) (i := 3) hx hb d_P_putQuoted_22 rfl (lx_get hl rfl) ?_
    refine lv_bipush (pc := 23) (v := 10) hx hb d_P_putQuoted_23 (by decide) ?_
    refine lv_icmp_ne (pc := 25) (tgt := 37) hx hb d_P_putQuoted_25 (by decide) (fun hcc => ?_) (fun hcc => ?_)
    · have hm := iff' hcc hm
      refine lv_iload_n (pc := 37) (i := 3) hx hb d_P_putQuoted_37 rfl (lx_get hl rfl) ?_
      refine lv_bipush (pc := 38) (v := 9) hx hb d_P_putQuoted_38 (by decide) ?_
      refine lv_icmp_ne (pc := 40) (tgt := 52) hx hb d_P_putQuoted_40 (by decide) (fun hcc => ?_) (fun hcc => ?_)
      · have hm := iff' hcc hm
        refine lv_iload_n (pc := 52) (i := 3) hx hb d_P_putQuoted_52 rfl (lx_get hl rfl) ?_
        refine lv_bipush (pc := 53) (v := 34) hx hb d_P_putQuoted_53 (by decide) ?_
        refine lv_icmp_eq (pc := 55) (tgt := 64) hx hb d_P_putQuoted_55 (by decide) (fun hcc => ?_) (fun hcc => ?_)
        · have hm := ift hcc hm
          exact w_P_putQuoted_64 (y0 := y0) (y1 := a1) (y2 := y2) (y3 := x9) hK8 B hR hl I hm
        · have hm := iff' hcc hm
          refine lv_iload_n (pc := 58) (i := 3) hx hb d_P_putQuoted_58 rfl (lx_get hl rfl) ?_
          refine lv_bipush (pc := 59) (v := 92) hx hb d_P_putQuoted_59 (by decide) ?_
          refine lv_icmp_ne (pc := 61) (tgt := 70) hx hb d_P_putQuoted_61 (by decide) (fun hcc => ?_) (fun hcc => ?_)
          · have hm := iff' hcc hm
            exact w_P_putQuoted_70 (y0 := y0) (y1 := a1) (y2 := y2) (y3 := x9) hK8 B hR hl I hm
          · have hm := ift hcc hm
            exact w_P_putQuoted_64 (y0 := y0) (y1 := a1) (y2 := y2) (y3 := x9) hK8 B hR hl I hm
      · have hm := ift hcc hm
        refine q_aload_n (pc := 43) (i := 0) (v := .ref y0) hx hb d_P_putQuoted_43 rfl rfl (lx_get hl rfl) ?_
        refine ob1 hm (fun a10 e11 hm => ?_)
        refine k_ldc (pc := 44) (j := 3) B hR rfl e11 d_P_putQuoted_44 ?_
        refine oifk hm (fun hk hm => ?_)
        refine ob1 hm (fun S13 e12 hm => ?_)
        refine k_callV (pc := 46) (As := [va_rf (some a10)]) (rest := []) (b := y0) B hR hl rfl I (c_P_putAll hR e12) kw_P_43 (by decide) hk rfl (Nat.le_of_ble_eq_true rfl) (Nat.le_of_ble_eq_true rfl) rfl (by simp [cat_i, cat_r, cat_l, va_rf_cat]) d_P_putQuoted_46 (Nat.le_refl _) (Nat.le_refl _) (fun H locs I => ?_)
        refine lv_goto (pc := 49) (tgt := 75) hx hb d_P_putQuoted_49 (by decide) ?_
        exact w_P_putQuoted_75 (y0 := y0) (y1 := a1) (y2 := y2) hK8 B hR (lx_sub (lo' := [some (.ref y0), some (.ref a1), some (.int y2), none]) hl (by simp [lx_le])) I hm
    · have hm := ift hcc hm
      refine q_aload_n (pc := 28) (i := 0) (v := .ref y0) hx hb d_P_putQuoted_28 rfl rfl (lx_get hl rfl) ?_
      refine ob1 hm (fun a14 e15 hm => ?_)
      refine k_ldc (pc := 29) (j := 2) B hR rfl e15 d_P_putQuoted_29 ?_
      refine oifk hm (fun hk hm => ?_)
      refine ob1 hm (fun S17 e16 hm => ?_)
      refine k_callV (pc := 31) (As := [va_rf (some a14)]) (rest := []) (b := y0) B hR hl rfl I (c_P_putAll hR e16) kw_P_43 (by decide) hk rfl (Nat.le_of_ble_eq_true rfl) (Nat.le_of_ble_eq_true rfl) rfl (by simp [cat_i, cat_r, cat_l, va_rf_cat]) d_P_putQuoted_31 (Nat.le_refl _) (Nat.le_refl _) (fun H locs I => ?_)
      refine lv_goto (pc := 34) (tgt := 75) hx hb d_P_putQuoted_34 (by decide) ?_
      exact w_P_putQuoted_75 (y0 := y0) (y1 := a1) (y2 := y2) hK8 B hR (lx_sub (lo' := [some (.ref y0), some (.ref a1), some (.int y2), none]) hl (by simp [lx_le])) I hm
set_option maxRecDepth 100000 in
set_option maxHeartbeats 4000000 in
theorem w_P_putQuoted_8i (B : BX p m c cb_P_putQuoted 4 s args (.code y_P_putQuoted cb_P_putQuoted 4 none :: wsA) RZ5 meth none D vwCl (tyL dA) b0 Z) (hR : CR b0 K Z) (k : Nat) (y0 : Nat) (y1 : Option Nat) (y2 : Int32) (S : cS) (ls : Array Slot) (H : Heap) (locs : List Loc) (hl : lx ls [some (.ref y0), some (va_rf y1), some (.int y2), none]) (I : AI D vwCl b0 (cH dA b0 S hp0) sz s.heap H locs)  (hm : x_P_putQuoted_8 N b0 K  k y0 y1 y2 S = some S') : W p l e { frames := 8, cells := 0, slots := 0, locals := 227 } s m args below meth c H locs 0 0 (MQ below (CQ D vwCl b0 none (cH dA b0 S' hp0) sz) args s 0 0 (fun q => b0 ≤ q)) (F0 m 8 ls []) := by
  induction k generalizing y0 y1 y2 S ls H locs with
  | zero => cases hm
  | succ k ih => exact w_P_putQuoted_8F  (fun y0 y1 y2 S ls H locs hl I hm => ih y0 y1 y2 S ls H locs hl I hm) B hR hl I hm
theorem w_P_putQuoted_8 {y0 : Nat} {y1 : Option Nat} {y2 : Int32} {S : cS} (B : BX p m c cb_P_putQuoted 4 s args (.code y_P_putQuoted cb_P_putQuoted 4 none :: wsA) RZ5 meth none D vwCl (tyL dA) b0 Z) (hR : CR b0 K Z) (hl : lx ls [some (.ref y0), some (va_rf y1), some (.int y2), none]) (I : AI D vwCl b0 (cH dA b0 S hp0) sz s.heap H locs)  {k : Nat} (hm : x_P_putQuoted_8 N b0 K  k y0 y1 y2 S = some S') : W p l e { frames := 8, cells := 0, slots := 0, locals := 227 } s m args below meth c H locs 0 0 (MQ below (CQ D vwCl b0 none (cH dA b0 S' hp0) sz) args s 0 0 (fun q => b0 ≤ q)) (F0 m 8 ls []) := w_P_putQuoted_8i  B hR k _ _ _ S ls H locs hl I hm
def x_P_putQuoted (N b0 : Nat) (K : cS) (p0 : Nat) (p1 : Option Nat) (S : cS) : Option cS :=
  ifk b0 K S 5 p0 (b1 (x_P_put N b0 K p0 34 S) (fun S2 => x_P_putQuoted_8 N b0 K  N p0 p1 0 S2))
set_option maxRecDepth 100000 in
set_option maxHeartbeats 4000000 in
theorem c_P_putQuoted {p0 : Nat} {p1 : Option Nat} {S S' : cS} (hR : CR b0 K Z) (hm : x_P_putQuoted N b0 K p0 p1 S = some S') : Ct l D vwCl (tyL dA) b0 Z y_P_putQuoted (.code y_P_putQuoted cb_P_putQuoted 4 none :: wsA) 8 227 [.ref p0, va_rf p1] (cH dA b0 S hp0) sz none (cH dA b0 S' hp0) 0 0 := by
  refine ct_ofF (cc := cb_P_putQuoted) (maxL := 4) (ret := none) (lo0 := [some (.ref p0), some (va_rf p1), none, none]) hR.1 (by decide +kernel) rfl (by simp [lg_sl, cat_i, cat_r, cat_l, va_rf_cat]) rfl (by simp [lx_all, lv_args, cat_i, cat_r, cat_l, va_rf_cat]) ?_
  intro p e s m args below meth c ls B hnm hl I
  obtain ⟨hx, hb, -⟩ := B.1
  unfold x_P_putQuoted at hm
  refine q_aload_n (pc := 0) (i := 0) (v := .ref p0) hx hb d_P_putQuoted_0 rfl rfl (lx_get hl rfl) ?_
  refine lv_bipush (pc := 1) (v := 34) hx hb d_P_putQuoted_1 (by decide) ?_
  refine oifk hm (fun hk hm => ?_)
  refine ob1 hm (fun S2 e1 hm => ?_)
  refine k_callV (pc := 3) (As := [.int 34]) (rest := []) (b := p0) B hR hl rfl I (c_P_put hR e1) kw_P_50 (by decide) hk rfl (Nat.le_of_ble_eq_true rfl) (Nat.le_of_ble_eq_true rfl) rfl (by simp [cat_i, cat_r, cat_l, va_rf_cat]) d_P_putQuoted_3 (Nat.le_refl _) (Nat.le_refl _) (fun H locs I => ?_)
  refine lv_iconst (pc := 6) (v := 0) hx hb d_P_putQuoted_6 (by decide) ?_
  refine q_istore_n (pc := 7) (i := 2) (lo' := [some (.ref p0), some (va_rf p1), some (.int 0), none]) hx hb d_P_putQuoted_7 rfl hl (Nat.le_of_ble_eq_true rfl) (lx_cq rfl) rfl (fun ls hl => ?_)
  exact w_P_putQuoted_8 (y0 := p0) (y1 := p1) (y2 := 0)  B hR hl I hm
def x_P_putName_43 (N b0 : Nat) (K : cS) (K15 : Nat → Nat → Int32 → Int32 → cS → Option cS) (y0 : Nat) (y1 : Nat) (y3 : Int32) (z0 : Int32) (S : cS) : Option cS :=
  K15 y0 y1 z0 (y3 + 1) S
set_option maxRecDepth 100000 in
set_option maxHeartbeats 4000000 in
theorem w_P_putName_43 {K15 : Nat → Nat → Int32 → Int32 → cS → Option cS} {y0 : Nat} {y1 : Nat} {y3 : Int32} {z0 : Int32} {S : cS} (hK15 : ∀ (y0 : Nat) (y1 : Nat) (y2 : Int32) (y3 : Int32) (S : cS) (ls : Array Slot) (H : Heap) (locs : List Loc), lx ls [some (.ref y0), some (.ref y1), some (.int y2), some (.int y3)] → AI D vwCl b0 (cH dA b0 S hp0) sz s.heap H locs → K15 y0 y1 y2 y3 S = some S' → W p l e { frames := 9, cells := 0, slots := 0, locals := 250 } s m args below meth c H locs 0 0 (MQ below (CQ D vwCl b0 none (cH dA b0 S' hp0) sz) args s 0 0 (fun q => b0 ≤ q)) (F0 m 15 ls [])) (B : BX p m c cb_P_putName 4 s args (.code y_P_putName cb_P_putName 4 none :: wsA) RZ5 meth none D vwCl (tyL dA) b0 Z) (hR : CR b0 K Z) (hl : lx ls [some (.ref y0), some (.ref y1), none, some (.int y3)]) (I : AI D vwCl b0 (cH dA b0 S hp0) sz s.heap H locs)  (hm : x_P_putName_43 N b0 K K15 y0 y1 y3 z0 S = some S') : W p l e { frames := 9, cells := 0, slots := 0, locals := 250 } s m args below meth c H locs 0 0 (MQ below (CQ D vwCl b0 none (cH dA b0 S' hp0) sz) args s 0 0 (fun q => b0 ≤ q)) (F0 m 43 ls [.int z0]) := by
  obtain ⟨hx, hb, -⟩ := B.1
  unfold x_P_putName_43 at hm
  refine q_istore_n (pc := 43) (i := 2) (lo' := [some (.ref y0), some (.ref y1), some (.int z0), some (.int y3)]) hx hb d_P_putName_43 rfl hl (Nat.le_of_ble_eq_true rfl) (lx_cr rfl) rfl (fun ls hl => ?_)
  refine q_iinc (pc := 44) (i := 3) (v := y3 + 1) (lo' := [some (.ref y0), some (.ref y1), some (.int z0), some (.int (y3 + 1))]) hx hb d_P_putName_44 hl rfl rfl (Nat.le_of_ble_eq_true rfl) (lx_ci rfl) rfl (fun ls hl => ?_)
  refine lv_goto (pc := 47) (tgt := 15) hx hb d_P_putName_47 (by decide) ?_
  exact hK15 y0 y1 z0 (y3 + 1) S _ _ _ hl I hm
def x_P_putName_42 (N b0 : Nat) (K : cS) (K15 : Nat → Nat → Int32 → Int32 → cS → Option cS) (y0 : Nat) (y1 : Nat) (y3 : Int32) (S : cS) : Option cS :=
  x_P_putName_43 N b0 K K15 y0 y1 y3 0 S
set_option maxRecDepth 100000 in
set_option maxHeartbeats 4000000 in
theorem w_P_putName_42 {K15 : Nat → Nat → Int32 → Int32 → cS → Option cS} {y0 : Nat} {y1 : Nat} {y3 : Int32} {S : cS} (hK15 : ∀ (y0 : Nat) (y1 : Nat) (y2 : Int32) (y3 : Int32) (S : cS) (ls : Array Slot) (H : Heap) (locs : List Loc), lx ls [some (.ref y0), some (.ref y1), some (.int y2), some (.int y3)] → AI D vwCl b0 (cH dA b0 S hp0) sz s.heap H locs → K15 y0 y1 y2 y3 S = some S' → W p l e { frames := 9, cells := 0, slots := 0, locals := 250 } s m args below meth c H locs 0 0 (MQ below (CQ D vwCl b0 none (cH dA b0 S' hp0) sz) args s 0 0 (fun q => b0 ≤ q)) (F0 m 15 ls [])) (B : BX p m c cb_P_putName 4 s args (.code y_P_putName cb_P_putName 4 none :: wsA) RZ5 meth none D vwCl (tyL dA) b0 Z) (hR : CR b0 K Z) (hl : lx ls [some (.ref y0), some (.ref y1), none, some (.int y3)]) (I : AI D vwCl b0 (cH dA b0 S hp0) sz s.heap H locs)  (hm : x_P_putName_42 N b0 K K15 y0 y1 y3 S = some S') : W p l e { frames := 9, cells := 0, slots := 0, locals := 250 } s m args below meth c H locs 0 0 (MQ below (CQ D vwCl b0 none (cH dA b0 S' hp0) sz) args s 0 0 (fun q => b0 ≤ q)) (F0 m 42 ls []) := by
  obtain ⟨hx, hb, -⟩ := B.1
  unfold x_P_putName_42 at hm
  refine lv_iconst (pc := 42) (v := 0) hx hb d_P_putName_42 (by decide) ?_
  exact w_P_putName_43 (y0 := y0) (y1 := y1) (y3 := y3) (z0 := 0) hK15 B hR hl I hm
def x_P_putName_15F (N b0 : Nat) (K : cS) (K15 : Nat → Nat → Int32 → Int32 → cS → Option cS) (y0 : Nat) (y1 : Nat) (y2 : Int32) (y3 : Int32) (S : cS) : Option cS :=
  ifk b0 K S 6 y1 (b1 (x_Str_length N b0 K y1 S) (fun x2 => if x2 ≤ y3 then (if y2 = 0 then (ifk b0 K S 5 y0 (b1 (x_P_putQuoted N b0 K y0 (some y1) S) (fun S4 => some S4))) else (ifk b0 K S 5 y0 (b1 (x_P_putAll N b0 K y0 (some y1) S) (fun S6 => some S6)))) else (if y2 = 0 then (x_P_putName_42 N b0 K K15 y0 y1 y3 S) else (ifk b0 K S 6 y1 (b1 (x_Str_charAt N b0 K y1 y3 S) (fun x8 => b1 (x_T_isBareLetter N b0 K x8 S) (fun x10 => if x10 = 0 then (x_P_putName_42 N b0 K K15 y0 y1 y3 S) else (x_P_putName_43 N b0 K K15 y0 y1 y3 1 S))))))))
def x_P_putName_15 (N b0 : Nat) (K : cS) : Nat → Nat → Nat → Int32 → Int32 → cS → Option cS
  | 0, _, _, _, _, _ => none
  | k + 1, y0, y1, y2, y3, S => x_P_putName_15F N b0 K  (x_P_putName_15 N b0 K  k) y0 y1 y2 y3 S
set_option maxRecDepth 100000 in
set_option maxHeartbeats 4000000 in
theorem w_P_putName_15F {K15 : Nat → Nat → Int32 → Int32 → cS → Option cS} {y0 : Nat} {y1 : Nat} {y2 : Int32} {y3 : Int32} {S : cS} (hK15 : ∀ (y0 : Nat) (y1 : Nat) (y2 : Int32) (y3 : Int32) (S : cS) (ls : Array Slot) (H : Heap) (locs : List Loc), lx ls [some (.ref y0), some (.ref y1), some (.int y2), some (.int y3)] → AI D vwCl b0 (cH dA b0 S hp0) sz s.heap H locs → K15 y0 y1 y2 y3 S = some S' → W p l e { frames := 9, cells := 0, slots := 0, locals := 250 } s m args below meth c H locs 0 0 (MQ below (CQ D vwCl b0 none (cH dA b0 S' hp0) sz) args s 0 0 (fun q => b0 ≤ q)) (F0 m 15 ls [])) (B : BX p m c cb_P_putName 4 s args (.code y_P_putName cb_P_putName 4 none :: wsA) RZ5 meth none D vwCl (tyL dA) b0 Z) (hR : CR b0 K Z) (hl : lx ls [some (.ref y0), some (.ref y1), some (.int y2), some (.int y3)]) (I : AI D vwCl b0 (cH dA b0 S hp0) sz s.heap H locs)  (hm : x_P_putName_15F N b0 K  K15 y0 y1 y2 y3 S = some S') : W p l e { frames := 9, cells := 0, slots := 0, locals := 250 } s m args below meth c H locs 0 0 (MQ below (CQ D vwCl b0 none (cH dA b0 S' hp0) sz) args s 0 0 (fun q => b0 ≤ q)) (F0 m 15 ls []) := by
  obtain ⟨hx, hb, -⟩ := B.1
  unfold x_P_putName_15F at hm
  refine lv_iload_n (pc := 15) (i := 3) hx hb d_P_putName_15 rfl (lx_get hl rfl) ?_
  refine q_aload_n (pc := 16) (i := 1) (v := .ref y1) hx hb d_P_putName_16 rfl rfl (lx_get hl rfl) ?_
  refine oifk hm (fun hk hm => ?_)
  refine ob1 hm (fun x2 e1 hm => ?_)
  refine k_callV (pc := 17) (As := []) (rest := [.int y3]) (b := y1) B hR hl rfl I (c_Str_length hR e1) kw_P_102 (by decide) hk rfl (Nat.le_of_ble_eq_true rfl) (Nat.le_of_ble_eq_true rfl) rfl (by simp [cat_i, cat_r, cat_l, va_rf_cat]) d_P_putName_17 (Nat.le_refl _) (Nat.le_refl _) (fun H locs I => ?_)
  refine lv_icmp_ge (pc := 20) (tgt := 50) hx hb d_P_putName_20 (by decide) (fun hcc => ?_) (fun hcc => ?_)
  · have hm := ift hcc hm
    refine lv_iload_n (pc := 50) (i := 2) hx hb d_P_putName_50 rfl (lx_get hl rfl) ?_
    refine lv_if_eq (pc := 51) (tgt := 62) hx hb d_P_putName_51 (by decide) (fun hcc => ?_) (fun hcc => ?_)
    · have hm := ift hcc hm
      refine q_aload_n (pc := 62) (i := 0) (v := .ref y0) hx hb d_P_putName_62 rfl rfl (lx_get hl rfl) ?_
      refine q_aload_n (pc := 63) (i := 1) (v := .ref y1) hx hb d_P_putName_63 rfl rfl (lx_get hl rfl) ?_
      refine oifk hm (fun hk hm => ?_)
      refine ob1 hm (fun S4 e3 hm => ?_)
      refine k_callV (pc := 64) (As := [va_rf (some y1)]) (rest := []) (b := y0) B hR hl rfl I (c_P_putQuoted hR e3) kw_P_60 (by decide) hk rfl (Nat.le_of_ble_eq_true rfl) (Nat.le_of_ble_eq_true rfl) rfl (by simp [cat_i, cat_r, cat_l, va_rf_cat]) d_P_putName_64 (Nat.le_refl _) (Nat.le_refl _) (fun H locs I => ?_)
      cases hm
      exact q_vret (pc := 67) B I rfl d_P_putName_67
    · have hm := iff' hcc hm
      refine q_aload_n (pc := 54) (i := 0) (v := .ref y0) hx hb d_P_putName_54 rfl rfl (lx_get hl rfl) ?_
      refine q_aload_n (pc := 55) (i := 1) (v := .ref y1) hx hb d_P_putName_55 rfl rfl (lx_get hl rfl) ?_
      refine oifk hm (fun hk hm => ?_)
      refine ob1 hm (fun S6 e5 hm => ?_)
      refine k_callV (pc := 56) (As := [va_rf (some y1)]) (rest := []) (b := y0) B hR hl rfl I (c_P_putAll hR e5) kw_P_43 (by decide) hk rfl (Nat.le_of_ble_eq_true rfl) (Nat.le_of_ble_eq_true rfl) rfl (by simp [cat_i, cat_r, cat_l, va_rf_cat]) d_P_putName_56 (Nat.le_refl _) (Nat.le_refl _) (fun H locs I => ?_)
      refine lv_goto (pc := 59) (tgt := 67) hx hb d_P_putName_59 (by decide) ?_
      cases hm
      exact q_vret (pc := 67) B I rfl d_P_putName_67
  · have hm := iff' hcc hm
    refine lv_iload_n (pc := 23) (i := 2) hx hb d_P_putName_23 rfl (lx_get hl rfl) ?_
    refine lv_if_eq (pc := 24) (tgt := 42) hx hb d_P_putName_24 (by decide) (fun hcc => ?_) (fun hcc => ?_)
    · have hm := ift hcc hm
      exact w_P_putName_42 (y0 := y0) (y1 := y1) (y3 := y3) hK15 B hR (lx_sub (lo' := [some (.ref y0), some (.ref y1), none, some (.int y3)]) hl (by simp [lx_le])) I hm
    · have hm := iff' hcc hm
      refine q_aload_n (pc := 27) (i := 1) (v := .ref y1) hx hb d_P_putName_27 rfl rfl (lx_get hl rfl) ?_
      refine lv_iload_n (pc := 28) (i := 3) hx hb d_P_putName_28 rfl (lx_get hl rfl) ?_
      refine oifk hm (fun hk hm => ?_)
      refine ob1 hm (fun x8 e7 hm => ?_)
      refine k_callV (pc := 29) (As := [.int y3]) (rest := []) (b := y1) B hR hl rfl I (c_Str_charAt hR e7) kw_P_106 (by decide) hk rfl (Nat.le_of_ble_eq_true rfl) (Nat.le_of_ble_eq_true rfl) rfl (by simp [cat_i, cat_r, cat_l, va_rf_cat]) d_P_putName_29 (Nat.le_refl _) (Nat.le_refl _) (fun H locs I => ?_)
      refine ob1 hm (fun x10 e9 hm => ?_)
      refine k_callSN (pc := 32) (As := [.int x8]) (rest := []) B hR hl rfl I (c_T_isBareLetter hR e9) kw_P_110 rfl (Nat.le_of_ble_eq_true rfl) (Nat.le_of_ble_eq_true rfl) rfl (by simp [cat_i, cat_r, cat_l, va_rf_cat]) d_P_putName_32 (Nat.le_refl _) (Nat.le_refl _) (fun H locs I => ?_)
      refine lv_if_eq (pc := 35) (tgt := 42) hx hb d_P_putName_35 (by decide) (fun hcc => ?_) (fun hcc => ?_)
      · have hm := ift hcc hm
        exact w_P_putName_42 (y0 := y0) (y1 := y1) (y3 := y3) hK15 B hR (lx_sub (lo' := [some (.ref y0), some (.ref y1), none, some (.int y3)]) hl (by simp [lx_le])) I hm
      · have hm := iff' hcc hm
        refine lv_iconst (pc := 38) (v := 1) hx hb d_P_putName_38 (by decide) ?_
        refine lv_goto (pc := 39) (tgt := 43) hx hb d_P_putName_39 (by decide) ?_
        exact w_P_putName_43 (y0 := y0) (y1 := y1) (y3 := y3) (z0 := 1) hK15 B hR (lx_sub (lo' := [some (.ref y0), some (.ref y1), none, some (.int y3)]) hl (by simp [lx_le])) I hm
set_option maxRecDepth 100000 in
set_option maxHeartbeats 4000000 in
theorem w_P_putName_15i (B : BX p m c cb_P_putName 4 s args (.code y_P_putName cb_P_putName 4 none :: wsA) RZ5 meth none D vwCl (tyL dA) b0 Z) (hR : CR b0 K Z) (k : Nat) (y0 : Nat) (y1 : Nat) (y2 : Int32) (y3 : Int32) (S : cS) (ls : Array Slot) (H : Heap) (locs : List Loc) (hl : lx ls [some (.ref y0), some (.ref y1), some (.int y2), some (.int y3)]) (I : AI D vwCl b0 (cH dA b0 S hp0) sz s.heap H locs)  (hm : x_P_putName_15 N b0 K  k y0 y1 y2 y3 S = some S') : W p l e { frames := 9, cells := 0, slots := 0, locals := 250 } s m args below meth c H locs 0 0 (MQ below (CQ D vwCl b0 none (cH dA b0 S' hp0) sz) args s 0 0 (fun q => b0 ≤ q)) (F0 m 15 ls []) := by
  induction k generalizing y0 y1 y2 y3 S ls H locs with
  | zero => cases hm
  | succ k ih => exact w_P_putName_15F  (fun y0 y1 y2 y3 S ls H locs hl I hm => ih y0 y1 y2 y3 S ls H locs hl I hm) B hR hl I hm
theorem w_P_putName_15 {y0 : Nat} {y1 : Nat} {y2 : Int32} {y3 : Int32} {S : cS} (B : BX p m c cb_P_putName 4 s args (.code y_P_putName cb_P_putName 4 none :: wsA) RZ5 meth none D vwCl (tyL dA) b0 Z) (hR : CR b0 K Z) (hl : lx ls [some (.ref y0), some (.ref y1), some (.int y2), some (.int y3)]) (I : AI D vwCl b0 (cH dA b0 S hp0) sz s.heap H locs)  {k : Nat} (hm : x_P_putName_15 N b0 K  k y0 y1 y2 y3 S = some S') : W p l e { frames := 9, cells := 0, slots := 0, locals := 250 } s m args below meth c H locs 0 0 (MQ below (CQ D vwCl b0 none (cH dA b0 S' hp0) sz) args s 0 0 (fun q => b0 ≤ q)) (F0 m 15 ls []) := w_P_putName_15i  B hR k _ _ _ _ S ls H locs hl I hm
def x_P_putName_12 (N b0 : Nat) (K : cS) (y0 : Nat) (y1 : Nat) (z0 : Int32) (S : cS) : Option cS :=
  x_P_putName_15 N b0 K  N y0 y1 z0 0 S
set_option maxRecDepth 100000 in
set_option maxHeartbeats 4000000 in
theorem w_P_putName_12 {y0 : Nat} {y1 : Nat} {z0 : Int32} {S : cS} (B : BX p m c cb_P_putName 4 s args (.code y_P_putName cb_P_putName 4 none :: wsA) RZ5 meth none D vwCl (tyL dA) b0 Z) (hR : CR b0 K Z) (hl : lx ls [some (.ref y0), some (.ref y1), none, none]) (I : AI D vwCl b0 (cH dA b0 S hp0) sz s.heap H locs)  (hm : x_P_putName_12 N b0 K  y0 y1 z0 S = some S') : W p l e { frames := 9, cells := 0, slots := 0, locals := 250 } s m args below meth c H locs 0 0 (MQ below (CQ D vwCl b0 none (cH dA b0 S' hp0) sz) args s 0 0 (fun q => b0 ≤ q)) (F0 m 12 ls [.int z0]) := by
  obtain ⟨hx, hb, -⟩ := B.1
  unfold x_P_putName_12 at hm
  refine q_istore_n (pc := 12) (i := 2) (lo' := [some (.ref y0), some (.ref y1), some (.int z0), none]) hx hb d_P_putName_12 rfl hl (Nat.le_of_ble_eq_true rfl) (lx_cr rfl) rfl (fun ls hl => ?_)
  refine lv_iconst (pc := 13) (v := 0) hx hb d_P_putName_13 (by decide) ?_
  refine q_istore_n (pc := 14) (i := 3) (lo' := [some (.ref y0), some (.ref y1), some (.int z0), some (.int 0)]) hx hb d_P_putName_14 rfl hl (Nat.le_of_ble_eq_true rfl) (lx_ci rfl) rfl (fun ls hl => ?_)
  exact w_P_putName_15 (y0 := y0) (y1 := y1) (y2 := z0) (y3 := 0)  B hR hl I hm
def x_P_putName (N b0 : Nat) (K : cS) (p0 : Nat) (p1 : Option Nat) (S : cS) : Option cS :=
  b1 p1 (fun a1 => ifk b0 K S 6 a1 (b1 (x_Str_isEmpty N b0 K a1 S) (fun x5 => if x5 = 0 then (x_P_putName_12 N b0 K  p0 a1 1 S) else (x_P_putName_12 N b0 K  p0 a1 0 S))))
set_option maxRecDepth 100000 in
set_option maxHeartbeats 4000000 in
theorem c_P_putName {p0 : Nat} {p1 : Option Nat} {S S' : cS} (hR : CR b0 K Z) (hm : x_P_putName N b0 K p0 p1 S = some S') : Ct l D vwCl (tyL dA) b0 Z y_P_putName (.code y_P_putName cb_P_putName 4 none :: wsA) 9 250 [.ref p0, va_rf p1] (cH dA b0 S hp0) sz none (cH dA b0 S' hp0) 0 0 := by
  refine ct_ofF (cc := cb_P_putName) (maxL := 4) (ret := none) (lo0 := [some (.ref p0), some (va_rf p1), none, none]) hR.1 (by decide +kernel) rfl (by simp [lg_sl, cat_i, cat_r, cat_l, va_rf_cat]) rfl (by simp [lx_all, lv_args, cat_i, cat_r, cat_l, va_rf_cat]) ?_
  intro p e s m args below meth c ls B hnm hl I
  obtain ⟨hx, hb, -⟩ := B.1
  unfold x_P_putName at hm
  refine q_aload_n (pc := 0) (i := 1) (v := va_rf p1) hx hb d_P_putName_0 rfl (va_rf_isRef _) (lx_get hl rfl) ?_
  refine ob1 hm (fun a1 e2 hm => ?_)
  have hm_3 := hm; have hl_3 := hl; have I_3 := I
  subst e2
  have hm := hm_3; have hl := hl_3; have I := I_3
  refine oifk hm (fun hk hm => ?_)
  refine ob1 hm (fun x5 e4 hm => ?_)
  refine k_callV (pc := 1) (As := []) (rest := []) (b := a1) B hR hl rfl I (c_Str_isEmpty hR e4) kw_P_97 (by decide) hk rfl (Nat.le_of_ble_eq_true rfl) (Nat.le_of_ble_eq_true rfl) rfl (by simp [cat_i, cat_r, cat_l, va_rf_cat]) d_P_putName_1 (Nat.le_refl _) (Nat.le_refl _) (fun H locs I => ?_)
  refine lv_if_ne (pc := 4) (tgt := 11) hx hb d_P_putName_4 (by decide) (fun hcc => ?_) (fun hcc => ?_)
  · have hm := iff' hcc hm
    refine lv_iconst (pc := 11) (v := 0) hx hb d_P_putName_11 (by decide) ?_
    exact w_P_putName_12 (y0 := p0) (y1 := a1) (z0 := 0)  B hR hl I hm
  · have hm := ift hcc hm
    refine lv_iconst (pc := 7) (v := 1) hx hb d_P_putName_7 (by decide) ?_
    refine lv_goto (pc := 8) (tgt := 12) hx hb d_P_putName_8 (by decide) ?_
    exact w_P_putName_12 (y0 := p0) (y1 := a1) (z0 := 1)  B hR hl I hm
def x_P_putNumber_10 (N b0 : Nat) (K : cS) (y0 : Nat) (y1 : Int32) (S : cS) : Option cS :=
  b1 (x_Ma_abs N b0 K y1 S) (fun x2 => ifk b0 K S 5 y0 (b1 (x_P_putDigits N b0 K y0 x2 1 S) (fun S4 => some S4)))
set_option maxRecDepth 100000 in
set_option maxHeartbeats 4000000 in
theorem w_P_putNumber_10 {y0 : Nat} {y1 : Int32} {S : cS} (B : BX p m c cb_P_putNumber 2 s args (.code y_P_putNumber cb_P_putNumber 2 none :: wsA) RZ5 meth none D vwCl (tyL dA) b0 Z) (hR : CR b0 K Z) (hl : lx ls [some (.ref y0), some (.int y1)]) (I : AI D vwCl b0 (cH dA b0 S hp0) sz s.heap H locs)  (hm : x_P_putNumber_10 N b0 K  y0 y1 S = some S') : W p l e { frames := 2, cells := 0, slots := 0, locals := 45 } s m args below meth c H locs 0 0 (MQ below (CQ D vwCl b0 none (cH dA b0 S' hp0) sz) args s 0 0 (fun q => b0 ≤ q)) (F0 m 10 ls []) := by
  obtain ⟨hx, hb, -⟩ := B.1
  unfold x_P_putNumber_10 at hm
  refine q_aload_n (pc := 10) (i := 0) (v := .ref y0) hx hb d_P_putNumber_10 rfl rfl (lx_get hl rfl) ?_
  refine lv_iload_n (pc := 11) (i := 1) hx hb d_P_putNumber_11 rfl (lx_get hl rfl) ?_
  refine ob1 hm (fun x2 e1 hm => ?_)
  refine k_callS (pc := 12) (As := [.int y1]) (rest := [.ref y0]) B hl rfl I (c_Ma_abs hR e1) kw_P_122 rfl (Nat.le_of_ble_eq_true rfl) (Nat.le_of_ble_eq_true rfl) rfl (by simp [cat_i, cat_r, cat_l, va_rf_cat]) d_P_putNumber_12 (Nat.le_refl _) (Nat.le_refl _) (fun H locs I => ?_)
  refine lv_iconst (pc := 15) (v := 1) hx hb d_P_putNumber_15 (by decide) ?_
  refine oifk hm (fun hk hm => ?_)
  refine ob1 hm (fun S4 e3 hm => ?_)
  refine k_callV (pc := 16) (As := [.int x2, .int 1]) (rest := []) (b := y0) B hR hl rfl I (c_P_putDigits hR e3) kw_P_118 (by decide) hk rfl (Nat.le_of_ble_eq_true rfl) (Nat.le_of_ble_eq_true rfl) rfl (by simp [cat_i, cat_r, cat_l, va_rf_cat]) d_P_putNumber_16 (Nat.le_refl _) (Nat.le_refl _) (fun H locs I => ?_)
  cases hm
  exact q_vret (pc := 19) B I rfl d_P_putNumber_19
def x_P_putNumber (N b0 : Nat) (K : cS) (p0 : Nat) (p1 : Int32) (S : cS) : Option cS :=
  if 0 ≤ p1 then (x_P_putNumber_10 N b0 K  p0 p1 S) else (ifk b0 K S 5 p0 (b1 (x_P_put N b0 K p0 45 S) (fun S2 => x_P_putNumber_10 N b0 K  p0 p1 S2)))
set_option maxRecDepth 100000 in
set_option maxHeartbeats 4000000 in
theorem c_P_putNumber {p0 : Nat} {p1 : Int32} {S S' : cS} (hR : CR b0 K Z) (hm : x_P_putNumber N b0 K p0 p1 S = some S') : Ct l D vwCl (tyL dA) b0 Z y_P_putNumber (.code y_P_putNumber cb_P_putNumber 2 none :: wsA) 2 45 [.ref p0, .int p1] (cH dA b0 S hp0) sz none (cH dA b0 S' hp0) 0 0 := by
  refine ct_ofF (cc := cb_P_putNumber) (maxL := 2) (ret := none) (lo0 := [some (.ref p0), some (.int p1)]) hR.1 (by decide +kernel) rfl (by simp [lg_sl, cat_i, cat_r, cat_l, va_rf_cat]) rfl (by simp [lx_all, lv_args, cat_i, cat_r, cat_l, va_rf_cat]) ?_
  intro p e s m args below meth c ls B hnm hl I
  obtain ⟨hx, hb, -⟩ := B.1
  unfold x_P_putNumber at hm
  refine lv_iload_n (pc := 0) (i := 1) hx hb d_P_putNumber_0 rfl (lx_get hl rfl) ?_
  refine lv_if_ge (pc := 1) (tgt := 10) hx hb d_P_putNumber_1 (by decide) (fun hcc => ?_) (fun hcc => ?_)
  · have hm := ift hcc hm
    exact w_P_putNumber_10 (y0 := p0) (y1 := p1)  B hR hl I hm
  · have hm := iff' hcc hm
    refine q_aload_n (pc := 4) (i := 0) (v := .ref p0) hx hb d_P_putNumber_4 rfl rfl (lx_get hl rfl) ?_
    refine lv_bipush (pc := 5) (v := 45) hx hb d_P_putNumber_5 (by decide) ?_
    refine oifk hm (fun hk hm => ?_)
    refine ob1 hm (fun S2 e1 hm => ?_)
    refine k_callV (pc := 7) (As := [.int 45]) (rest := []) (b := p0) B hR hl rfl I (c_P_put hR e1) kw_P_50 (by decide) hk rfl (Nat.le_of_ble_eq_true rfl) (Nat.le_of_ble_eq_true rfl) rfl (by simp [cat_i, cat_r, cat_l, va_rf_cat]) d_P_putNumber_7 (Nat.le_refl _) (Nat.le_refl _) (fun H locs I => ?_)
    exact w_P_putNumber_10 (y0 := p0) (y1 := p1)  B hR hl I hm
def x_P_putBeginning_95 (N b0 : Nat) (K : cS) (z0 : Nat) (z1 : Nat) (S : cS) : Option cS :=
  ifk b0 K S 5 z0 (b1 (x_P_putAll N b0 K z0 (some z1) S) (fun S2 => some S2))
set_option maxRecDepth 100000 in
set_option maxHeartbeats 4000000 in
theorem w_P_putBeginning_95 {z0 : Nat} {z1 : Nat} {S : cS} (B : BX p m c cb_P_putBeginning 2 s args (.code y_P_putBeginning cb_P_putBeginning 2 none :: wsA) RZ5 meth none D vwCl (tyL dA) b0 Z) (hR : CR b0 K Z) (hl : lx ls [none, none]) (I : AI D vwCl b0 (cH dA b0 S hp0) sz s.heap H locs)  (hm : x_P_putBeginning_95 N b0 K  z0 z1 S = some S') : W p l e { frames := 10, cells := 0, slots := 0, locals := 273 } s m args below meth c H locs 0 0 (MQ below (CQ D vwCl b0 none (cH dA b0 S' hp0) sz) args s 0 0 (fun q => b0 ≤ q)) (F0 m 95 ls [.ref z1, .ref z0]) := by
  obtain ⟨hx, hb, -⟩ := B.1
  unfold x_P_putBeginning_95 at hm
  refine oifk hm (fun hk hm => ?_)
  refine ob1 hm (fun S2 e1 hm => ?_)
  refine k_callV (pc := 95) (As := [va_rf (some z1)]) (rest := []) (b := z0) B hR hl rfl I (c_P_putAll hR e1) kw_P_43 (by decide) hk rfl (Nat.le_of_ble_eq_true rfl) (Nat.le_of_ble_eq_true rfl) rfl (by simp [cat_i, cat_r, cat_l, va_rf_cat]) d_P_putBeginning_95 (Nat.le_refl _) (Nat.le_refl _) (fun H locs I => ?_)
  refine lv_goto (pc := 98) (tgt := 128) hx hb d_P_putBeginning_98 (by decide) ?_
  cases hm
  exact q_vret (pc := 128) B I rfl d_P_putBeginning_128
def x_P_putBeginning_21 (N b0 : Nat) (K : cS) (y0 : Nat) (y1 : Nat) (S : cS) : Option cS :=
  ifk b0 K S 2 y1 (b1 (x_N_isTable N b0 K y1 S) (fun x2 => if x2 = 0 then (ifk b0 K S 2 y1 (b1 (x_N_isList N b0 K y1 S) (fun x4 => if x4 = 0 then (b1 (gR b0 K S 2 2 y1) (fun q5 => om q5 (b1 (gI b0 K S 2 0 y1) (fun x9 => if x9 = 2 then (b1 (gI b0 K S 2 1 y1) (fun x21 => if x21 = 1 then (b1 (K.2.2.2 0 6) (fun a25 => x_P_putBeginning_95 N b0 K  y0 a25 S)) else (b1 (K.2.2.2 0 7) (fun a23 => x_P_putBeginning_95 N b0 K  y0 a23 S)))) else (b1 (gI b0 K S 2 0 y1) (fun x11 => if x11 = 4 then (b1 (gI b0 K S 2 1 y1) (fun x17 => ifk b0 K S 5 y0 (b1 (x_P_putDate N b0 K y0 x17 S) (fun S20 => some S20)))) else (b1 (gI b0 K S 2 1 y1) (fun x13 => ifk b0 K S 5 y0 (b1 (x_P_putNumber N b0 K y0 x13 S) (fun S16 => some S16)))))))) (fun a8 => b1 (gR b0 K S 2 2 y1) (fun q27 => ifk b0 K S 5 y0 (b1 (x_P_putQuoted N b0 K y0 q27 S) (fun S30 => some S30)))))) else (ifk b0 K S 5 y0 (b1 (x_P_put N b0 K y0 91 S) (fun S33 => some S33)))))) else (ifk b0 K S 5 y0 (b1 (x_P_put N b0 K y0 123 S) (fun S35 => some S35)))))
set_option maxRecDepth 100000 in
set_option maxHeartbeats 4000000 in
theorem w_P_putBeginning_21 {y0 : Nat} {y1 : Nat} {S : cS} (B : BX p m c cb_P_putBeginning 2 s args (.code y_P_putBeginning cb_P_putBeginning 2 none :: wsA) RZ5 meth none D vwCl (tyL dA) b0 Z) (hR : CR b0 K Z) (hl : lx ls [some (.ref y0), some (.ref y1)]) (I : AI D vwCl b0 (cH dA b0 S hp0) sz s.heap H locs)  (hm : x_P_putBeginning_21 N b0 K  y0 y1 S = some S') : W p l e { frames := 10, cells := 0, slots := 0, locals := 273 } s m args below meth c H locs 0 0 (MQ below (CQ D vwCl b0 none (cH dA b0 S' hp0) sz) args s 0 0 (fun q => b0 ≤ q)) (F0 m 21 ls []) := by
  obtain ⟨hx, hb, -⟩ := B.1
  unfold x_P_putBeginning_21 at hm
  refine q_aload_n (pc := 21) (i := 1) (v := .ref y1) hx hb d_P_putBeginning_21 rfl rfl (lx_get hl rfl) ?_
  refine oifk hm (fun hk hm => ?_)
  refine ob1 hm (fun x2 e1 hm => ?_)
  refine k_callVN (pc := 22) (As := []) (rest := []) (b := y1) B hR hl rfl I (c_N_isTable hR e1) kw_P_46 (by decide) hk rfl (Nat.le_of_ble_eq_true rfl) (Nat.le_of_ble_eq_true rfl) rfl (by simp [cat_i, cat_r, cat_l, va_rf_cat]) d_P_putBeginning_22 (Nat.le_refl _) (Nat.le_refl _) (fun H locs I => ?_)
  refine lv_if_eq (pc := 25) (tgt := 37) hx hb d_P_putBeginning_25 (by decide) (fun hcc => ?_) (fun hcc => ?_)
  · have hm := ift hcc hm
    refine q_aload_n (pc := 37) (i := 1) (v := .ref y1) hx hb d_P_putBeginning_37 rfl rfl (lx_get hl rfl) ?_
    refine oifk hm (fun hk hm => ?_)
    refine ob1 hm (fun x4 e3 hm => ?_)
    refine k_callVN (pc := 38) (As := []) (rest := []) (b := y1) B hR hl rfl I (c_N_isList hR e3) kw_P_54 (by decide) hk rfl (Nat.le_of_ble_eq_true rfl) (Nat.le_of_ble_eq_true rfl) rfl (by simp [cat_i, cat_r, cat_l, va_rf_cat]) d_P_putBeginning_38 (Nat.le_refl _) (Nat.le_refl _) (fun H locs I => ?_)
    refine lv_if_eq (pc := 41) (tgt := 53) hx hb d_P_putBeginning_41 (by decide) (fun hcc => ?_) (fun hcc => ?_)
    · have hm := ift hcc hm
      refine q_aload_n (pc := 53) (i := 1) (v := .ref y1) hx hb d_P_putBeginning_53 rfl rfl (lx_get hl rfl) ?_
      refine ob1 hm (fun q5 e6 hm => ?_)
      refine k_getRN (pc := 54) (z := 2) (k := 2) (index := 57) B hR I (by decide) (by decide) nF_P_57 rfl (fun _ _ => rfl) e6 d_P_putBeginning_54 ?_
      refine oom hm (fun e7 hm => ?_) (fun a8 e7 hm => ?_)
      · have hm_31 := hm; have hl_31 := hl; have I_31 := I
        subst e7
        have hm := hm_31; have hl := hl_31; have I := I_31
        refine lv_ifnullN (pc := 57) (tgt := 71) hx hb d_P_putBeginning_57 (by decide) ?_
        refine q_aload_n (pc := 71) (i := 1) (v := .ref y1) hx hb d_P_putBeginning_71 rfl rfl (lx_get hl rfl) ?_
        refine ob1 hm (fun x9 e10 hm => ?_)
        refine k_getIN (pc := 72) (z := 2) (k := 0) (index := 63) B hR I (by decide) (by decide) nF_P_63 rfl (fun _ _ => rfl) e10 d_P_putBeginning_72 ?_
        refine lv_iconst (pc := 75) (v := 2) hx hb d_P_putBeginning_75 (by decide) ?_
        refine lv_icmp_ne (pc := 76) (tgt := 101) hx hb d_P_putBeginning_76 (by decide) (fun hcc => ?_) (fun hcc => ?_)
        · have hm := iff' hcc hm
          refine q_aload_n (pc := 101) (i := 1) (v := .ref y1) hx hb d_P_putBeginning_101 rfl rfl (lx_get hl rfl) ?_
          refine ob1 hm (fun x11 e12 hm => ?_)
          refine k_getIN (pc := 102) (z := 2) (k := 0) (index := 63) B hR I (by decide) (by decide) nF_P_63 rfl (fun _ _ => rfl) e12 d_P_putBeginning_102 ?_
          refine lv_iconst (pc := 105) (v := 4) hx hb d_P_putBeginning_105 (by decide) ?_
          refine lv_icmp_ne (pc := 106) (tgt := 120) hx hb d_P_putBeginning_106 (by decide) (fun hcc => ?_) (fun hcc => ?_)
          · have hm := iff' hcc hm
            refine q_aload_n (pc := 120) (i := 0) (v := .ref y0) hx hb d_P_putBeginning_120 rfl rfl (lx_get hl rfl) ?_
            refine q_aload_n (pc := 121) (i := 1) (v := .ref y1) hx hb d_P_putBeginning_121 rfl rfl (lx_get hl rfl) ?_
            refine ob1 hm (fun x13 e14 hm => ?_)
            refine k_getIN (pc := 122) (z := 2) (k := 1) (index := 66) B hR I (by decide) (by decide) nF_P_66 rfl (fun _ _ => rfl) e14 d_P_putBeginning_122 ?_
            refine oifk hm (fun hk hm => ?_)
            refine ob1 hm (fun S16 e15 hm => ?_)
            refine k_callV (pc := 125) (As := [.int x13]) (rest := []) (b := y0) B hR hl rfl I (c_P_putNumber hR e15) kw_P_77 (by decide) hk rfl (Nat.le_of_ble_eq_true rfl) (Nat.le_of_ble_eq_true rfl) rfl (by simp [cat_i, cat_r, cat_l, va_rf_cat]) d_P_putBeginning_125 (Nat.le_refl _) (Nat.le_refl _) (fun H locs I => ?_)
            cases hm
            exact q_vret (pc := 128) B I rfl d_P_putBeginning_128
          · have hm := ift hcc hm
            refine q_aload_n (pc := 109) (i := 0) (v := .ref y0) hx hb d_P_putBeginning_109 rfl rfl (lx_get hl rfl) ?_
            refine q_aload_n (pc := 110) (i := 1) (v := .ref y1) hx hb d_P_putBeginning_110 rfl rfl (lx_get hl rfl) ?_
            refine ob1 hm (fun x17 e18 hm => ?_)
            refine k_getIN (pc := 111) (z := 2) (k := 1) (index := 66) B hR I (by decide) (by decide) nF_P_66 rfl (fun _ _ => rfl) e18 d_P_putBeginning_111 ?_
            refine oifk hm (fun hk hm => ?_)
            refine ob1 hm (fun S20 e19 hm => ?_)
            refine k_callV (pc := 114) (As := [.int x17]) (rest := []) (b := y0) B hR hl rfl I (c_P_putDate hR e19) kw_P_73 (by decide) hk rfl (Nat.le_of_ble_eq_true rfl) (Nat.le_of_ble_eq_true rfl) rfl (by simp [cat_i, cat_r, cat_l, va_rf_cat]) d_P_putBeginning_114 (Nat.le_refl _) (Nat.le_refl _) (fun H locs I => ?_)
            refine lv_goto (pc := 117) (tgt := 128) hx hb d_P_putBeginning_117 (by decide) ?_
            cases hm
            exact q_vret (pc := 128) B I rfl d_P_putBeginning_128
        · have hm := ift hcc hm
          refine q_aload_n (pc := 79) (i := 0) (v := .ref y0) hx hb d_P_putBeginning_79 rfl rfl (lx_get hl rfl) ?_
          refine q_aload_n (pc := 80) (i := 1) (v := .ref y1) hx hb d_P_putBeginning_80 rfl rfl (lx_get hl rfl) ?_
          refine ob1 hm (fun x21 e22 hm => ?_)
          refine k_getIN (pc := 81) (z := 2) (k := 1) (index := 66) B hR I (by decide) (by decide) nF_P_66 rfl (fun _ _ => rfl) e22 d_P_putBeginning_81 ?_
          refine lv_iconst (pc := 84) (v := 1) hx hb d_P_putBeginning_84 (by decide) ?_
          refine lv_icmp_ne (pc := 85) (tgt := 93) hx hb d_P_putBeginning_85 (by decide) (fun hcc => ?_) (fun hcc => ?_)
          · have hm := iff' hcc hm
            refine ob1 hm (fun a23 e24 hm => ?_)
            refine k_ldc (pc := 93) (j := 6) B hR rfl e24 d_P_putBeginning_93 ?_
            exact w_P_putBeginning_95 (z0 := y0) (z1 := a23)  B hR (lx_sub (lo' := [none, none]) hl (by simp [lx_le])) I hm
          · have hm := ift hcc hm
            refine ob1 hm (fun a25 e26 hm => ?_)
            refine k_ldc (pc := 88) (j := 5) B hR rfl e26 d_P_putBeginning_88 ?_
            refine lv_goto (pc := 90) (tgt := 95) hx hb d_P_putBeginning_90 (by decide) ?_
            exact w_P_putBeginning_95 (z0 := y0) (z1 := a25)  B hR (lx_sub (lo' := [none, none]) hl (by simp [lx_le])) I hm
      · have hm_31 := hm; have hl_31 := hl; have I_31 := I
        subst e7
        have hm := hm_31; have hl := hl_31; have I := I_31
        refine lv_ifnull (pc := 57) hx hb d_P_putBeginning_57 ?_
        refine q_aload_n (pc := 60) (i := 0) (v := .ref y0) hx hb d_P_putBeginning_60 rfl rfl (lx_get hl rfl) ?_
        refine q_aload_n (pc := 61) (i := 1) (v := .ref y1) hx hb d_P_putBeginning_61 rfl rfl (lx_get hl rfl) ?_
        refine ob1 hm (fun q27 e28 hm => ?_)
        refine k_getRN (pc := 62) (z := 2) (k := 2) (index := 57) B hR I (by decide) (by decide) nF_P_57 rfl (fun _ _ => rfl) e28 d_P_putBeginning_62 ?_
        refine oifk hm (fun hk hm => ?_)
        refine ob1 hm (fun S30 e29 hm => ?_)
        refine k_callV (pc := 65) (As := [va_rf q27]) (rest := []) (b := y0) B hR hl rfl I (c_P_putQuoted hR e29) kw_P_60 (by decide) hk rfl (Nat.le_of_ble_eq_true rfl) (Nat.le_of_ble_eq_true rfl) rfl (by simp [cat_i, cat_r, cat_l, va_rf_cat]) d_P_putBeginning_65 (Nat.le_refl _) (Nat.le_refl _) (fun H locs I => ?_)
        refine lv_goto (pc := 68) (tgt := 128) hx hb d_P_putBeginning_68 (by decide) ?_
        cases hm
        exact q_vret (pc := 128) B I rfl d_P_putBeginning_128
    · have hm := iff' hcc hm
      refine q_aload_n (pc := 44) (i := 0) (v := .ref y0) hx hb d_P_putBeginning_44 rfl rfl (lx_get hl rfl) ?_
      refine lv_bipush (pc := 45) (v := 91) hx hb d_P_putBeginning_45 (by decide) ?_
      refine oifk hm (fun hk hm => ?_)
      refine ob1 hm (fun S33 e32 hm => ?_)
      refine k_callV (pc := 47) (As := [.int 91]) (rest := []) (b := y0) B hR hl rfl I (c_P_put hR e32) kw_P_50 (by decide) hk rfl (Nat.le_of_ble_eq_true rfl) (Nat.le_of_ble_eq_true rfl) rfl (by simp [cat_i, cat_r, cat_l, va_rf_cat]) d_P_putBeginning_47 (Nat.le_refl _) (Nat.le_refl _) (fun H locs I => ?_)
      refine lv_goto (pc := 50) (tgt := 128) hx hb d_P_putBeginning_50 (by decide) ?_
      cases hm
      exact q_vret (pc := 128) B I rfl d_P_putBeginning_128
  · have hm := iff' hcc hm
    refine q_aload_n (pc := 28) (i := 0) (v := .ref y0) hx hb d_P_putBeginning_28 rfl rfl (lx_get hl rfl) ?_
    refine lv_bipush (pc := 29) (v := 123) hx hb d_P_putBeginning_29 (by decide) ?_
    refine oifk hm (fun hk hm => ?_)
    refine ob1 hm (fun S35 e34 hm => ?_)
    refine k_callV (pc := 31) (As := [.int 123]) (rest := []) (b := y0) B hR hl rfl I (c_P_put hR e34) kw_P_50 (by decide) hk rfl (Nat.le_of_ble_eq_true rfl) (Nat.le_of_ble_eq_true rfl) rfl (by simp [cat_i, cat_r, cat_l, va_rf_cat]) d_P_putBeginning_31 (Nat.le_refl _) (Nat.le_refl _) (fun H locs I => ?_)
    refine lv_goto (pc := 34) (tgt := 128) hx hb d_P_putBeginning_34 (by decide) ?_
    cases hm
    exact q_vret (pc := 128) B I rfl d_P_putBeginning_128
def x_P_putBeginning (N b0 : Nat) (K : cS) (p0 : Nat) (p1 : Option Nat) (S : cS) : Option cS :=
  b1 p1 (fun a1 => b1 (gR b0 K S 2 3 a1) (fun q4 => om q4 (x_P_putBeginning_21 N b0 K  p0 a1 S) (fun a7 => b1 (gR b0 K S 2 3 a1) (fun q8 => ifk b0 K S 5 p0 (b1 (x_P_putName N b0 K p0 q8 S) (fun S11 => b1 (K.2.2.2 0 5) (fun a12 => ifk b0 K S11 5 p0 (b1 (x_P_putAll N b0 K p0 (some a12) S11) (fun S15 => x_P_putBeginning_21 N b0 K  p0 a1 S15)))))))))
set_option maxRecDepth 100000 in
set_option maxHeartbeats 4000000 in
theorem c_P_putBeginning {p0 : Nat} {p1 : Option Nat} {S S' : cS} (hR : CR b0 K Z) (hm : x_P_putBeginning N b0 K p0 p1 S = some S') : Ct l D vwCl (tyL dA) b0 Z y_P_putBeginning (.code y_P_putBeginning cb_P_putBeginning 2 none :: wsA) 10 273 [.ref p0, va_rf p1] (cH dA b0 S hp0) sz none (cH dA b0 S' hp0) 0 0 := by
  refine ct_ofF (cc := cb_P_putBeginning) (maxL := 2) (ret := none) (lo0 := [some (.ref p0), some (va_rf p1)]) hR.1 (by decide +kernel) rfl (by simp [lg_sl, cat_i, cat_r, cat_l, va_rf_cat]) rfl (by simp [lx_all, lv_args, cat_i, cat_r, cat_l, va_rf_cat]) ?_
  intro p e s m args below meth c ls B hnm hl I
  obtain ⟨hx, hb, -⟩ := B.1
  unfold x_P_putBeginning at hm
  refine q_aload_n (pc := 0) (i := 1) (v := va_rf p1) hx hb d_P_putBeginning_0 rfl (va_rf_isRef _) (lx_get hl rfl) ?_
  refine ob1 hm (fun a1 e2 hm => ?_)
  have hm_3 := hm; have hl_3 := hl; have I_3 := I
  subst e2
  have hm := hm_3; have hl := hl_3; have I := I_3
  refine ob1 hm (fun q4 e5 hm => ?_)
  refine k_getRN (pc := 1) (z := 2) (k := 3) (index := 33) B hR I (by decide) (by decide) nF_P_33 rfl (fun _ _ => rfl) e5 d_P_putBeginning_1 ?_
  refine oom hm (fun e6 hm => ?_) (fun a7 e6 hm => ?_)
  · have hm_16 := hm; have hl_16 := hl; have I_16 := I
    subst e6
    have hm := hm_16; have hl := hl_16; have I := I_16
    refine lv_ifnullN (pc := 4) (tgt := 21) hx hb d_P_putBeginning_4 (by decide) ?_
    exact w_P_putBeginning_21 (y0 := p0) (y1 := a1)  B hR hl I hm
  · have hm_16 := hm; have hl_16 := hl; have I_16 := I
    subst e6
    have hm := hm_16; have hl := hl_16; have I := I_16
    refine lv_ifnull (pc := 4) hx hb d_P_putBeginning_4 ?_
    refine q_aload_n (pc := 7) (i := 0) (v := .ref p0) hx hb d_P_putBeginning_7 rfl rfl (lx_get hl rfl) ?_
    refine q_aload_n (pc := 8) (i := 1) (v := .ref a1) hx hb d_P_putBeginning_8 rfl rfl (lx_get hl rfl) ?_
    refine ob1 hm (fun q8 e9 hm => ?_)
    refine k_getRN (pc := 9) (z := 2) (k := 3) (index := 33) B hR I (by decide) (by decide) nF_P_33 rfl (fun _ _ => rfl) e9 d_P_putBeginning_9 ?_
    refine oifk hm (fun hk hm => ?_)
    refine ob1 hm (fun S11 e10 hm => ?_)
    refine k_callV (pc := 12) (As := [va_rf q8]) (rest := []) (b := p0) B hR hl rfl I (c_P_putName hR e10) kw_P_37 (by decide) hk rfl (Nat.le_of_ble_eq_true rfl) (Nat.le_of_ble_eq_true rfl) rfl (by simp [cat_i, cat_r, cat_l, va_rf_cat]) d_P_putBeginning_12 (Nat.le_refl _) (Nat.le_refl _) (fun H locs I => ?_)
    refine q_aload_n (pc := 15) (i := 0) (v := .ref p0) hx hb d_P_putBeginning_15 rfl rfl (lx_get hl rfl) ?_
    refine ob1 hm (fun a12 e13 hm => ?_)
    refine k_ldc (pc := 16) (j := 4) B hR rfl e13 d_P_putBeginning_16 ?_
    refine oifk hm (fun hk hm => ?_)
    refine ob1 hm (fun S15 e14 hm => ?_)
    refine k_callV (pc := 18) (As := [va_rf (some a12)]) (rest := []) (b := p0) B hR hl rfl I (c_P_putAll hR e14) kw_P_43 (by decide) hk rfl (Nat.le_of_ble_eq_true rfl) (Nat.le_of_ble_eq_true rfl) rfl (by simp [cat_i, cat_r, cat_l, va_rf_cat]) d_P_putBeginning_18 (Nat.le_refl _) (Nat.le_refl _) (fun H locs I => ?_)
    exact w_P_putBeginning_21 (y0 := p0) (y1 := a1)  B hR hl I hm
def x_P_putEndings_49 (N b0 : Nat) (K : cS) (y2 : Nat) (z0 : Nat) (z1 : Nat) (S : cS) : Option (Option Nat × cS) :=
  ifk b0 K S 5 z0 (b1 (x_P_putAll N b0 K z0 (some z1) S) (fun S2 => b1 (gR b0 K S2 2 7 y2) (fun q3 => some (q3, S2))))
set_option maxRecDepth 100000 in
set_option maxHeartbeats 4000000 in
theorem w_P_putEndings_49 {y2 : Nat} {z0 : Nat} {z1 : Nat} {S : cS} (B : BX p m c cb_P_putEndings 3 s args (.code y_P_putEndings cb_P_putEndings 3 (some (.object "TableText$Node")) :: wsA) RZ5 meth (some (.object "TableText$Node")) D vwCl (tyL dA) b0 Z) (hR : CR b0 K Z) (hl : lx ls [none, none, some (.ref y2)]) (I : AI D vwCl b0 (cH dA b0 S hp0) sz s.heap H locs)  (hm : x_P_putEndings_49 N b0 K  y2 z0 z1 S = some (q, S')) : W p l e { frames := 8, cells := 0, slots := 0, locals := 227 } s m args below meth c H locs 0 0 (MQ below (CQ D vwCl b0 (some (va_rf q)) (cH dA b0 S' hp0) sz) args s 0 0 (fun q => b0 ≤ q)) (F0 m 49 ls [.ref z1, .ref z0]) := by
  obtain ⟨hx, hb, -⟩ := B.1
  unfold x_P_putEndings_49 at hm
  refine oifk hm (fun hk hm => ?_)
  refine ob1 hm (fun S2 e1 hm => ?_)
  refine k_callV (pc := 49) (As := [va_rf (some z1)]) (rest := []) (b := z0) B hR hl rfl I (c_P_putAll hR e1) kw_P_43 (by decide) hk rfl (Nat.le_of_ble_eq_true rfl) (Nat.le_of_ble_eq_true rfl) rfl (by simp [cat_i, cat_r, cat_l, va_rf_cat]) d_P_putEndings_49 (Nat.le_refl _) (Nat.le_refl _) (fun H locs I => ?_)
  refine q_aload_n (pc := 52) (i := 2) (v := .ref y2) hx hb d_P_putEndings_52 rfl rfl (lx_get hl rfl) ?_
  refine ob1 hm (fun q3 e4 hm => ?_)
  refine k_getRN (pc := 53) (z := 2) (k := 7) (index := 83) B hR I (by decide) (by decide) nF_P_83 rfl (fun _ _ => rfl) e4 d_P_putEndings_53 ?_
  cases hm
  exact q_aret (pc := 56) B I rfl (Or.inl ⟨_, rfl⟩) d_P_putEndings_56
def x_P_putEndings_34 (N b0 : Nat) (K : cS) (y0 : Nat) (y2 : Nat) (S : cS) : Option (Option Nat × cS) :=
  b1 (x_P_isLine N b0 K (some y2) S) (fun x2 => if x2 = 0 then (b1 (K.2.2.2 0 9) (fun a3 => x_P_putEndings_49 N b0 K  y2 y0 a3 S)) else (b1 (K.2.2.2 0 8) (fun a5 => x_P_putEndings_49 N b0 K  y2 y0 a5 S)))
set_option maxRecDepth 100000 in
set_option maxHeartbeats 4000000 in
theorem w_P_putEndings_34 {y0 : Nat} {y2 : Nat} {S : cS} (B : BX p m c cb_P_putEndings 3 s args (.code y_P_putEndings cb_P_putEndings 3 (some (.object "TableText$Node")) :: wsA) RZ5 meth (some (.object "TableText$Node")) D vwCl (tyL dA) b0 Z) (hR : CR b0 K Z) (hl : lx ls [some (.ref y0), none, some (.ref y2)]) (I : AI D vwCl b0 (cH dA b0 S hp0) sz s.heap H locs)  (hm : x_P_putEndings_34 N b0 K  y0 y2 S = some (q, S')) : W p l e { frames := 8, cells := 0, slots := 0, locals := 227 } s m args below meth c H locs 0 0 (MQ below (CQ D vwCl b0 (some (va_rf q)) (cH dA b0 S' hp0) sz) args s 0 0 (fun q => b0 ≤ q)) (F0 m 34 ls []) := by
  obtain ⟨hx, hb, -⟩ := B.1
  unfold x_P_putEndings_34 at hm
  refine q_aload_n (pc := 34) (i := 0) (v := .ref y0) hx hb d_P_putEndings_34 rfl rfl (lx_get hl rfl) ?_
  refine q_aload_n (pc := 35) (i := 2) (v := .ref y2) hx hb d_P_putEndings_35 rfl rfl (lx_get hl rfl) ?_
  refine ob1 hm (fun x2 e1 hm => ?_)
  refine k_callS (pc := 36) (As := [va_rf (some y2)]) (rest := [.ref y0]) B hl rfl I (c_P_isLine hR e1) kw_P_86 rfl (Nat.le_of_ble_eq_true rfl) (Nat.le_of_ble_eq_true rfl) rfl (by simp [cat_i, cat_r, cat_l, va_rf_cat]) d_P_putEndings_36 (Nat.le_refl _) (Nat.le_refl _) (fun H locs I => ?_)
  refine lv_if_eq (pc := 39) (tgt := 47) hx hb d_P_putEndings_39 (by decide) (fun hcc => ?_) (fun hcc => ?_)
  · have hm := ift hcc hm
    refine ob1 hm (fun a3 e4 hm => ?_)
    refine k_ldc (pc := 47) (j := 8) B hR rfl e4 d_P_putEndings_47 ?_
    exact w_P_putEndings_49 (y2 := y2) (z0 := y0) (z1 := a3)  B hR (lx_sub (lo' := [none, none, some (.ref y2)]) hl (by simp [lx_le])) I hm
  · have hm := iff' hcc hm
    refine ob1 hm (fun a5 e6 hm => ?_)
    refine k_ldc (pc := 42) (j := 7) B hR rfl e6 d_P_putEndings_42 ?_
    refine lv_goto (pc := 44) (tgt := 49) hx hb d_P_putEndings_44 (by decide) ?_
    exact w_P_putEndings_49 (y2 := y2) (z0 := y0) (z1 := a5)  B hR (lx_sub (lo' := [none, none, some (.ref y2)]) hl (by simp [lx_le])) I hm
def x_P_putEndings_7F (N b0 : Nat) (K : cS) (K7 : Nat → Option Nat → cS → Option (Option Nat × cS)) (y0 : Nat) (y2 : Option Nat) (S : cS) : Option (Option Nat × cS) :=
  b1 y2 (fun a1 => b1 (gR b0 K S 2 7 a1) (fun q4 => om q4 (b1 (x_P_isLine N b0 K (some a1) S) (fun x9 => if x9 = 0 then (b1 (gR b0 K S 2 4 a1) (fun q10 => ifk b0 K S 5 y0 (b1 (x_P_putEnd N b0 K y0 q10 S) (fun S13 => K7 y0 q10 S13)))) else (x_P_putEndings_34 N b0 K  y0 a1 S))) (fun a7 => x_P_putEndings_34 N b0 K  y0 a1 S)))
def x_P_putEndings_7 (N b0 : Nat) (K : cS) : Nat → Nat → Option Nat → cS → Option (Option Nat × cS)
  | 0, _, _, _ => none
  | k + 1, y0, y2, S => x_P_putEndings_7F N b0 K  (x_P_putEndings_7 N b0 K  k) y0 y2 S
set_option maxRecDepth 100000 in
set_option maxHeartbeats 4000000 in
theorem w_P_putEndings_7F {K7 : Nat → Option Nat → cS → Option (Option Nat × cS)} {y0 : Nat} {y2 : Option Nat} {S : cS} (hK7 : ∀ (y0 : Nat) (y2 : Option Nat) (S : cS) (ls : Array Slot) (H : Heap) (locs : List Loc), lx ls [some (.ref y0), none, some (va_rf y2)] → AI D vwCl b0 (cH dA b0 S hp0) sz s.heap H locs → K7 y0 y2 S = some (q, S') → W p l e { frames := 8, cells := 0, slots := 0, locals := 227 } s m args below meth c H locs 0 0 (MQ below (CQ D vwCl b0 (some (va_rf q)) (cH dA b0 S' hp0) sz) args s 0 0 (fun q => b0 ≤ q)) (F0 m 7 ls [])) (B : BX p m c cb_P_putEndings 3 s args (.code y_P_putEndings cb_P_putEndings 3 (some (.object "TableText$Node")) :: wsA) RZ5 meth (some (.object "TableText$Node")) D vwCl (tyL dA) b0 Z) (hR : CR b0 K Z) (hl : lx ls [some (.ref y0), none, some (va_rf y2)]) (I : AI D vwCl b0 (cH dA b0 S hp0) sz s.heap H locs)  (hm : x_P_putEndings_7F N b0 K  K7 y0 y2 S = some (q, S')) : W p l e { frames := 8, cells := 0, slots := 0, locals := 227 } s m args below meth c H locs 0 0 (MQ below (CQ D vwCl b0 (some (va_rf q)) (cH dA b0 S' hp0) sz) args s 0 0 (fun q => b0 ≤ q)) (F0 m 7 ls []) := by
  obtain ⟨hx, hb, -⟩ := B.1
  unfold x_P_putEndings_7F at hm
  refine q_aload_n (pc := 7) (i := 2) (v := va_rf y2) hx hb d_P_putEndings_7 rfl (va_rf_isRef _) (lx_get hl rfl) ?_
  refine ob1 hm (fun a1 e2 hm => ?_)
  have hm_3 := hm; have hl_3 := hl; have I_3 := I
  subst e2
  have hm := hm_3; have hl := hl_3; have I := I_3
  refine ob1 hm (fun q4 e5 hm => ?_)
  refine k_getRN (pc := 8) (z := 2) (k := 7) (index := 83) B hR I (by decide) (by decide) nF_P_83 rfl (fun _ _ => rfl) e5 d_P_putEndings_8 ?_
  refine oom hm (fun e6 hm => ?_) (fun a7 e6 hm => ?_)
  · have hm_14 := hm; have hl_14 := hl; have I_14 := I
    subst e6
    have hm := hm_14; have hl := hl_14; have I := I_14
    refine lv_ifnonnullN (pc := 11) hx hb d_P_putEndings_11 ?_
    refine q_aload_n (pc := 14) (i := 2) (v := .ref a1) hx hb d_P_putEndings_14 rfl rfl (lx_get hl rfl) ?_
    refine ob1 hm (fun x9 e8 hm => ?_)
    refine k_callS (pc := 15) (As := [va_rf (some a1)]) (rest := []) B hl rfl I (c_P_isLine hR e8) kw_P_86 rfl (Nat.le_of_ble_eq_true rfl) (Nat.le_of_ble_eq_true rfl) rfl (by simp [cat_i, cat_r, cat_l, va_rf_cat]) d_P_putEndings_15 (Nat.le_refl _) (Nat.le_refl _) (fun H locs I => ?_)
    refine lv_if_ne (pc := 18) (tgt := 34) hx hb d_P_putEndings_18 (by decide) (fun hcc => ?_) (fun hcc => ?_)
    · have hm := iff' hcc hm
      exact w_P_putEndings_34 (y0 := y0) (y2 := a1)  B hR hl I hm
    · have hm := ift hcc hm
      refine q_aload_n (pc := 21) (i := 2) (v := .ref a1) hx hb d_P_putEndings_21 rfl rfl (lx_get hl rfl) ?_
      refine ob1 hm (fun q10 e11 hm => ?_)
      refine k_getRN (pc := 22) (z := 2) (k := 4) (index := 90) B hR I (by decide) (by decide) nF_P_90 rfl (fun _ _ => rfl) e11 d_P_putEndings_22 ?_
      refine q_astore_n (pc := 25) (i := 2) (v := va_rf q10) (lo' := [some (.ref y0), none, some (va_rf q10)]) hx hb d_P_putEndings_25 rfl (va_rf_isRef _) hl (Nat.le_of_ble_eq_true rfl) (lx_cn rfl) rfl (fun ls hl => ?_)
      refine q_aload_n (pc := 26) (i := 0) (v := .ref y0) hx hb d_P_putEndings_26 rfl rfl (lx_get hl rfl) ?_
      refine q_aload_n (pc := 27) (i := 2) (v := va_rf q10) hx hb d_P_putEndings_27 rfl (va_rf_isRef _) (lx_get hl rfl) ?_
      refine oifk hm (fun hk hm => ?_)
      refine ob1 hm (fun S13 e12 hm => ?_)
      refine k_callV (pc := 28) (As := [va_rf q10]) (rest := []) (b := y0) B hR hl rfl I (c_P_putEnd hR e12) kw_P_80 (by decide) hk rfl (Nat.le_of_ble_eq_true rfl) (Nat.le_of_ble_eq_true rfl) rfl (by simp [cat_i, cat_r, cat_l, va_rf_cat]) d_P_putEndings_28 (Nat.le_refl _) (Nat.le_refl _) (fun H locs I => ?_)
      refine lv_goto (pc := 31) (tgt := 7) hx hb d_P_putEndings_31 (by decide) ?_
      exact hK7 y0 q10 S13 _ _ _ hl I hm
  · have hm_14 := hm; have hl_14 := hl; have I_14 := I
    subst e6
    have hm := hm_14; have hl := hl_14; have I := I_14
    refine lv_ifnonnull (pc := 11) (tgt := 34) hx hb d_P_putEndings_11 (by decide) ?_
    exact w_P_putEndings_34 (y0 := y0) (y2 := a1)  B hR hl I hm
set_option maxRecDepth 100000 in
set_option maxHeartbeats 4000000 in
theorem w_P_putEndings_7i (B : BX p m c cb_P_putEndings 3 s args (.code y_P_putEndings cb_P_putEndings 3 (some (.object "TableText$Node")) :: wsA) RZ5 meth (some (.object "TableText$Node")) D vwCl (tyL dA) b0 Z) (hR : CR b0 K Z) (k : Nat) (y0 : Nat) (y2 : Option Nat) (S : cS) (ls : Array Slot) (H : Heap) (locs : List Loc) (hl : lx ls [some (.ref y0), none, some (va_rf y2)]) (I : AI D vwCl b0 (cH dA b0 S hp0) sz s.heap H locs)  (hm : x_P_putEndings_7 N b0 K  k y0 y2 S = some (q, S')) : W p l e { frames := 8, cells := 0, slots := 0, locals := 227 } s m args below meth c H locs 0 0 (MQ below (CQ D vwCl b0 (some (va_rf q)) (cH dA b0 S' hp0) sz) args s 0 0 (fun q => b0 ≤ q)) (F0 m 7 ls []) := by
  induction k generalizing y0 y2 S ls H locs with
  | zero => cases hm
  | succ k ih => exact w_P_putEndings_7F  (fun y0 y2 S ls H locs hl I hm => ih y0 y2 S ls H locs hl I hm) B hR hl I hm
theorem w_P_putEndings_7 {y0 : Nat} {y2 : Option Nat} {S : cS} (B : BX p m c cb_P_putEndings 3 s args (.code y_P_putEndings cb_P_putEndings 3 (some (.object "TableText$Node")) :: wsA) RZ5 meth (some (.object "TableText$Node")) D vwCl (tyL dA) b0 Z) (hR : CR b0 K Z) (hl : lx ls [some (.ref y0), none, some (va_rf y2)]) (I : AI D vwCl b0 (cH dA b0 S hp0) sz s.heap H locs)  {k : Nat} (hm : x_P_putEndings_7 N b0 K  k y0 y2 S = some (q, S')) : W p l e { frames := 8, cells := 0, slots := 0, locals := 227 } s m args below meth c H locs 0 0 (MQ below (CQ D vwCl b0 (some (va_rf q)) (cH dA b0 S' hp0) sz) args s 0 0 (fun q => b0 ≤ q)) (F0 m 7 ls []) := w_P_putEndings_7i  B hR k _ _ S ls H locs hl I hm
def x_P_putEndings (N b0 : Nat) (K : cS) (p0 : Nat) (p1 : Option Nat) (S : cS) : Option (Option Nat × cS) :=
  ifk b0 K S 5 p0 (b1 (x_P_putEnd N b0 K p0 p1 S) (fun S2 => x_P_putEndings_7 N b0 K  N p0 p1 S2))
set_option maxRecDepth 100000 in
set_option maxHeartbeats 4000000 in
theorem c_P_putEndings {p0 : Nat} {p1 : Option Nat} {S S' : cS} {q : Option Nat} (hR : CR b0 K Z) (hm : x_P_putEndings N b0 K p0 p1 S = some (q, S')) : Ct l D vwCl (tyL dA) b0 Z y_P_putEndings (.code y_P_putEndings cb_P_putEndings 3 (some (.object "TableText$Node")) :: wsA) 8 227 [.ref p0, va_rf p1] (cH dA b0 S hp0) sz (some (va_rf q)) (cH dA b0 S' hp0) 0 0 := by
  refine ct_ofF (cc := cb_P_putEndings) (maxL := 3) (ret := (some (.object "TableText$Node"))) (lo0 := [some (.ref p0), some (va_rf p1), none]) hR.1 (by decide +kernel) rfl (by simp [lg_sl, cat_i, cat_r, cat_l, va_rf_cat]) rfl (by simp [lx_all, lv_args, cat_i, cat_r, cat_l, va_rf_cat]) ?_
  intro p e s m args below meth c ls B hnm hl I
  obtain ⟨hx, hb, -⟩ := B.1
  unfold x_P_putEndings at hm
  refine q_aload_n (pc := 0) (i := 1) (v := va_rf p1) hx hb d_P_putEndings_0 rfl (va_rf_isRef _) (lx_get hl rfl) ?_
  refine q_astore_n (pc := 1) (i := 2) (v := va_rf p1) (lo' := [some (.ref p0), some (va_rf p1), some (va_rf p1)]) hx hb d_P_putEndings_1 rfl (va_rf_isRef _) hl (Nat.le_of_ble_eq_true rfl) (lx_cq rfl) rfl (fun ls hl => ?_)
  refine q_aload_n (pc := 2) (i := 0) (v := .ref p0) hx hb d_P_putEndings_2 rfl rfl (lx_get hl rfl) ?_
  refine q_aload_n (pc := 3) (i := 2) (v := va_rf p1) hx hb d_P_putEndings_3 rfl (va_rf_isRef _) (lx_get hl rfl) ?_
  refine oifk hm (fun hk hm => ?_)
  refine ob1 hm (fun S2 e1 hm => ?_)
  refine k_callV (pc := 4) (As := [va_rf p1]) (rest := []) (b := p0) B hR hl rfl I (c_P_putEnd hR e1) kw_P_80 (by decide) hk rfl (Nat.le_of_ble_eq_true rfl) (Nat.le_of_ble_eq_true rfl) rfl (by simp [cat_i, cat_r, cat_l, va_rf_cat]) d_P_putEndings_4 (Nat.le_refl _) (Nat.le_refl _) (fun H locs I => ?_)
  exact w_P_putEndings_7 (y0 := p0) (y2 := p1)  B hR (lx_sub (lo' := [some (.ref p0), none, some (va_rf p1)]) hl (by simp [lx_le, va_rf])) I hm
def x_P_fill_47 (N b0 : Nat) (K : cS) (K12 : Nat → Option Nat → Int32 → cS → Option cS) (y0 : Nat) (y3 : Int32) (z0 : Option Nat) (S : cS) : Option cS :=
  K12 y0 z0 (y3 + 1) S
set_option maxRecDepth 100000 in
set_option maxHeartbeats 4000000 in
theorem w_P_fill_47 {K12 : Nat → Option Nat → Int32 → cS → Option cS} {y0 : Nat} {y3 : Int32} {z0 : Option Nat} {S : cS} (hK12 : ∀ (y0 : Nat) (y2 : Option Nat) (y3 : Int32) (S : cS) (ls : Array Slot) (H : Heap) (locs : List Loc), lx ls [some (.ref y0), none, some (va_rf y2), some (.int y3)] → AI D vwCl b0 (cH dA b0 S hp0) sz s.heap H locs → K12 y0 y2 y3 S = some S' → W p l e { frames := 11, cells := 0, slots := 0, locals := 294 } s m args below meth c H locs 0 0 (MQ below (CQ D vwCl b0 none (cH dA b0 S' hp0) sz) args s 0 0 (fun q => b0 ≤ q)) (F0 m 12 ls [])) (B : BX p m c cb_P_fill 4 s args (.code y_P_fill cb_P_fill 4 none :: wsA) RZ5 meth none D vwCl (tyL dA) b0 Z) (hR : CR b0 K Z) (hl : lx ls [some (.ref y0), none, none, some (.int y3)]) (I : AI D vwCl b0 (cH dA b0 S hp0) sz s.heap H locs)  (hm : x_P_fill_47 N b0 K K12 y0 y3 z0 S = some S') : W p l e { frames := 11, cells := 0, slots := 0, locals := 294 } s m args below meth c H locs 0 0 (MQ below (CQ D vwCl b0 none (cH dA b0 S' hp0) sz) args s 0 0 (fun q => b0 ≤ q)) (F0 m 47 ls [va_rf z0]) := by
  obtain ⟨hx, hb, -⟩ := B.1
  unfold x_P_fill_47 at hm
  refine q_astore_n (pc := 47) (i := 2) (v := va_rf z0) (lo' := [some (.ref y0), none, some (va_rf z0), some (.int y3)]) hx hb d_P_fill_47 rfl (va_rf_isRef _) hl (Nat.le_of_ble_eq_true rfl) (lx_cn rfl) rfl (fun ls hl => ?_)
  refine q_iinc (pc := 48) (i := 3) (v := y3 + 1) (lo' := [some (.ref y0), none, some (va_rf z0), some (.int (y3 + 1))]) hx hb d_P_fill_48 hl rfl rfl (Nat.le_of_ble_eq_true rfl) (lx_cq rfl) rfl (fun ls hl => ?_)
  refine lv_goto (pc := 51) (tgt := 12) hx hb d_P_fill_51 (by decide) ?_
  exact hK12 y0 z0 (y3 + 1) S _ _ _ hl I hm
def x_P_fill_12F (N b0 : Nat) (K : cS) (K12 : Nat → Option Nat → Int32 → cS → Option cS) (y0 : Nat) (y2 : Option Nat) (y3 : Int32) (S : cS) : Option cS :=
  om y2 (some S) (fun a2 => if 480 ≤ y3 then (some S) else (ifk b0 K S 5 y0 (b1 (x_P_putBeginning N b0 K y0 (some a2) S) (fun S4 => b1 (gR b0 K S4 2 5 a2) (fun q5 => om q5 (ifk b0 K S4 5 y0 (b2 (x_P_putEndings N b0 K y0 (some a2) S4) (fun q10 S11 => x_P_fill_47 N b0 K K12 y0 y3 q10 S11))) (fun a8 => b1 (gR b0 K S4 2 5 a2) (fun q12 => x_P_fill_47 N b0 K K12 y0 y3 q12 S4)))))))
def x_P_fill_12 (N b0 : Nat) (K : cS) : Nat → Nat → Option Nat → Int32 → cS → Option cS
  | 0, _, _, _, _ => none
  | k + 1, y0, y2, y3, S => x_P_fill_12F N b0 K  (x_P_fill_12 N b0 K  k) y0 y2 y3 S
set_option maxRecDepth 100000 in
set_option maxHeartbeats 4000000 in
theorem w_P_fill_12F {K12 : Nat → Option Nat → Int32 → cS → Option cS} {y0 : Nat} {y2 : Option Nat} {y3 : Int32} {S : cS} (hK12 : ∀ (y0 : Nat) (y2 : Option Nat) (y3 : Int32) (S : cS) (ls : Array Slot) (H : Heap) (locs : List Loc), lx ls [some (.ref y0), none, some (va_rf y2), some (.int y3)] → AI D vwCl b0 (cH dA b0 S hp0) sz s.heap H locs → K12 y0 y2 y3 S = some S' → W p l e { frames := 11, cells := 0, slots := 0, locals := 294 } s m args below meth c H locs 0 0 (MQ below (CQ D vwCl b0 none (cH dA b0 S' hp0) sz) args s 0 0 (fun q => b0 ≤ q)) (F0 m 12 ls [])) (B : BX p m c cb_P_fill 4 s args (.code y_P_fill cb_P_fill 4 none :: wsA) RZ5 meth none D vwCl (tyL dA) b0 Z) (hR : CR b0 K Z) (hl : lx ls [some (.ref y0), none, some (va_rf y2), some (.int y3)]) (I : AI D vwCl b0 (cH dA b0 S hp0) sz s.heap H locs)  (hm : x_P_fill_12F N b0 K  K12 y0 y2 y3 S = some S') : W p l e { frames := 11, cells := 0, slots := 0, locals := 294 } s m args below meth c H locs 0 0 (MQ below (CQ D vwCl b0 none (cH dA b0 S' hp0) sz) args s 0 0 (fun q => b0 ≤ q)) (F0 m 12 ls []) := by
  obtain ⟨hx, hb, -⟩ := B.1
  unfold x_P_fill_12F at hm
  refine q_aload_n (pc := 12) (i := 2) (v := va_rf y2) hx hb d_P_fill_12 rfl (va_rf_isRef _) (lx_get hl rfl) ?_
  refine oom hm (fun e1 hm => ?_) (fun a2 e1 hm => ?_)
  · have hm_15 := hm; have hl_15 := hl; have I_15 := I
    subst e1
    have hm := hm_15; have hl := hl_15; have I := I_15
    refine lv_ifnullN (pc := 13) (tgt := 54) hx hb d_P_fill_13 (by decide) ?_
    cases hm
    exact q_vret (pc := 54) B I rfl d_P_fill_54
  · have hm_15 := hm; have hl_15 := hl; have I_15 := I
    subst e1
    have hm := hm_15; have hl := hl_15; have I := I_15
    refine lv_ifnull (pc := 13) hx hb d_P_fill_13 ?_
    refine lv_iload_n (pc := 16) (i := 3) hx hb d_P_fill_16 rfl (lx_get hl rfl) ?_
    refine lv_sipush (pc := 17) (v := 480) hx hb d_P_fill_17 (by decide) ?_
    refine lv_icmp_ge (pc := 20) (tgt := 54) hx hb d_P_fill_20 (by decide) (fun hcc => ?_) (fun hcc => ?_)
    · have hm := ift hcc hm
      cases hm
      exact q_vret (pc := 54) B I rfl d_P_fill_54
    · have hm := iff' hcc hm
      refine q_aload_n (pc := 23) (i := 0) (v := .ref y0) hx hb d_P_fill_23 rfl rfl (lx_get hl rfl) ?_
      refine q_aload_n (pc := 24) (i := 2) (v := .ref a2) hx hb d_P_fill_24 rfl rfl (lx_get hl rfl) ?_
      refine oifk hm (fun hk hm => ?_)
      refine ob1 hm (fun S4 e3 hm => ?_)
      refine k_callV (pc := 25) (As := [va_rf (some a2)]) (rest := []) (b := y0) B hR hl rfl I (c_P_putBeginning hR e3) kw_P_25 (by decide) hk rfl (Nat.le_of_ble_eq_true rfl) (Nat.le_of_ble_eq_true rfl) rfl (by simp [cat_i, cat_r, cat_l, va_rf_cat]) d_P_fill_25 (Nat.le_refl _) (Nat.le_refl _) (fun H locs I => ?_)
      refine q_aload_n (pc := 28) (i := 2) (v := .ref a2) hx hb d_P_fill_28 rfl rfl (lx_get hl rfl) ?_
      refine ob1 hm (fun q5 e6 hm => ?_)
      refine k_getRN (pc := 29) (z := 2) (k := 5) (index := 19) B hR I (by decide) (by decide) nF_P_19 rfl (fun _ _ => rfl) e6 d_P_fill_29 ?_
      refine oom hm (fun e7 hm => ?_) (fun a8 e7 hm => ?_)
      · have hm_14 := hm; have hl_14 := hl; have I_14 := I
        subst e7
        have hm := hm_14; have hl := hl_14; have I := I_14
        refine lv_ifnullN (pc := 32) (tgt := 42) hx hb d_P_fill_32 (by decide) ?_
        refine q_aload_n (pc := 42) (i := 0) (v := .ref y0) hx hb d_P_fill_42 rfl rfl (lx_get hl rfl) ?_
        refine q_aload_n (pc := 43) (i := 2) (v := .ref a2) hx hb d_P_fill_43 rfl rfl (lx_get hl rfl) ?_
        refine oifk hm (fun hk hm => ?_)
        refine ob2 hm (fun q10 S11 e9 hm => ?_)
        refine k_callV (pc := 44) (As := [va_rf (some a2)]) (rest := []) (b := y0) B hR hl rfl I (c_P_putEndings hR e9) kw_P_29 (by decide) hk rfl (Nat.le_of_ble_eq_true rfl) (Nat.le_of_ble_eq_true rfl) rfl (by simp [cat_i, cat_r, cat_l, va_rf_cat]) d_P_fill_44 (Nat.le_refl _) (Nat.le_refl _) (fun H locs I => ?_)
        exact w_P_fill_47 (y0 := y0) (y3 := y3) (z0 := q10) hK12 B hR (lx_sub (lo' := [some (.ref y0), none, none, some (.int y3)]) hl (by simp [lx_le])) I hm
      · have hm_14 := hm; have hl_14 := hl; have I_14 := I
        subst e7
        have hm := hm_14; have hl := hl_14; have I := I_14
        refine lv_ifnull (pc := 32) hx hb d_P_fill_32 ?_
        refine q_aload_n (pc := 35) (i := 2) (v := .ref a2) hx hb d_P_fill_35 rfl rfl (lx_get hl rfl) ?_
        refine ob1 hm (fun q12 e13 hm => ?_)
        refine k_getRN (pc := 36) (z := 2) (k := 5) (index := 19) B hR I (by decide) (by decide) nF_P_19 rfl (fun _ _ => rfl) e13 d_P_fill_36 ?_
        refine lv_goto (pc := 39) (tgt := 47) hx hb d_P_fill_39 (by decide) ?_
        exact w_P_fill_47 (y0 := y0) (y3 := y3) (z0 := q12) hK12 B hR (lx_sub (lo' := [some (.ref y0), none, none, some (.int y3)]) hl (by simp [lx_le])) I hm
set_option maxRecDepth 100000 in
set_option maxHeartbeats 4000000 in
theorem w_P_fill_12i (B : BX p m c cb_P_fill 4 s args (.code y_P_fill cb_P_fill 4 none :: wsA) RZ5 meth none D vwCl (tyL dA) b0 Z) (hR : CR b0 K Z) (k : Nat) (y0 : Nat) (y2 : Option Nat) (y3 : Int32) (S : cS) (ls : Array Slot) (H : Heap) (locs : List Loc) (hl : lx ls [some (.ref y0), none, some (va_rf y2), some (.int y3)]) (I : AI D vwCl b0 (cH dA b0 S hp0) sz s.heap H locs)  (hm : x_P_fill_12 N b0 K  k y0 y2 y3 S = some S') : W p l e { frames := 11, cells := 0, slots := 0, locals := 294 } s m args below meth c H locs 0 0 (MQ below (CQ D vwCl b0 none (cH dA b0 S' hp0) sz) args s 0 0 (fun q => b0 ≤ q)) (F0 m 12 ls []) := by
  induction k generalizing y0 y2 y3 S ls H locs with
  | zero => cases hm
  | succ k ih => exact w_P_fill_12F  (fun y0 y2 y3 S ls H locs hl I hm => ih y0 y2 y3 S ls H locs hl I hm) B hR hl I hm
theorem w_P_fill_12 {y0 : Nat} {y2 : Option Nat} {y3 : Int32} {S : cS} (B : BX p m c cb_P_fill 4 s args (.code y_P_fill cb_P_fill 4 none :: wsA) RZ5 meth none D vwCl (tyL dA) b0 Z) (hR : CR b0 K Z) (hl : lx ls [some (.ref y0), none, some (va_rf y2), some (.int y3)]) (I : AI D vwCl b0 (cH dA b0 S hp0) sz s.heap H locs)  {k : Nat} (hm : x_P_fill_12 N b0 K  k y0 y2 y3 S = some S') : W p l e { frames := 11, cells := 0, slots := 0, locals := 294 } s m args below meth c H locs 0 0 (MQ below (CQ D vwCl b0 none (cH dA b0 S' hp0) sz) args s 0 0 (fun q => b0 ≤ q)) (F0 m 12 ls []) := w_P_fill_12i  B hR k _ _ _ S ls H locs hl I hm
def x_P_fill (N b0 : Nat) (K : cS) (p0 : Nat) (p1 : Option Nat) (S : cS) : Option cS :=
  b1 (pI b0 S 5 1 p0 0) (fun S1 => b1 p1 (fun a3 => b1 (gR b0 K S1 2 5 a3) (fun q6 => x_P_fill_12 N b0 K  N p0 q6 0 S1)))
set_option maxRecDepth 100000 in
set_option maxHeartbeats 4000000 in
theorem c_P_fill {p0 : Nat} {p1 : Option Nat} {S S' : cS} (hR : CR b0 K Z) (hm : x_P_fill N b0 K p0 p1 S = some S') : Ct l D vwCl (tyL dA) b0 Z y_P_fill (.code y_P_fill cb_P_fill 4 none :: wsA) 11 294 [.ref p0, va_rf p1] (cH dA b0 S hp0) sz none (cH dA b0 S' hp0) 0 0 := by
  refine ct_ofF (cc := cb_P_fill) (maxL := 4) (ret := none) (lo0 := [some (.ref p0), some (va_rf p1), none, none]) hR.1 (by decide +kernel) rfl (by simp [lg_sl, cat_i, cat_r, cat_l, va_rf_cat]) rfl (by simp [lx_all, lv_args, cat_i, cat_r, cat_l, va_rf_cat]) ?_
  intro p e s m args below meth c ls B hnm hl I
  obtain ⟨hx, hb, -⟩ := B.1
  unfold x_P_fill at hm
  refine q_aload_n (pc := 0) (i := 0) (v := .ref p0) hx hb d_P_fill_0 rfl rfl (lx_get hl rfl) ?_
  refine lv_iconst (pc := 1) (v := 0) hx hb d_P_fill_1 (by decide) ?_
  refine ob1 hm (fun S1 e2 hm => ?_)
  refine k_putI (pc := 2) (z := 5) (k := 1) (index := 15) (v := 0) B I (by decide) (by decide) mF_P_15 rfl rfl rfl rfl cset_5_1 e2 d_P_fill_2 (fun H locs I => ?_)
  refine q_aload_n (pc := 5) (i := 1) (v := va_rf p1) hx hb d_P_fill_5 rfl (va_rf_isRef _) (lx_get hl rfl) ?_
  refine ob1 hm (fun a3 e4 hm => ?_)
  have hm_5 := hm; have hl_5 := hl; have I_5 := I
  subst e4
  have hm := hm_5; have hl := hl_5; have I := I_5
  refine ob1 hm (fun q6 e7 hm => ?_)
  refine k_getRN (pc := 6) (z := 2) (k := 5) (index := 19) B hR I (by decide) (by decide) nF_P_19 rfl (fun _ _ => rfl) e7 d_P_fill_6 ?_
  refine q_astore_n (pc := 9) (i := 2) (v := va_rf q6) (lo' := [some (.ref p0), some (.ref a3), some (va_rf q6), none]) hx hb d_P_fill_9 rfl (va_rf_isRef _) hl (Nat.le_of_ble_eq_true rfl) (lx_cr rfl) rfl (fun ls hl => ?_)
  refine lv_iconst (pc := 10) (v := 0) hx hb d_P_fill_10 (by decide) ?_
  refine q_istore_n (pc := 11) (i := 3) (lo' := [some (.ref p0), some (.ref a3), some (va_rf q6), some (.int 0)]) hx hb d_P_fill_11 rfl hl (Nat.le_of_ble_eq_true rfl) (lx_cq rfl) rfl (fun ls hl => ?_)
  exact w_P_fill_12 (y0 := p0) (y2 := q6) (y3 := 0)  B hR (lx_sub (lo' := [some (.ref p0), none, some (va_rf q6), some (.int 0)]) hl (by simp [lx_le, va_rf])) I hm
def x_T_write (N b0 : Nat) (K : cS) (p0 : Nat) (S : cS) : Option (Int32 × cS) :=
  b1 (gR b0 K S 1 1 p0) (fun q1 => b1 (gR b0 K S 1 3 p0) (fun q3 => b1 q1 (fun a5 => ifk b0 K S 5 a5 (b1 (x_P_fill N b0 K a5 q3 S) (fun S9 => b1 (gR b0 K S9 1 1 p0) (fun q10 => b1 q10 (fun a12 => b1 (gI b0 K S9 5 1 a12) (fun x15 => some (x15, S9)))))))))
set_option maxRecDepth 100000 in
set_option maxHeartbeats 4000000 in
theorem c_T_write {p0 : Nat} {S S' : cS} {r : Int32} (hR : CR b0 K Z) (hm : x_T_write N b0 K p0 S = some (r, S')) : Ct l D vwCl (tyL dA) b0 Z y_T_write (.code y_T_write cb_T_write 1 (some .int) :: wsA) 12 317 [.ref p0] (cH dA b0 S hp0) sz (some (.int r)) (cH dA b0 S' hp0) 0 0 := by
  refine ct_ofF (cc := cb_T_write) (maxL := 1) (ret := (some .int)) (lo0 := [some (.ref p0)]) hR.1 (by decide +kernel) rfl (by simp [lg_sl, cat_i, cat_r, cat_l, va_rf_cat]) rfl (by simp [lx_all, lv_args, cat_i, cat_r, cat_l, va_rf_cat]) ?_
  intro p e s m args below meth c ls B hnm hl I
  obtain ⟨hx, hb, -⟩ := B.1
  unfold x_T_write at hm
  refine q_aload_n (pc := 0) (i := 0) (v := .ref p0) hx hb d_T_write_0 rfl rfl (lx_get hl rfl) ?_
  refine ob1 hm (fun q1 e2 hm => ?_)
  refine k_getR (pc := 1) (z := 1) (k := 1) (index := 16) B hR I (by decide) (by decide) mF_T_16 rfl (fun _ _ => rfl) e2 d_T_write_1 ?_
  refine q_aload_n (pc := 4) (i := 0) (v := .ref p0) hx hb d_T_write_4 rfl rfl (lx_get hl rfl) ?_
  refine ob1 hm (fun q3 e4 hm => ?_)
  refine k_getR (pc := 5) (z := 1) (k := 3) (index := 29) B hR I (by decide) (by decide) mF_T_29 rfl (fun _ _ => rfl) e4 d_T_write_5 ?_
  refine ob1 hm (fun a5 e6 hm => ?_)
  have hm_7 := hm; have hl_7 := hl; have I_7 := I
  subst e6
  have hm := hm_7; have hl := hl_7; have I := I_7
  refine oifk hm (fun hk hm => ?_)
  refine ob1 hm (fun S9 e8 hm => ?_)
  refine k_callVN (pc := 8) (As := [va_rf q3]) (rest := []) (b := a5) B hR hl rfl I (c_P_fill hR e8) kw_T_62 (by decide) hk rfl (Nat.le_of_ble_eq_true rfl) (Nat.le_of_ble_eq_true rfl) rfl (by simp [cat_i, cat_r, cat_l, va_rf_cat]) d_T_write_8 (Nat.le_refl _) (Nat.le_refl _) (fun H locs I => ?_)
  refine q_aload_n (pc := 11) (i := 0) (v := .ref p0) hx hb d_T_write_11 rfl rfl (lx_get hl rfl) ?_
  refine ob1 hm (fun q10 e11 hm => ?_)
  refine k_getR (pc := 12) (z := 1) (k := 1) (index := 16) B hR I (by decide) (by decide) mF_T_16 rfl (fun _ _ => rfl) e11 d_T_write_12 ?_
  refine ob1 hm (fun a12 e13 hm => ?_)
  have hm_14 := hm; have hl_14 := hl; have I_14 := I
  subst e13
  have hm := hm_14; have hl := hl_14; have I := I_14
  refine ob1 hm (fun x15 e16 hm => ?_)
  refine k_getIN (pc := 15) (z := 5) (k := 1) (index := 66) B hR I (by decide) (by decide) nF_T_66 rfl (fun _ _ => rfl) e16 d_T_write_15 ?_
  cases hm
  exact q_iret (pc := 18) B I rfl d_T_write_18
def x_T_byteAt (N b0 : Nat) (K : cS) (p1 : Int64) (p2 : Int32) (S : cS) : Option Int32 :=
  some ((((p1.toUInt64 >>> ((8 * p2).toInt64.toUInt64 &&& Int64.toUInt64 63)).toInt64).toInt32) &&& 255)
set_option maxRecDepth 100000 in
set_option maxHeartbeats 4000000 in
theorem c_T_byteAt {p1 : Int64} {p2 : Int32} {S : cS} {r : Int32} (hR : CR b0 K Z) (hm : x_T_byteAt N b0 K p1 p2 S = some r) : Ct l D vwCl (tyL dA) b0 Z y_T_byteAt (.code y_T_byteAt cb_T_byteAt 3 (some .int) :: wsA) 0 0 [.long p1, .int p2] (cH dA b0 S hp0) sz (some (.int r)) (cH dA b0 S hp0) 0 0 := by
  refine ct_ofF (cc := cb_T_byteAt) (maxL := 3) (ret := (some .int)) (lo0 := [some (.long p1), none, some (.int p2)]) hR.1 (by decide +kernel) rfl (by simp [lg_sl, cat_i, cat_r, cat_l, va_rf_cat]) rfl (by simp [lx_all, lv_args, cat_i, cat_r, cat_l, va_rf_cat]) ?_
  intro p e s m args below meth c ls B hnm hl I
  obtain ⟨hx, hb, -⟩ := B.1
  unfold x_T_byteAt at hm
  refine lv_lload_n (pc := 0) (i := 0) hx hb d_T_byteAt_0 rfl (lx_get hl rfl) ?_
  refine lv_bipush (pc := 1) (v := 8) hx hb d_T_byteAt_1 (by decide) ?_
  refine lv_iload_n (pc := 3) (i := 2) hx hb d_T_byteAt_3 rfl (lx_get hl rfl) ?_
  refine lv_imul (pc := 4) hx hb d_T_byteAt_4 ?_
  refine lv_lushr (pc := 5) hx hb d_T_byteAt_5 rfl ?_
  refine lv_l2i (pc := 6) hx hb d_T_byteAt_6 rfl ?_
  refine lv_sipush (pc := 7) (v := 255) hx hb d_T_byteAt_7 (by decide) ?_
  refine lv_iand (pc := 10) hx hb d_T_byteAt_10 ?_
  cases hm
  exact q_iret (pc := 11) B I rfl d_T_byteAt_11
def x_T_allAreCharacters_37 (N b0 : Nat) (K : cS) (K2 : Int64 → Int32 → Int32 → cS → Option Int32) (y0 : Int64) (y2 : Int32) (y3 : Int32) (S : cS) : Option Int32 :=
  K2 y0 y2 (y3 + 1) S
set_option maxRecDepth 100000 in
set_option maxHeartbeats 4000000 in
theorem w_T_allAreCharacters_37 {K2 : Int64 → Int32 → Int32 → cS → Option Int32} {y0 : Int64} {y2 : Int32} {y3 : Int32} {S : cS} (hK2 : ∀ (y0 : Int64) (y2 : Int32) (y3 : Int32) (S : cS) (ls : Array Slot) (H : Heap) (locs : List Loc), lx ls [some (.long y0), none, some (.int y2), some (.int y3), none] → AI D vwCl b0 (cH dA b0 S hp0) sz s.heap H locs → K2 y0 y2 y3 S = some r → W p l e { frames := 1, cells := 0, slots := 0, locals := 22 } s m args below meth c H locs 0 0 (MQ below (CQ D vwCl b0 (some (.int r)) (cH dA b0 S hp0) sz) args s 0 0 (fun q => b0 ≤ q)) (F0 m 2 ls [])) (B : BX p m c cb_T_allAreCharacters 5 s args (.code y_T_allAreCharacters cb_T_allAreCharacters 5 (some .boolean) :: wsA) RZ1 meth (some .boolean) D vwCl (tyL dA) b0 Z) (hR : CR b0 K Z) (hl : lx ls [some (.long y0), none, some (.int y2), some (.int y3), none]) (I : AI D vwCl b0 (cH dA b0 S hp0) sz s.heap H locs)  (hm : x_T_allAreCharacters_37 N b0 K K2 y0 y2 y3 S = some r) : W p l e { frames := 1, cells := 0, slots := 0, locals := 22 } s m args below meth c H locs 0 0 (MQ below (CQ D vwCl b0 (some (.int r)) (cH dA b0 S hp0) sz) args s 0 0 (fun q => b0 ≤ q)) (F0 m 37 ls []) := by
  obtain ⟨hx, hb, -⟩ := B.1
  unfold x_T_allAreCharacters_37 at hm
  refine q_iinc (pc := 37) (i := 3) (v := y3 + 1) (lo' := [some (.long y0), none, some (.int y2), some (.int (y3 + 1)), none]) hx hb d_T_allAreCharacters_37 hl rfl rfl (Nat.le_of_ble_eq_true rfl) (lx_ci rfl) rfl (fun ls hl => ?_)
  refine lv_goto (pc := 40) (tgt := 2) hx hb d_T_allAreCharacters_40 (by decide) ?_
  exact hK2 y0 y2 (y3 + 1) S _ _ _ hl I hm
def x_T_allAreCharacters_2F (N b0 : Nat) (K : cS) (K2 : Int64 → Int32 → Int32 → cS → Option Int32) (y0 : Int64) (y2 : Int32) (y3 : Int32) (S : cS) : Option Int32 :=
  if y2 ≤ y3 then (some 1) else (b1 (x_T_byteAt N b0 K y0 y3 S) (fun x2 => if x2 = 10 then (x_T_allAreCharacters_37 N b0 K K2 y0 y2 y3 S) else (if x2 < 32 then (some 0) else (if x2 ≤ 126 then (x_T_allAreCharacters_37 N b0 K K2 y0 y2 y3 S) else (some 0)))))
def x_T_allAreCharacters_2 (N b0 : Nat) (K : cS) : Nat → Int64 → Int32 → Int32 → cS → Option Int32
  | 0, _, _, _, _ => none
  | k + 1, y0, y2, y3, S => x_T_allAreCharacters_2F N b0 K  (x_T_allAreCharacters_2 N b0 K  k) y0 y2 y3 S
set_option maxRecDepth 100000 in
set_option maxHeartbeats 4000000 in
theorem w_T_allAreCharacters_2F {K2 : Int64 → Int32 → Int32 → cS → Option Int32} {y0 : Int64} {y2 : Int32} {y3 : Int32} {S : cS} (hK2 : ∀ (y0 : Int64) (y2 : Int32) (y3 : Int32) (S : cS) (ls : Array Slot) (H : Heap) (locs : List Loc), lx ls [some (.long y0), none, some (.int y2), some (.int y3), none] → AI D vwCl b0 (cH dA b0 S hp0) sz s.heap H locs → K2 y0 y2 y3 S = some r → W p l e { frames := 1, cells := 0, slots := 0, locals := 22 } s m args below meth c H locs 0 0 (MQ below (CQ D vwCl b0 (some (.int r)) (cH dA b0 S hp0) sz) args s 0 0 (fun q => b0 ≤ q)) (F0 m 2 ls [])) (B : BX p m c cb_T_allAreCharacters 5 s args (.code y_T_allAreCharacters cb_T_allAreCharacters 5 (some .boolean) :: wsA) RZ1 meth (some .boolean) D vwCl (tyL dA) b0 Z) (hR : CR b0 K Z) (hl : lx ls [some (.long y0), none, some (.int y2), some (.int y3), none]) (I : AI D vwCl b0 (cH dA b0 S hp0) sz s.heap H locs)  (hm : x_T_allAreCharacters_2F N b0 K  K2 y0 y2 y3 S = some r) : W p l e { frames := 1, cells := 0, slots := 0, locals := 22 } s m args below meth c H locs 0 0 (MQ below (CQ D vwCl b0 (some (.int r)) (cH dA b0 S hp0) sz) args s 0 0 (fun q => b0 ≤ q)) (F0 m 2 ls []) := by
  obtain ⟨hx, hb, -⟩ := B.1
  unfold x_T_allAreCharacters_2F at hm
  refine lv_iload_n (pc := 2) (i := 3) hx hb d_T_allAreCharacters_2 rfl (lx_get hl rfl) ?_
  refine lv_iload_n (pc := 3) (i := 2) hx hb d_T_allAreCharacters_3 rfl (lx_get hl rfl) ?_
  refine lv_icmp_ge (pc := 4) (tgt := 43) hx hb d_T_allAreCharacters_4 (by decide) (fun hcc => ?_) (fun hcc => ?_)
  · have hm := ift hcc hm
    refine lv_iconst (pc := 43) (v := 1) hx hb d_T_allAreCharacters_43 (by decide) ?_
    cases hm
    exact q_zret (pc := 44) B I rfl (by decide) d_T_allAreCharacters_44
  · have hm := iff' hcc hm
    refine lv_lload_n (pc := 7) (i := 0) hx hb d_T_allAreCharacters_7 rfl (lx_get hl rfl) ?_
    refine lv_iload_n (pc := 8) (i := 3) hx hb d_T_allAreCharacters_8 rfl (lx_get hl rfl) ?_
    refine ob1 hm (fun x2 e1 hm => ?_)
    refine k_callS (pc := 9) (As := [.long y0, .int y3]) (rest := []) B hl rfl I (c_T_byteAt hR e1) kw_T_46 rfl (Nat.le_of_ble_eq_true rfl) (Nat.le_of_ble_eq_true rfl) rfl (by simp [cat_i, cat_r, cat_l, va_rf_cat]) d_T_allAreCharacters_9 (Nat.le_refl _) (Nat.le_refl _) (fun H locs I => ?_)
    refine q_istore (pc := 12) (i := 4) (lo' := [some (.long y0), none, some (.int y2), some (.int y3), some (.int x2)]) hx hb d_T_allAreCharacters_12 hl (Nat.le_of_ble_eq_true rfl) (lx_ci rfl) rfl (fun ls hl => ?_)
    refine lv_iload (pc := 14) (i := 4) hx hb d_T_allAreCharacters_14 (lx_get hl rfl) ?_
    refine lv_bipush (pc := 16) (v := 10) hx hb d_T_allAreCharacters_16 (by decide) ?_
    refine lv_icmp_eq (pc := 18) (tgt := 37) hx hb d_T_allAreCharacters_18 (by decide) (fun hcc => ?_) (fun hcc => ?_)
    · have hm := ift hcc hm
      exact w_T_allAreCharacters_37 (y0 := y0) (y2 := y2) (y3 := y3) hK2 B hR (lx_sub (lo' := [some (.long y0), none, some (.int y2), some (.int y3), none]) hl (by simp [lx_le])) I hm
    · have hm := iff' hcc hm
      refine lv_iload (pc := 21) (i := 4) hx hb d_T_allAreCharacters_21 (lx_get hl rfl) ?_
      refine lv_bipush (pc := 23) (v := 32) hx hb d_T_allAreCharacters_23 (by decide) ?_
      refine lv_icmp_lt (pc := 25) (tgt := 35) hx hb d_T_allAreCharacters_25 (by decide) (fun hcc => ?_) (fun hcc => ?_)
      · have hm := ift hcc hm
        refine lv_iconst (pc := 35) (v := 0) hx hb d_T_allAreCharacters_35 (by decide) ?_
        cases hm
        exact q_zret (pc := 36) B I rfl (by decide) d_T_allAreCharacters_36
      · have hm := iff' hcc hm
        refine lv_iload (pc := 28) (i := 4) hx hb d_T_allAreCharacters_28 (lx_get hl rfl) ?_
        refine lv_bipush (pc := 30) (v := 126) hx hb d_T_allAreCharacters_30 (by decide) ?_
        refine lv_icmp_le (pc := 32) (tgt := 37) hx hb d_T_allAreCharacters_32 (by decide) (fun hcc => ?_) (fun hcc => ?_)
        · have hm := ift hcc hm
          exact w_T_allAreCharacters_37 (y0 := y0) (y2 := y2) (y3 := y3) hK2 B hR (lx_sub (lo' := [some (.long y0), none, some (.int y2), some (.int y3), none]) hl (by simp [lx_le])) I hm
        · have hm := iff' hcc hm
          refine lv_iconst (pc := 35) (v := 0) hx hb d_T_allAreCharacters_35 (by decide) ?_
          cases hm
          exact q_zret (pc := 36) B I rfl (by decide) d_T_allAreCharacters_36
set_option maxRecDepth 100000 in
set_option maxHeartbeats 4000000 in
theorem w_T_allAreCharacters_2i (B : BX p m c cb_T_allAreCharacters 5 s args (.code y_T_allAreCharacters cb_T_allAreCharacters 5 (some .boolean) :: wsA) RZ1 meth (some .boolean) D vwCl (tyL dA) b0 Z) (hR : CR b0 K Z) (k : Nat) (y0 : Int64) (y2 : Int32) (y3 : Int32) (S : cS) (ls : Array Slot) (H : Heap) (locs : List Loc) (hl : lx ls [some (.long y0), none, some (.int y2), some (.int y3), none]) (I : AI D vwCl b0 (cH dA b0 S hp0) sz s.heap H locs)  (hm : x_T_allAreCharacters_2 N b0 K  k y0 y2 y3 S = some r) : W p l e { frames := 1, cells := 0, slots := 0, locals := 22 } s m args below meth c H locs 0 0 (MQ below (CQ D vwCl b0 (some (.int r)) (cH dA b0 S hp0) sz) args s 0 0 (fun q => b0 ≤ q)) (F0 m 2 ls []) := by
  induction k generalizing y0 y2 y3 S ls H locs with
  | zero => cases hm
  | succ k ih => exact w_T_allAreCharacters_2F  (fun y0 y2 y3 S ls H locs hl I hm => ih y0 y2 y3 S ls H locs hl I hm) B hR hl I hm
theorem w_T_allAreCharacters_2 {y0 : Int64} {y2 : Int32} {y3 : Int32} {S : cS} (B : BX p m c cb_T_allAreCharacters 5 s args (.code y_T_allAreCharacters cb_T_allAreCharacters 5 (some .boolean) :: wsA) RZ1 meth (some .boolean) D vwCl (tyL dA) b0 Z) (hR : CR b0 K Z) (hl : lx ls [some (.long y0), none, some (.int y2), some (.int y3), none]) (I : AI D vwCl b0 (cH dA b0 S hp0) sz s.heap H locs)  {k : Nat} (hm : x_T_allAreCharacters_2 N b0 K  k y0 y2 y3 S = some r) : W p l e { frames := 1, cells := 0, slots := 0, locals := 22 } s m args below meth c H locs 0 0 (MQ below (CQ D vwCl b0 (some (.int r)) (cH dA b0 S hp0) sz) args s 0 0 (fun q => b0 ≤ q)) (F0 m 2 ls []) := w_T_allAreCharacters_2i  B hR k _ _ _ S ls H locs hl I hm
def x_T_allAreCharacters (N b0 : Nat) (K : cS) (p1 : Int64) (p2 : Int32) (S : cS) : Option Int32 :=
  x_T_allAreCharacters_2 N b0 K  N p1 p2 0 S
set_option maxRecDepth 100000 in
set_option maxHeartbeats 4000000 in
theorem c_T_allAreCharacters {p1 : Int64} {p2 : Int32} {S : cS} {r : Int32} (hR : CR b0 K Z) (hm : x_T_allAreCharacters N b0 K p1 p2 S = some r) : Ct l D vwCl (tyL dA) b0 Z y_T_allAreCharacters (.code y_T_allAreCharacters cb_T_allAreCharacters 5 (some .boolean) :: wsA) 1 22 [.long p1, .int p2] (cH dA b0 S hp0) sz (some (.int r)) (cH dA b0 S hp0) 0 0 := by
  refine ct_ofF (cc := cb_T_allAreCharacters) (maxL := 5) (ret := (some .boolean)) (lo0 := [some (.long p1), none, some (.int p2), none, none]) hR.1 (by decide +kernel) rfl (by simp [lg_sl, cat_i, cat_r, cat_l, va_rf_cat]) rfl (by simp [lx_all, lv_args, cat_i, cat_r, cat_l, va_rf_cat]) ?_
  intro p e s m args below meth c ls B hnm hl I
  obtain ⟨hx, hb, -⟩ := B.1
  unfold x_T_allAreCharacters at hm
  refine lv_iconst (pc := 0) (v := 0) hx hb d_T_allAreCharacters_0 (by decide) ?_
  refine q_istore_n (pc := 1) (i := 3) (lo' := [some (.long p1), none, some (.int p2), some (.int 0), none]) hx hb d_T_allAreCharacters_1 rfl hl (Nat.le_of_ble_eq_true rfl) (lx_ci rfl) rfl (fun ls hl => ?_)
  exact w_T_allAreCharacters_2 (y0 := p1) (y2 := p2) (y3 := 0)  B hR hl I hm
end CW
