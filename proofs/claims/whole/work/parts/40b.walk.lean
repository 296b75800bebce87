section CW
variable {p : Program} {l : Launch} {e : Env} {s : State} {m : MethodId} {args : Array Value} {below : List Frame} {meth : Method} {c : Code} {H : Heap} {locs : List Loc}
variable {ls : Array Slot} {D : va_G} {dA : Nat → ClassId} {hp0 : aH} {sz sz0 b0 N : Nat} {cells slots dc ds mc ms : Nat} {S' K : cS} {r : Int32} {q : Option Nat} {Z : State → Prop}
def x_N_init (N b0 : Nat) (K : cS) (p0 : Nat) (p1 : Int32) (p2 : Int32) (S : cS) : Option cS :=
  b1 (pI b0 S 2 0 p0 p1) (fun S1 => b1 (pI b0 S1 2 1 p0 p2) (fun S3 => some S3))
set_option maxRecDepth 100000 in
set_option maxHeartbeats 4000000 in
theorem c_N_init {p0 : Nat} {p1 : Int32} {p2 : Int32} {S S' : cS} (hR : CR b0 K Z) (hm : x_N_init N b0 K p0 p1 p2 S = some S') : Ct l D vwCl (tyL dA) b0 Z y_N_init (.code y_N_init cb_N_init 3 none :: wsA) 1 20 [.ref p0, .int p1, .int p2] (cH dA b0 S hp0) sz none (cH dA b0 S' hp0) 0 0 := by
  refine ct_ofF (cc := cb_N_init) (maxL := 3) (ret := none) (lo0 := [some (.ref p0), some (.int p1), some (.int p2)]) hR.1 (by decide) rfl (by simp [lg_sl, cat_i, cat_r, cat_l, va_rf_cat]) rfl (by simp [lx_all, lv_args, cat_i, cat_r, cat_l, va_rf_cat]) ?_
  intro p e s m args below meth c ls B hnm hl I
  obtain ⟨hx, hb, -⟩ := B.1
  unfold x_N_init at hm
  refine q_aload_n (pc := 0) (i := 0) (v := .ref p0) hx hb d_N_init_0 rfl rfl (lx_get hl rfl) ?_
  refine k_obj (pc := 1) (index := 3) B hl rfl mO_N_3 mA_oI mA_oC (Nat.le_of_ble_eq_true rfl) (Nat.le_of_ble_eq_true rfl) d_N_init_1 ?_
  refine q_aload_n (pc := 4) (i := 0) (v := .ref p0) hx hb d_N_init_4 rfl rfl (lx_get hl rfl) ?_
  refine lv_iload_n (pc := 5) (i := 1) hx hb d_N_init_5 rfl (lx_get hl rfl) ?_
  refine ob1 hm (fun S1 e2 hm => ?_)
  refine k_putI (pc := 6) (z := 2) (k := 0) (index := 9) (v := p1) B I (by decide) (by decide) mF_N_9 rfl rfl rfl rfl cset_2_0 e2 d_N_init_6 (fun H locs I => ?_)
  refine q_aload_n (pc := 9) (i := 0) (v := .ref p0) hx hb d_N_init_9 rfl rfl (lx_get hl rfl) ?_
  refine lv_iload_n (pc := 10) (i := 2) hx hb d_N_init_10 rfl (lx_get hl rfl) ?_
  refine ob1 hm (fun S3 e4 hm => ?_)
  refine k_putI (pc := 11) (z := 2) (k := 1) (index := 15) (v := p2) B I (by decide) (by decide) mF_N_15 rfl rfl rfl rfl cset_2_1 e4 d_N_init_11 (fun H locs I => ?_)
  cases hm
  exact q_vret (pc := 14) B I rfl d_N_init_14
def x_N_isTable (N b0 : Nat) (K : cS) (p0 : Nat) (S : cS) : Option Int32 :=
  b1 (gI b0 K S 2 0 p0) (fun x1 => if x1 < 7 then (some 0) else (some 1))
set_option maxRecDepth 100000 in
set_option maxHeartbeats 4000000 in
theorem c_N_isTable {p0 : Nat} {S : cS} {r : Int32} (hR : CR b0 K Z) (hm : x_N_isTable N b0 K p0 S = some r) : Ct l D vwCl (tyL dA) b0 Z y_N_isTable (.code y_N_isTable cb_N_isTable 1 (some .boolean) :: wsA) 0 0 [.ref p0] (cH dA b0 S hp0) sz (some (.int r)) (cH dA b0 S hp0) 0 0 := by
  refine ct_ofF (cc := cb_N_isTable) (maxL := 1) (ret := (some .boolean)) (lo0 := [some (.ref p0)]) hR.1 (by decide) rfl (by simp [lg_sl, cat_i, cat_r, cat_l, va_rf_cat]) rfl (by simp [lx_all, lv_args, cat_i, cat_r, cat_l, va_rf_cat]) ?_
  intro p e s m args below meth c ls B hnm hl I
  obtain ⟨hx, hb, -⟩ := B.1
  unfold x_N_isTable at hm
  refine q_aload_n (pc := 0) (i := 0) (v := .ref p0) hx hb d_N_isTable_0 rfl rfl (lx_get hl rfl) ?_
  refine ob1 hm (fun x1 e2 hm => ?_)
  refine k_getI (pc := 1) (z := 2) (k := 0) (index := 9) B hR I (by decide) (by decide) mF_N_9 rfl (fun _ _ => rfl) e2 d_N_isTable_1 ?_
  refine lv_bipush (pc := 4) (v := 7) hx hb d_N_isTable_4 (by decide) ?_
  refine lv_icmp_lt (pc := 6) (tgt := 13) hx hb d_N_isTable_6 (by decide) (fun hc => ?_) (fun hc => ?_)
  · have hm := ift hc hm
    refine lv_iconst (pc := 13) (v := 0) hx hb d_N_isTable_13 (by decide) ?_
    cases hm
    exact q_zret (pc := 14) B I rfl (by decide) d_N_isTable_14
  · have hm := iff' hc hm
    refine lv_iconst (pc := 9) (v := 1) hx hb d_N_isTable_9 (by decide) ?_
    refine lv_goto (pc := 10) (tgt := 14) hx hb d_N_isTable_10 (by decide) ?_
    cases hm
    exact q_zret (pc := 14) B I rfl (by decide) d_N_isTable_14
def x_N_isList (N b0 : Nat) (K : cS) (p0 : Nat) (S : cS) : Option Int32 :=
  b1 (gI b0 K S 2 0 p0) (fun x1 => if x1 = 5 then (some 1) else (b1 (gI b0 K S 2 0 p0) (fun x3 => if x3 = 6 then (some 1) else (some 0))))
set_option maxRecDepth 100000 in
set_option maxHeartbeats 4000000 in
theorem c_N_isList {p0 : Nat} {S : cS} {r : Int32} (hR : CR b0 K Z) (hm : x_N_isList N b0 K p0 S = some r) : Ct l D vwCl (tyL dA) b0 Z y_N_isList (.code y_N_isList cb_N_isList 1 (some .boolean) :: wsA) 0 0 [.ref p0] (cH dA b0 S hp0) sz (some (.int r)) (cH dA b0 S hp0) 0 0 := by
  refine ct_ofF (cc := cb_N_isList) (maxL := 1) (ret := (some .boolean)) (lo0 := [some (.ref p0)]) hR.1 (by decide) rfl (by simp [lg_sl, cat_i, cat_r, cat_l, va_rf_cat]) rfl (by simp [lx_all, lv_args, cat_i, cat_r, cat_l, va_rf_cat]) ?_
  intro p e s m args below meth c ls B hnm hl I
  obtain ⟨hx, hb, -⟩ := B.1
  unfold x_N_isList at hm
  refine q_aload_n (pc := 0) (i := 0) (v := .ref p0) hx hb d_N_isList_0 rfl rfl (lx_get hl rfl) ?_
  refine ob1 hm (fun x1 e2 hm => ?_)
  refine k_getI (pc := 1) (z := 2) (k := 0) (index := 9) B hR I (by decide) (by decide) mF_N_9 rfl (fun _ _ => rfl) e2 d_N_isList_1 ?_
  refine lv_iconst (pc := 4) (v := 5) hx hb d_N_isList_4 (by decide) ?_
  refine lv_icmp_eq (pc := 5) (tgt := 17) hx hb d_N_isList_5 (by decide) (fun hc => ?_) (fun hc => ?_)
  · have hm := ift hc hm
    refine lv_iconst (pc := 17) (v := 1) hx hb d_N_isList_17 (by decide) ?_
    refine lv_goto (pc := 18) (tgt := 22) hx hb d_N_isList_18 (by decide) ?_
    cases hm
    exact q_zret (pc := 22) B I rfl (by decide) d_N_isList_22
  · have hm := iff' hc hm
    refine q_aload_n (pc := 8) (i := 0) (v := .ref p0) hx hb d_N_isList_8 rfl rfl (lx_get hl rfl) ?_
    refine ob1 hm (fun x3 e4 hm => ?_)
    refine k_getI (pc := 9) (z := 2) (k := 0) (index := 9) B hR I (by decide) (by decide) mF_N_9 rfl (fun _ _ => rfl) e4 d_N_isList_9 ?_
    refine lv_bipush (pc := 12) (v := 6) hx hb d_N_isList_12 (by decide) ?_
    refine lv_icmp_ne (pc := 14) (tgt := 21) hx hb d_N_isList_14 (by decide) (fun hc => ?_) (fun hc => ?_)
    · have hm := iff' hc hm
      refine lv_iconst (pc := 21) (v := 0) hx hb d_N_isList_21 (by decide) ?_
      cases hm
      exact q_zret (pc := 22) B I rfl (by decide) d_N_isList_22
    · have hm := ift hc hm
      refine lv_iconst (pc := 17) (v := 1) hx hb d_N_isList_17 (by decide) ?_
      refine lv_goto (pc := 18) (tgt := 22) hx hb d_N_isList_18 (by decide) ?_
      cases hm
      exact q_zret (pc := 22) B I rfl (by decide) d_N_isList_22
def x_N_add_28 (N b0 : Nat) (K : cS) (y0 : Nat) (y1 : Nat) (S : cS) : Option cS :=
  b1 (pR b0 S 2 6 y0 (some y1)) (fun S1 => b1 (gI b0 K S1 2 1 y0) (fun x3 => b1 (pI b0 S1 2 1 y0 (x3 + 1)) (fun S5 => some S5)))
set_option maxRecDepth 100000 in
set_option maxHeartbeats 4000000 in
theorem w_N_add_28 {y0 : Nat} {y1 : Nat} {S : cS} (B : BX p m c cb_N_add 2 s args (.code y_N_add cb_N_add 2 none :: wsA) RZ2 meth none D vwCl (tyL dA) b0 Z) (hR : CR b0 K Z) (hl : lx ls [some (.ref y0), some (.ref y1)]) (I : AI D vwCl b0 (cH dA b0 S hp0) sz s.heap H locs)  (hm : x_N_add_28 N b0 K  y0 y1 S = some S') : W p l e { frames := 0, cells := 0, slots := 0, locals := 0 } s m args below meth c H locs 0 0 (MQ below (CQ D vwCl b0 none (cH dA b0 S' hp0) sz) args s 0 0 (fun q => b0 ≤ q)) (F0 m 28 ls []) := by
  obtain ⟨hx, hb, -⟩ := B.1
  unfold x_N_add_28 at hm
  refine q_aload_n (pc := 28) (i := 0) (v := .ref y0) hx hb d_N_add_28 rfl rfl (lx_get hl rfl) ?_
  refine q_aload_n (pc := 29) (i := 1) (v := .ref y1) hx hb d_N_add_29 rfl rfl (lx_get hl rfl) ?_
  refine ob1 hm (fun S1 e2 hm => ?_)
  refine k_putR (pc := 30) (z := 2) (k := 6) (index := 22) (v := (some y1)) B I (by decide) (by decide) mF_N_22 rfl rfl (Or.inl ⟨_, rfl⟩) cset_2_6 e2 d_N_add_30 (fun H locs I => ?_)
  refine q_aload_n (pc := 33) (i := 0) (v := .ref y0) hx hb d_N_add_33 rfl rfl (lx_get hl rfl) ?_
  refine lv_dup (pc := 34) hx hb d_N_add_34 rfl ?_
  refine ob1 hm (fun x3 e4 hm => ?_)
  refine k_getI (pc := 35) (z := 2) (k := 1) (index := 15) B hR I (by decide) (by decide) mF_N_15 rfl (fun _ _ => rfl) e4 d_N_add_35 ?_
  refine lv_iconst (pc := 38) (v := 1) hx hb d_N_add_38 (by decide) ?_
  refine lv_iadd (pc := 39) hx hb d_N_add_39 ?_
  refine ob1 hm (fun S5 e6 hm => ?_)
  refine k_putI (pc := 40) (z := 2) (k := 1) (index := 15) (v := (x3 + 1)) B I (by decide) (by decide) mF_N_15 rfl rfl rfl rfl cset_2_1 e6 d_N_add_40 (fun H locs I => ?_)
  cases hm
  exact q_vret (pc := 43) B I rfl d_N_add_43
def x_N_add (N b0 : Nat) (K : cS) (p0 : Nat) (p1 : Option Nat) (S : cS) : Option cS :=
  b1 p1 (fun a1 => b1 (pR b0 S 2 4 a1 (some p0)) (fun S4 => b1 (gR b0 K S4 2 6 p0) (fun q6 => om q6 (b1 (pR b0 S4 2 5 p0 (some a1)) (fun S10 => x_N_add_28 N b0 K  p0 a1 S10)) (fun a9 => b1 (gR b0 K S4 2 6 p0) (fun q12 => b1 q12 (fun a14 => b1 (pR b0 S4 2 7 a14 (some a1)) (fun S17 => x_N_add_28 N b0 K  p0 a1 S17)))))))
set_option maxRecDepth 100000 in
set_option maxHeartbeats 4000000 in
theorem c_N_add {p0 : Nat} {p1 : Option Nat} {S S' : cS} (hR : CR b0 K Z) (hm : x_N_add N b0 K p0 p1 S = some S') : Ct l D vwCl (tyL dA) b0 Z y_N_add (.code y_N_add cb_N_add 2 none :: wsA) 0 0 [.ref p0, va_rf p1] (cH dA b0 S hp0) sz none (cH dA b0 S' hp0) 0 0 := by
  refine ct_ofF (cc := cb_N_add) (maxL := 2) (ret := none) (lo0 := [some (.ref p0), some (va_rf p1)]) hR.1 (by decide) rfl (by simp [lg_sl, cat_i, cat_r, cat_l, va_rf_cat]) rfl (by simp [lx_all, lv_args, cat_i, cat_r, cat_l, va_rf_cat]) ?_
  intro p e s m args below meth c ls B hnm hl I
  obtain ⟨hx, hb, -⟩ := B.1
  unfold x_N_add at hm
  refine q_aload_n (pc := 0) (i := 1) (v := va_rf p1) hx hb d_N_add_0 rfl (va_rf_isRef _) (lx_get hl rfl) ?_
  refine q_aload_n (pc := 1) (i := 0) (v := .ref p0) hx hb d_N_add_1 rfl rfl (lx_get hl rfl) ?_
  refine ob1 hm (fun a1 e2 hm => ?_)
  have hm_3 := hm; have hl_3 := hl; have I_3 := I
  subst e2
  have hm := hm_3; have hl := hl_3; have I := I_3
  refine ob1 hm (fun S4 e5 hm => ?_)
  refine k_putR (pc := 2) (z := 2) (k := 4) (index := 18) (v := (some p0)) B I (by decide) (by decide) mF_N_18 rfl rfl (Or.inl ⟨_, rfl⟩) cset_2_4 e5 d_N_add_2 (fun H locs I => ?_)
  refine q_aload_n (pc := 5) (i := 0) (v := .ref p0) hx hb d_N_add_5 rfl rfl (lx_get hl rfl) ?_
  refine ob1 hm (fun q6 e7 hm => ?_)
  refine k_getR (pc := 6) (z := 2) (k := 6) (index := 22) B hR I (by decide) (by decide) mF_N_22 rfl (fun _ _ => rfl) e7 d_N_add_6 ?_
  refine oom hm (fun e8 hm => ?_) (fun a9 e8 hm => ?_)
  · have hm_19 := hm; have hl_19 := hl; have I_19 := I
    subst e8
    have hm := hm_19; have hl := hl_19; have I := I_19
    refine lv_ifnonnullN (pc := 9) hx hb d_N_add_9 ?_
    refine q_aload_n (pc := 12) (i := 0) (v := .ref p0) hx hb d_N_add_12 rfl rfl (lx_get hl rfl) ?_
    refine q_aload_n (pc := 13) (i := 1) (v := .ref a1) hx hb d_N_add_13 rfl rfl (lx_get hl rfl) ?_
    refine ob1 hm (fun S10 e11 hm => ?_)
    refine k_putR (pc := 14) (z := 2) (k := 5) (index := 25) (v := (some a1)) B I (by decide) (by decide) mF_N_25 rfl rfl (Or.inl ⟨_, rfl⟩) cset_2_5 e11 d_N_add_14 (fun H locs I => ?_)
    refine lv_goto (pc := 17) (tgt := 28) hx hb d_N_add_17 (by decide) ?_
    exact w_N_add_28  B hR hl I hm
  · have hm_19 := hm; have hl_19 := hl; have I_19 := I
    subst e8
    have hm := hm_19; have hl := hl_19; have I := I_19
    refine lv_ifnonnull (pc := 9) (tgt := 20) hx hb d_N_add_9 (by decide) ?_
    refine q_aload_n (pc := 20) (i := 0) (v := .ref p0) hx hb d_N_add_20 rfl rfl (lx_get hl rfl) ?_
    refine ob1 hm (fun q12 e13 hm => ?_)
    refine k_getR (pc := 21) (z := 2) (k := 6) (index := 22) B hR I (by decide) (by decide) mF_N_22 rfl (fun _ _ => rfl) e13 d_N_add_21 ?_
    refine q_aload_n (pc := 24) (i := 1) (v := .ref a1) hx hb d_N_add_24 rfl rfl (lx_get hl rfl) ?_
    refine ob1 hm (fun a14 e15 hm => ?_)
    have hm_16 := hm; have hl_16 := hl; have I_16 := I
    subst e15
    have hm := hm_16; have hl := hl_16; have I := I_16
    refine ob1 hm (fun S17 e18 hm => ?_)
    refine k_putR (pc := 25) (z := 2) (k := 7) (index := 28) (v := (some a1)) B I (by decide) (by decide) mF_N_28 rfl rfl (Or.inl ⟨_, rfl⟩) cset_2_7 e18 d_N_add_25 (fun H locs I => ?_)
    exact w_N_add_28  B hR hl I hm
def x_N_inner_13F (N b0 : Nat) (K : cS) (K13 : Int32 → Option Nat → Int32 → cS → Option (Option Nat)) (y1 : Int32) (y2 : Option Nat) (y3 : Int32) (S : cS) : Option (Option Nat) :=
  if y1 ≤ y3 then (some y2) else (om y2 (some none) (fun a2 => b1 (gR b0 K S 2 7 a2) (fun q3 => K13 y1 q3 (y3 + 1) S)))
def x_N_inner_13 (N b0 : Nat) (K : cS) : Nat → Int32 → Option Nat → Int32 → cS → Option (Option Nat)
  | 0, _, _, _, _ => none
  | k + 1, y1, y2, y3, S => x_N_inner_13F N b0 K  (x_N_inner_13 N b0 K  k) y1 y2 y3 S
set_option maxRecDepth 100000 in
set_option maxHeartbeats 4000000 in
theorem w_N_inner_13F {K13 : Int32 → Option Nat → Int32 → cS → Option (Option Nat)} {y1 : Int32} {y2 : Option Nat} {y3 : Int32} {S : cS} (hK13 : ∀ (y1 : Int32) (y2 : Option Nat) (y3 : Int32) (S : cS) (ls : Array Slot) (H : Heap) (locs : List Loc), lx ls [none, some (.int y1), some (va_rf y2), some (.int y3)] → AI D vwCl b0 (cH dA b0 S hp0) sz s.heap H locs → K13 y1 y2 y3 S = some q → W p l e { frames := 0, cells := 0, slots := 0, locals := 0 } s m args below meth c H locs 0 0 (MQ below (CQ D vwCl b0 (some (va_rf q)) (cH dA b0 S hp0) sz) args s 0 0 (fun q => b0 ≤ q)) (F0 m 13 ls [])) (B : BX p m c cb_N_inner 4 s args (.code y_N_inner cb_N_inner 4 (some (.object "TableText$Node")) :: wsA) RZ2 meth (some (.object "TableText$Node")) D vwCl (tyL dA) b0 Z) (hR : CR b0 K Z) (hl : lx ls [none, some (.int y1), some (va_rf y2), some (.int y3)]) (I : AI D vwCl b0 (cH dA b0 S hp0) sz s.heap H locs)  (hm : x_N_inner_13F N b0 K  K13 y1 y2 y3 S = some q) : W p l e { frames := 0, cells := 0, slots := 0, locals := 0 } s m args below meth c H locs 0 0 (MQ below (CQ D vwCl b0 (some (va_rf q)) (cH dA b0 S hp0) sz) args s 0 0 (fun q => b0 ≤ q)) (F0 m 13 ls []) := by
  obtain ⟨hx, hb, -⟩ := B.1
  unfold x_N_inner_13F at hm
  refine lv_iload_n (pc := 13) (i := 3) hx hb d_N_inner_13 rfl (lx_get hl rfl) ?_
  refine lv_iload_n (pc := 14) (i := 1) hx hb d_N_inner_14 rfl (lx_get hl rfl) ?_
  refine lv_icmp_ge (pc := 15) (tgt := 33) hx hb d_N_inner_15 (by decide) (fun hc => ?_) (fun hc => ?_)
  · have hm := ift hc hm
    refine q_aload_n (pc := 33) (i := 2) (v := va_rf y2) hx hb d_N_inner_33 rfl (va_rf_isRef _) (lx_get hl rfl) ?_
    cases hm
    exact q_aret (pc := 34) B I rfl (Or.inl ⟨_, rfl⟩) d_N_inner_34
  · have hm := iff' hc hm
    refine q_aload_n (pc := 18) (i := 2) (v := va_rf y2) hx hb d_N_inner_18 rfl (va_rf_isRef _) (lx_get hl rfl) ?_
    refine oom hm (fun e1 hm => ?_) (fun a2 e1 hm => ?_)
    · have hm_5 := hm; have hl_5 := hl; have I_5 := I
      subst e1
      have hm := hm_5; have hl := hl_5; have I := I_5
      refine lv_ifnullN (pc := 19) (tgt := 33) hx hb d_N_inner_19 (by decide) ?_
      refine q_aload_n (pc := 33) (i := 2) (v := va_rf none) hx hb d_N_inner_33 rfl (va_rf_isRef _) (lx_get hl rfl) ?_
      cases hm
      exact q_aret (pc := 34) B I rfl (Or.inl ⟨_, rfl⟩) d_N_inner_34
    · have hm_5 := hm; have hl_5 := hl; have I_5 := I
      subst e1
      have hm := hm_5; have hl := hl_5; have I := I_5
      refine lv_ifnull (pc := 19) hx hb d_N_inner_19 ?_
      refine q_aload_n (pc := 22) (i := 2) (v := .ref a2) hx hb d_N_inner_22 rfl rfl (lx_get hl rfl) ?_
      refine ob1 hm (fun q3 e4 hm => ?_)
      refine k_getR (pc := 23) (z := 2) (k := 7) (index := 28) B hR I (by decide) (by decide) mF_N_28 rfl (fun _ _ => rfl) e4 d_N_inner_23 ?_
      refine q_astore_n (pc := 26) (i := 2) (v := va_rf q3) (lo' := [none, some (.int y1), some (va_rf q3), some (.int y3)]) hx hb d_N_inner_26 rfl (va_rf_isRef _) hl (Nat.le_of_ble_eq_true rfl) (lx_ci rfl) rfl (fun ls hl => ?_)
      refine q_iinc (pc := 27) (i := 3) (v := y3 + 1) (lo' := [none, some (.int y1), some (va_rf q3), some (.int (y3 + 1))]) hx hb d_N_inner_27 hl rfl rfl (Nat.le_of_ble_eq_true rfl) (lx_cq rfl) rfl (fun ls hl => ?_)
      refine lv_goto (pc := 30) (tgt := 13) hx hb d_N_inner_30 (by decide) ?_
      exact hK13 _ _ _ _ _ _ _ hl I hm
set_option maxRecDepth 100000 in
set_option maxHeartbeats 4000000 in
theorem w_N_inner_13i (B : BX p m c cb_N_inner 4 s args (.code y_N_inner cb_N_inner 4 (some (.object "TableText$Node")) :: wsA) RZ2 meth (some (.object "TableText$Node")) D vwCl (tyL dA) b0 Z) (hR : CR b0 K Z) (k : Nat) (y1 : Int32) (y2 : Option Nat) (y3 : Int32) (S : cS) (ls : Array Slot) (H : Heap) (locs : List Loc) (hl : lx ls [none, some (.int y1), some (va_rf y2), some (.int y3)]) (I : AI D vwCl b0 (cH dA b0 S hp0) sz s.heap H locs)  (hm : x_N_inner_13 N b0 K  k y1 y2 y3 S = some q) : W p l e { frames := 0, cells := 0, slots := 0, locals := 0 } s m args below meth c H locs 0 0 (MQ below (CQ D vwCl b0 (some (va_rf q)) (cH dA b0 S hp0) sz) args s 0 0 (fun q => b0 ≤ q)) (F0 m 13 ls []) := by
  induction k generalizing y1 y2 y3 S ls H locs with
  | zero => cases hm
  | succ k ih => exact w_N_inner_13F  (fun y1 y2 y3 S ls H locs hl I hm => ih y1 y2 y3 S ls H locs hl I hm) B hR hl I hm
theorem w_N_inner_13 {y1 : Int32} {y2 : Option Nat} {y3 : Int32} {S : cS} (B : BX p m c cb_N_inner 4 s args (.code y_N_inner cb_N_inner 4 (some (.object "TableText$Node")) :: wsA) RZ2 meth (some (.object "TableText$Node")) D vwCl (tyL dA) b0 Z) (hR : CR b0 K Z) (hl : lx ls [none, some (.int y1), some (va_rf y2), some (.int y3)]) (I : AI D vwCl b0 (cH dA b0 S hp0) sz s.heap H locs)  {k : Nat} (hm : x_N_inner_13 N b0 K  k y1 y2 y3 S = some q) : W p l e { frames := 0, cells := 0, slots := 0, locals := 0 } s m args below meth c H locs 0 0 (MQ below (CQ D vwCl b0 (some (va_rf q)) (cH dA b0 S hp0) sz) args s 0 0 (fun q => b0 ≤ q)) (F0 m 13 ls []) := w_N_inner_13i  B hR k _ _ _ S ls H locs hl I hm
def x_N_inner (N b0 : Nat) (K : cS) (p0 : Nat) (p1 : Int32) (S : cS) : Option (Option Nat) :=
  if 0 ≤ p1 then (b1 (gR b0 K S 2 5 p0) (fun q1 => x_N_inner_13 N b0 K  N p1 q1 0 S)) else (some none)
set_option maxRecDepth 100000 in
set_option maxHeartbeats 4000000 in
theorem c_N_inner {p0 : Nat} {p1 : Int32} {S : cS} {q : Option Nat} (hR : CR b0 K Z) (hm : x_N_inner N b0 K p0 p1 S = some q) : Ct l D vwCl (tyL dA) b0 Z y_N_inner (.code y_N_inner cb_N_inner 4 (some (.object "TableText$Node")) :: wsA) 0 0 [.ref p0, .int p1] (cH dA b0 S hp0) sz (some (va_rf q)) (cH dA b0 S hp0) 0 0 := by
  refine ct_ofF (cc := cb_N_inner) (maxL := 4) (ret := (some (.object "TableText$Node"))) (lo0 := [some (.ref p0), some (.int p1), none, none]) hR.1 (by decide) rfl (by simp [lg_sl, cat_i, cat_r, cat_l, va_rf_cat]) rfl (by simp [lx_all, lv_args, cat_i, cat_r, cat_l, va_rf_cat]) ?_
  intro p e s m args below meth c ls B hnm hl I
  obtain ⟨hx, hb, -⟩ := B.1
  unfold x_N_inner at hm
  refine lv_iload_n (pc := 0) (i := 1) hx hb d_N_inner_0 rfl (lx_get hl rfl) ?_
  refine lv_if_ge (pc := 1) (tgt := 6) hx hb d_N_inner_1 (by decide) (fun hc => ?_) (fun hc => ?_)
  · have hm := ift hc hm
    refine q_aload_n (pc := 6) (i := 0) (v := .ref p0) hx hb d_N_inner_6 rfl rfl (lx_get hl rfl) ?_
    refine ob1 hm (fun q1 e2 hm => ?_)
    refine k_getR (pc := 7) (z := 2) (k := 5) (index := 25) B hR I (by decide) (by decide) mF_N_25 rfl (fun _ _ => rfl) e2 d_N_inner_7 ?_
    refine q_astore_n (pc := 10) (i := 2) (v := va_rf q1) (lo' := [some (.ref p0), some (.int p1), some (va_rf q1), none]) hx hb d_N_inner_10 rfl (va_rf_isRef _) hl (Nat.le_of_ble_eq_true rfl) (lx_ci rfl) rfl (fun ls hl => ?_)
    refine lv_iconst (pc := 11) (v := 0) hx hb d_N_inner_11 (by decide) ?_
    refine q_istore_n (pc := 12) (i := 3) (lo' := [some (.ref p0), some (.int p1), some (va_rf q1), some (.int 0)]) hx hb d_N_inner_12 rfl hl (Nat.le_of_ble_eq_true rfl) (lx_cq rfl) rfl (fun ls hl => ?_)
    exact w_N_inner_13  B hR (lx_sub (lo' := [none, some (.int p1), some (va_rf q1), some (.int 0)]) hl (by simp [lx_le])) I hm
  · have hm := iff' hc hm
    refine lv_null (pc := 4) hx hb d_N_inner_4 ?_
    cases hm
    exact q_aret (pc := 5) B I rfl (Or.inl ⟨_, rfl⟩) d_N_inner_5
def x_S_init (N b0 : Nat) (K : cS) (p0 : Nat) (p1 : Option Nat) (p2 : Int32) (S : cS) : Option cS :=
  b1 (pR b0 S 3 0 p0 p1) (fun S1 => b1 (pI b0 S1 3 1 p0 p2) (fun S3 => some S3))
set_option maxRecDepth 100000 in
set_option maxHeartbeats 4000000 in
theorem c_S_init {p0 : Nat} {p1 : Option Nat} {p2 : Int32} {S S' : cS} (hR : CR b0 K Z) (hm : x_S_init N b0 K p0 p1 p2 S = some S') : Ct l D vwCl (tyL dA) b0 Z y_S_init (.code y_S_init cb_S_init 3 none :: wsA) 1 20 [.ref p0, va_rf p1, .int p2] (cH dA b0 S hp0) sz none (cH dA b0 S' hp0) 0 0 := by
  refine ct_ofF (cc := cb_S_init) (maxL := 3) (ret := none) (lo0 := [some (.ref p0), some (va_rf p1), some (.int p2)]) hR.1 (by decide) rfl (by simp [lg_sl, cat_i, cat_r, cat_l, va_rf_cat]) rfl (by simp [lx_all, lv_args, cat_i, cat_r, cat_l, va_rf_cat]) ?_
  intro p e s m args below meth c ls B hnm hl I
  obtain ⟨hx, hb, -⟩ := B.1
  unfold x_S_init at hm
  refine q_aload_n (pc := 0) (i := 0) (v := .ref p0) hx hb d_S_init_0 rfl rfl (lx_get hl rfl) ?_
  refine k_obj (pc := 1) (index := 1) B hl rfl mO_S_1 mA_oI mA_oC (Nat.le_of_ble_eq_true rfl) (Nat.le_of_ble_eq_true rfl) d_S_init_1 ?_
  refine q_aload_n (pc := 4) (i := 0) (v := .ref p0) hx hb d_S_init_4 rfl rfl (lx_get hl rfl) ?_
  refine q_aload_n (pc := 5) (i := 1) (v := va_rf p1) hx hb d_S_init_5 rfl (va_rf_isRef _) (lx_get hl rfl) ?_
  refine ob1 hm (fun S1 e2 hm => ?_)
  refine k_putRF (pc := 6) (z := 3) (k := 0) (index := 7) (v := p1) B I (by decide) (by decide) mF_S_7 rfl rfl hnm rfl (Or.inl ⟨_, rfl⟩) cset_3_0 e2 d_S_init_6 (fun H locs I => ?_)
  refine q_aload_n (pc := 9) (i := 0) (v := .ref p0) hx hb d_S_init_9 rfl rfl (lx_get hl rfl) ?_
  refine lv_iload_n (pc := 10) (i := 2) hx hb d_S_init_10 rfl (lx_get hl rfl) ?_
  refine ob1 hm (fun S3 e4 hm => ?_)
  refine k_putIF (pc := 11) (z := 3) (k := 1) (index := 13) (v := p2) B I (by decide) (by decide) mF_S_13 rfl rfl hnm rfl rfl rfl cset_3_1 e4 d_S_init_11 (fun H locs I => ?_)
  cases hm
  exact q_vret (pc := 14) B I rfl d_S_init_14
def x_P_init (N b0 : Nat) (K : cS) (p0 : Nat) (sz : Nat) (S : cS) : Option (cS × Nat × Nat) :=
  b1 (nAo b0 S 11 sz 600) (fun S1 => wr3 1 (600 : Int32).toNatClampNeg (b1 (pR b0 S1 5 0 p0 (some sz)) (fun S3 => b1 (pI b0 S3 5 1 p0 0) (fun S5 => some (S5, 0, 0)))))
set_option maxRecDepth 100000 in
set_option maxHeartbeats 4000000 in
theorem c_P_init {p0 : Nat} {S S' : cS} {dc ds : Nat} (hR : CR b0 K Z) (hm : x_P_init N b0 K p0 sz S = some (S', dc, ds)) : Ct l D vwCl (tyL dA) b0 Z y_P_init (.code y_P_init cb_P_init 1 none :: wsA) 1 20 [.ref p0] (cH dA b0 S hp0) sz none (cH dA b0 S' hp0) dc ds := by
  refine ct_ofF (cc := cb_P_init) (maxL := 1) (ret := none) (lo0 := [some (.ref p0)]) hR.1 (by decide) rfl (by simp [lg_sl, cat_i, cat_r, cat_l, va_rf_cat]) rfl (by simp [lx_all, lv_args, cat_i, cat_r, cat_l, va_rf_cat]) ?_
  intro p e s m args below meth c ls B hnm hl I
  obtain ⟨hx, hb, -⟩ := B.1
  have hz : sz = sz + 0 := rfl
  have hc : 0 + dc = dc := Nat.zero_add _
  have hs : 0 + ds = ds := Nat.zero_add _
  unfold x_P_init at hm
  refine q_aload_n (pc := 0) (i := 0) (v := .ref p0) hx hb d_P_init_0 rfl rfl (lx_get hl rfl) ?_
  refine k_obj (pc := 1) (index := 3) B hl rfl mO_P_3 mA_oI mA_oC (Nat.le_of_ble_eq_true rfl) (Nat.le_of_ble_eq_true rfl) d_P_init_1 ?_
  refine q_aload_n (pc := 4) (i := 0) (v := .ref p0) hx hb d_P_init_4 rfl rfl (lx_get hl rfl) ?_
  refine lv_sipush (pc := 5) (v := 600) hx hb d_P_init_5 (by decide) ?_
  refine ob1 hm (fun S1 e2 hm => ?_)
  refine owr3 hm hc hs (fun dc ds hm hc hs => ?_)
  refine k_newa_c (pc := 8) B I mA_char (hr_ hc) (hr_ hs) e2 d_P_init_8 (fun H I => ?_)
  have hz := hzn (n := 1) hz
  refine ob1 hm (fun S3 e4 hm => ?_)
  refine k_putRF (pc := 10) (z := 5) (k := 0) (index := 9) (v := (some sz)) B I (by decide) (by decide) mF_P_9 rfl rfl hnm rfl (Or.inr ⟨_, rfl⟩) cset_5_0 e4 d_P_init_10 (fun H locs I => ?_)
  refine q_aload_n (pc := 13) (i := 0) (v := .ref p0) hx hb d_P_init_13 rfl rfl (lx_get hl rfl) ?_
  refine lv_iconst (pc := 14) (v := 0) hx hb d_P_init_14 (by decide) ?_
  refine ob1 hm (fun S5 e6 hm => ?_)
  refine k_putI (pc := 15) (z := 5) (k := 1) (index := 15) (v := 0) B I (by decide) (by decide) mF_P_15 rfl rfl rfl rfl cset_5_1 e6 d_P_init_15 (fun H locs I => ?_)
  cases hm
  exact q_vretA (pc := 18) B I hz hc hs rfl d_P_init_18
def x_T_init (N b0 : Nat) (K : cS) (p0 : Nat) (sz : Nat) (S : cS) : Option (cS × Nat × Nat) :=
  b1 (nAo b0 S 11 sz 240) (fun S1 => wr3 1 (240 : Int32).toNatClampNeg (b1 (pR b0 S1 1 0 p0 (some sz)) (fun S3 => wr3 1 2 (b1 (nOo b0 S3 5 (sz + 1)) (fun S5 => b3 (x_P_init N b0 K (sz + 1) ((sz + 1) + 1) S5) (fun S8 c9 d10 => wr3 c9 d10 (b1 (pR b0 S8 1 1 p0 (some (sz + 1))) (fun S11 => b1 (pI b0 S11 1 2 p0 0) (fun S13 => wr3 1 8 (b1 (nOo b0 S13 2 (((sz + 1) + 1) + c9)) (fun S15 => b1 (x_N_init N b0 K (((sz + 1) + 1) + c9) 7 0 S15) (fun S18 => b1 (pR b0 S18 1 3 p0 (some (((sz + 1) + 1) + c9))) (fun S19 => b1 (gR b0 K S19 1 3 p0) (fun q21 => b1 (pR b0 S19 1 4 p0 q21) (fun S23 => some (S23, 0, 0))))))))))))))))
set_option maxRecDepth 100000 in
set_option maxHeartbeats 4000000 in
theorem c_T_init {p0 : Nat} {S S' : cS} {dc ds : Nat} (hR : CR b0 K Z) (hm : x_T_init N b0 K p0 sz S = some (S', dc, ds)) : Ct l D vwCl (tyL dA) b0 Z y_T_init (.code y_T_init cb_T_init 1 none :: wsA) 2 42 [.ref p0] (cH dA b0 S hp0) sz none (cH dA b0 S' hp0) dc ds := by
  refine ct_ofF (cc := cb_T_init) (maxL := 1) (ret := none) (lo0 := [some (.ref p0)]) hR.1 (by decide) rfl (by simp [lg_sl, cat_i, cat_r, cat_l, va_rf_cat]) rfl (by simp [lx_all, lv_args, cat_i, cat_r, cat_l, va_rf_cat]) ?_
  intro p e s m args below meth c ls B hnm hl I
  obtain ⟨hx, hb, -⟩ := B.1
  have hz : sz = sz + 0 := rfl
  have hc : 0 + dc = dc := Nat.zero_add _
  have hs : 0 + ds = ds := Nat.zero_add _
  unfold x_T_init at hm
  refine q_aload_n (pc := 0) (i := 0) (v := .ref p0) hx hb d_T_init_0 rfl rfl (lx_get hl rfl) ?_
  refine k_obj (pc := 1) (index := 3) B hl rfl mO_T_3 mA_oI mA_oC (Nat.le_of_ble_eq_true rfl) (Nat.le_of_ble_eq_true rfl) d_T_init_1 ?_
  refine q_aload_n (pc := 4) (i := 0) (v := .ref p0) hx hb d_T_init_4 rfl rfl (lx_get hl rfl) ?_
  refine lv_sipush (pc := 5) (v := 240) hx hb d_T_init_5 (by decide) ?_
  refine ob1 hm (fun S1 e2 hm => ?_)
  refine owr3 hm hc hs (fun dc ds hm hc hs => ?_)
  refine k_newa_c (pc := 8) B I mA_char (hr_ hc) (hr_ hs) e2 d_T_init_8 (fun H I => ?_)
  have hz := hzn (n := 1) hz
  refine ob1 hm (fun S3 e4 hm => ?_)
  refine k_putRF (pc := 10) (z := 1) (k := 0) (index := 9) (v := (some sz)) B I (by decide) (by decide) mF_T_9 rfl rfl hnm rfl (Or.inr ⟨_, rfl⟩) cset_1_0 e4 d_T_init_10 (fun H locs I => ?_)
  refine q_aload_n (pc := 13) (i := 0) (v := .ref p0) hx hb d_T_init_13 rfl rfl (lx_get hl rfl) ?_
  refine owr3 hm hc hs (fun dc ds hm hc hs => ?_)
  refine ob1 hm (fun S5 e6 hm => ?_)
  refine k_new (pc := 14) (z := 5) (index := 13) (n := 2) B I (by decide) mC_T_13 mI_5 mN_5 nf_5 (hr_ hc) (hr_ hs) e6 d_T_init_14 (fun H I => ?_)
  have hz := hzn (n := 1) hz
  refine lv_dup (pc := 17) hx hb d_T_init_17 rfl ?_
  refine ob3 hm (fun S8 c9 d10 e7 hm => ?_)
  refine owr3 hm hc hs (fun dc ds hm hc hs => ?_)
  refine k_callIN (pc := 18) (As := []) (rest := [.ref (sz + 1), .ref p0]) (b := (sz + 1)) B hR hl rfl I (c_P_init hR e7) kw_T_15 rfl (Nat.le_of_ble_eq_true rfl) (Nat.le_of_ble_eq_true rfl) rfl (by simp [cat_i, cat_r, cat_l, va_rf_cat]) d_T_init_18 (hr_ hc) (hr_ hs) (fun H locs I => ?_)
  have hz := hzn (n := c9) hz
  refine ob1 hm (fun S11 e12 hm => ?_)
  refine k_putRF (pc := 21) (z := 1) (k := 1) (index := 16) (v := (some (sz + 1))) B I (by decide) (by decide) mF_T_16 rfl rfl hnm rfl (Or.inl ⟨_, rfl⟩) cset_1_1 e12 d_T_init_21 (fun H locs I => ?_)
  refine q_aload_n (pc := 24) (i := 0) (v := .ref p0) hx hb d_T_init_24 rfl rfl (lx_get hl rfl) ?_
  refine lv_iconst (pc := 25) (v := 0) hx hb d_T_init_25 (by decide) ?_
  refine ob1 hm (fun S13 e14 hm => ?_)
  refine k_putI (pc := 26) (z := 1) (k := 2) (index := 20) (v := 0) B I (by decide) (by decide) mF_T_20 rfl rfl rfl rfl cset_1_2 e14 d_T_init_26 (fun H locs I => ?_)
  refine q_aload_n (pc := 29) (i := 0) (v := .ref p0) hx hb d_T_init_29 rfl rfl (lx_get hl rfl) ?_
  refine owr3 hm hc hs (fun dc ds hm hc hs => ?_)
  refine ob1 hm (fun S15 e16 hm => ?_)
  refine k_new (pc := 30) (z := 2) (index := 24) (n := 8) B I (by decide) mC_T_24 mI_2 mN_2 nf_2 (hr_ hc) (hr_ hs) e16 d_T_init_30 (fun H I => ?_)
  have hz := hzn (n := 1) hz
  refine lv_dup (pc := 33) hx hb d_T_init_33 rfl ?_
  refine lv_bipush (pc := 34) (v := 7) hx hb d_T_init_34 (by decide) ?_
  refine lv_iconst (pc := 36) (v := 0) hx hb d_T_init_36 (by decide) ?_
  refine ob1 hm (fun S18 e17 hm => ?_)
  refine k_callIN (pc := 37) (As := [.int 7, .int 0]) (rest := [.ref (((sz + 1) + 1) + c9), .ref p0]) (b := (((sz + 1) + 1) + c9)) B hR hl rfl I (c_N_init hR e17) kw_T_26 rfl (Nat.le_of_ble_eq_true rfl) (Nat.le_of_ble_eq_true rfl) rfl (by simp [cat_i, cat_r, cat_l, va_rf_cat]) d_T_init_37 (hr0 hc) (hr0 hs) (fun H locs I => ?_)
  refine ob1 hm (fun S19 e20 hm => ?_)
  refine k_putR (pc := 40) (z := 1) (k := 3) (index := 29) (v := (some (((sz + 1) + 1) + c9))) B I (by decide) (by decide) mF_T_29 rfl rfl (Or.inl ⟨_, rfl⟩) cset_1_3 e20 d_T_init_40 (fun H locs I => ?_)
  refine q_aload_n (pc := 43) (i := 0) (v := .ref p0) hx hb d_T_init_43 rfl rfl (lx_get hl rfl) ?_
  refine q_aload_n (pc := 44) (i := 0) (v := .ref p0) hx hb d_T_init_44 rfl rfl (lx_get hl rfl) ?_
  refine ob1 hm (fun q21 e22 hm => ?_)
  refine k_getR (pc := 45) (z := 1) (k := 3) (index := 29) B hR I (by decide) (by decide) mF_T_29 rfl (fun _ _ => rfl) e22 d_T_init_45 ?_
  refine ob1 hm (fun S23 e24 hm => ?_)
  refine k_putR (pc := 48) (z := 1) (k := 4) (index := 33) (v := q21) B I (by decide) (by decide) mF_T_33 rfl rfl (Or.inl ⟨_, rfl⟩) cset_1_4 e24 d_T_init_48 (fun H locs I => ?_)
  cases hm
  exact q_vretA (pc := 51) B I hz hc hs rfl d_T_init_51
def x_R_skipBlanks_0F (N b0 : Nat) (K : cS) (K0 : Nat → cS → Option cS) (y0 : Nat) (S : cS) : Option cS :=
  b1 (gI b0 K S 4 6 y0) (fun x1 => b1 (gI b0 K S 4 1 y0) (fun x3 => if x3 ≤ x1 then (some S) else (b1 (gR b0 K S 4 0 y0) (fun q5 => b1 (gI b0 K S 4 6 y0) (fun x7 => b1 q5 (fun a9 => b1 (aL b0 K S 11 a9 x7) (fun x12 => if x12 = 32 then (b1 (gI b0 K S 4 6 y0) (fun x14 => b1 (pI b0 S 4 6 y0 (x14 + 1)) (fun S16 => K0 y0 S16))) else (some S))))))))
def x_R_skipBlanks_0 (N b0 : Nat) (K : cS) : Nat → Nat → cS → Option cS
  | 0, _, _ => none
  | k + 1, y0, S => x_R_skipBlanks_0F N b0 K  (x_R_skipBlanks_0 N b0 K  k) y0 S
set_option maxRecDepth 100000 in
set_option maxHeartbeats 4000000 in
theorem w_R_skipBlanks_0F {K0 : Nat → cS → Option cS} {y0 : Nat} {S : cS} (hK0 : ∀ (y0 : Nat) (S : cS) (ls : Array Slot) (H : Heap) (locs : List Loc), lx ls [some (.ref y0)] → AI D vwCl b0 (cH dA b0 S hp0) sz s.heap H locs → K0 y0 S = some S' → W p l e { frames := 0, cells := 0, slots := 0, locals := 0 } s m args below meth c H locs 0 0 (MQ below (CQ D vwCl b0 none (cH dA b0 S' hp0) sz) args s 0 0 (fun q => b0 ≤ q)) (F0 m 0 ls [])) (B : BX p m c cb_R_skipBlanks 1 s args (.code y_R_skipBlanks cb_R_skipBlanks 1 none :: wsA) RZ4 meth none D vwCl (tyL dA) b0 Z) (hR : CR b0 K Z) (hl : lx ls [some (.ref y0)]) (I : AI D vwCl b0 (cH dA b0 S hp0) sz s.heap H locs)  (hm : x_R_skipBlanks_0F N b0 K  K0 y0 S = some S') : W p l e { frames := 0, cells := 0, slots := 0, locals := 0 } s m args below meth c H locs 0 0 (MQ below (CQ D vwCl b0 none (cH dA b0 S' hp0) sz) args s 0 0 (fun q => b0 ≤ q)) (F0 m 0 ls []) := by
  obtain ⟨hx, hb, -⟩ := B.1
  unfold x_R_skipBlanks_0F at hm
  refine q_aload_n (pc := 0) (i := 0) (v := .ref y0) hx hb d_R_skipBlanks_0 rfl rfl (lx_get hl rfl) ?_
  refine ob1 hm (fun x1 e2 hm => ?_)
  refine k_getI (pc := 1) (z := 4) (k := 6) (index := 45) B hR I (by decide) (by decide) mF_R_45 rfl (fun _ _ => rfl) e2 d_R_skipBlanks_1 ?_
  refine q_aload_n (pc := 4) (i := 0) (v := .ref y0) hx hb d_R_skipBlanks_4 rfl rfl (lx_get hl rfl) ?_
  refine ob1 hm (fun x3 e4 hm => ?_)
  refine k_getI (pc := 5) (z := 4) (k := 1) (index := 15) B hR I (by decide) (by decide) mF_R_15 rfl (fun _ _ => rfl) e4 d_R_skipBlanks_5 ?_
  refine lv_icmp_ge (pc := 8) (tgt := 38) hx hb d_R_skipBlanks_8 (by decide) (fun hc => ?_) (fun hc => ?_)
  · have hm := ift hc hm
    cases hm
    exact q_vret (pc := 38) B I rfl d_R_skipBlanks_38
  · have hm := iff' hc hm
    refine q_aload_n (pc := 11) (i := 0) (v := .ref y0) hx hb d_R_skipBlanks_11 rfl rfl (lx_get hl rfl) ?_
    refine ob1 hm (fun q5 e6 hm => ?_)
    refine k_getR (pc := 12) (z := 4) (k := 0) (index := 9) B hR I (by decide) (by decide) mF_R_9 rfl (fun _ _ => rfl) e6 d_R_skipBlanks_12 ?_
    refine q_aload_n (pc := 15) (i := 0) (v := .ref y0) hx hb d_R_skipBlanks_15 rfl rfl (lx_get hl rfl) ?_
    refine ob1 hm (fun x7 e8 hm => ?_)
    refine k_getI (pc := 16) (z := 4) (k := 6) (index := 45) B hR I (by decide) (by decide) mF_R_45 rfl (fun _ _ => rfl) e8 d_R_skipBlanks_16 ?_
    refine ob1 hm (fun a9 e10 hm => ?_)
    have hm_11 := hm; have hl_11 := hl; have I_11 := I
    subst e10
    have hm := hm_11; have hl := hl_11; have I := I_11
    refine ob1 hm (fun x12 e13 hm => ?_)
    refine k_cald (pc := 19) B hR I e13 d_R_skipBlanks_19 ?_
    refine lv_bipush (pc := 20) (v := 32) hx hb d_R_skipBlanks_20 (by decide) ?_
    refine lv_icmp_ne (pc := 22) (tgt := 38) hx hb d_R_skipBlanks_22 (by decide) (fun hc => ?_) (fun hc => ?_)
    · have hm := iff' hc hm
      cases hm
      exact q_vret (pc := 38) B I rfl d_R_skipBlanks_38
    · have hm := ift hc hm
      refine q_aload_n (pc := 25) (i := 0) (v := .ref y0) hx hb d_R_skipBlanks_25 rfl rfl (lx_get hl rfl) ?_
      refine lv_dup (pc := 26) hx hb d_R_skipBlanks_26 rfl ?_
      refine ob1 hm (fun x14 e15 hm => ?_)
      refine k_getI (pc := 27) (z := 4) (k := 6) (index := 45) B hR I (by decide) (by decide) mF_R_45 rfl (fun _ _ => rfl) e15 d_R_skipBlanks_27 ?_
      refine lv_iconst (pc := 30) (v := 1) hx hb d_R_skipBlanks_30 (by decide) ?_
      refine lv_iadd (pc := 31) hx hb d_R_skipBlanks_31 ?_
      refine ob1 hm (fun S16 e17 hm => ?_)
      refine k_putI (pc := 32) (z := 4) (k := 6) (index := 45) (v := (x14 + 1)) B I (by decide) (by decide) mF_R_45 rfl rfl rfl rfl cset_4_6 e17 d_R_skipBlanks_32 (fun H locs I => ?_)
      refine lv_goto (pc := 35) (tgt := 0) hx hb d_R_skipBlanks_35 (by decide) ?_
      exact hK0 _ _ _ _ _ hl I hm
set_option maxRecDepth 100000 in
set_option maxHeartbeats 4000000 in
theorem w_R_skipBlanks_0i (B : BX p m c cb_R_skipBlanks 1 s args (.code y_R_skipBlanks cb_R_skipBlanks 1 none :: wsA) RZ4 meth none D vwCl (tyL dA) b0 Z) (hR : CR b0 K Z) (k : Nat) (y0 : Nat) (S : cS) (ls : Array Slot) (H : Heap) (locs : List Loc) (hl : lx ls [some (.ref y0)]) (I : AI D vwCl b0 (cH dA b0 S hp0) sz s.heap H locs)  (hm : x_R_skipBlanks_0 N b0 K  k y0 S = some S') : W p l e { frames := 0, cells := 0, slots := 0, locals := 0 } s m args below meth c H locs 0 0 (MQ below (CQ D vwCl b0 none (cH dA b0 S' hp0) sz) args s 0 0 (fun q => b0 ≤ q)) (F0 m 0 ls []) := by
  induction k generalizing y0 S ls H locs with
  | zero => cases hm
  | succ k ih => exact w_R_skipBlanks_0F  (fun y0 S ls H locs hl I hm => ih y0 S ls H locs hl I hm) B hR hl I hm
theorem w_R_skipBlanks_0 {y0 : Nat} {S : cS} (B : BX p m c cb_R_skipBlanks 1 s args (.code y_R_skipBlanks cb_R_skipBlanks 1 none :: wsA) RZ4 meth none D vwCl (tyL dA) b0 Z) (hR : CR b0 K Z) (hl : lx ls [some (.ref y0)]) (I : AI D vwCl b0 (cH dA b0 S hp0) sz s.heap H locs)  {k : Nat} (hm : x_R_skipBlanks_0 N b0 K  k y0 S = some S') : W p l e { frames := 0, cells := 0, slots := 0, locals := 0 } s m args below meth c H locs 0 0 (MQ below (CQ D vwCl b0 none (cH dA b0 S' hp0) sz) args s 0 0 (fun q => b0 ≤ q)) (F0 m 0 ls []) := w_R_skipBlanks_0i  B hR k _ S ls H locs hl I hm
def x_R_skipBlanks (N b0 : Nat) (K : cS) (p0 : Nat) (S : cS) : Option cS :=
  x_R_skipBlanks_0 N b0 K  N p0 S
set_option maxRecDepth 100000 in
set_option maxHeartbeats 4000000 in
theorem c_R_skipBlanks {p0 : Nat} {S S' : cS} (hR : CR b0 K Z) (hm : x_R_skipBlanks N b0 K p0 S = some S') : Ct l D vwCl (tyL dA) b0 Z y_R_skipBlanks (.code y_R_skipBlanks cb_R_skipBlanks 1 none :: wsA) 0 0 [.ref p0] (cH dA b0 S hp0) sz none (cH dA b0 S' hp0) 0 0 := by
  refine ct_ofF (cc := cb_R_skipBlanks) (maxL := 1) (ret := none) (lo0 := [some (.ref p0)]) hR.1 (by decide) rfl (by simp [lg_sl, cat_i, cat_r, cat_l, va_rf_cat]) rfl (by simp [lx_all, lv_args, cat_i, cat_r, cat_l, va_rf_cat]) ?_
  intro p e s m args below meth c ls B hnm hl I
  obtain ⟨hx, hb, -⟩ := B.1
  unfold x_R_skipBlanks at hm
  exact w_R_skipBlanks_0  B hR hl I hm
def x_R_peek (N b0 : Nat) (K : cS) (p0 : Nat) (S : cS) : Option Int32 :=
  b1 (gI b0 K S 4 6 p0) (fun x1 => b1 (gI b0 K S 4 1 p0) (fun x3 => if x3 ≤ x1 then (some (-1)) else (b1 (gR b0 K S 4 0 p0) (fun q5 => b1 (gI b0 K S 4 6 p0) (fun x7 => b1 q5 (fun a9 => b1 (aL b0 K S 11 a9 x7) (fun x12 => some x12)))))))
set_option maxRecDepth 100000 in
set_option maxHeartbeats 4000000 in
theorem c_R_peek {p0 : Nat} {S : cS} {r : Int32} (hR : CR b0 K Z) (hm : x_R_peek N b0 K p0 S = some r) : Ct l D vwCl (tyL dA) b0 Z y_R_peek (.code y_R_peek cb_R_peek 1 (some .int) :: wsA) 0 0 [.ref p0] (cH dA b0 S hp0) sz (some (.int r)) (cH dA b0 S hp0) 0 0 := by
  refine ct_ofF (cc := cb_R_peek) (maxL := 1) (ret := (some .int)) (lo0 := [some (.ref p0)]) hR.1 (by decide) rfl (by simp [lg_sl, cat_i, cat_r, cat_l, va_rf_cat]) rfl (by simp [lx_all, lv_args, cat_i, cat_r, cat_l, va_rf_cat]) ?_
  intro p e s m args below meth c ls B hnm hl I
  obtain ⟨hx, hb, -⟩ := B.1
  unfold x_R_peek at hm
  refine q_aload_n (pc := 0) (i := 0) (v := .ref p0) hx hb d_R_peek_0 rfl rfl (lx_get hl rfl) ?_
  refine ob1 hm (fun x1 e2 hm => ?_)
  refine k_getI (pc := 1) (z := 4) (k := 6) (index := 45) B hR I (by decide) (by decide) mF_R_45 rfl (fun _ _ => rfl) e2 d_R_peek_1 ?_
  refine q_aload_n (pc := 4) (i := 0) (v := .ref p0) hx hb d_R_peek_4 rfl rfl (lx_get hl rfl) ?_
  refine ob1 hm (fun x3 e4 hm => ?_)
  refine k_getI (pc := 5) (z := 4) (k := 1) (index := 15) B hR I (by decide) (by decide) mF_R_15 rfl (fun _ _ => rfl) e4 d_R_peek_5 ?_
  refine lv_icmp_ge (pc := 8) (tgt := 23) hx hb d_R_peek_8 (by decide) (fun hc => ?_) (fun hc => ?_)
  · have hm := ift hc hm
    refine lv_iconst (pc := 23) (v := (-1)) hx hb d_R_peek_23 (by decide) ?_
    cases hm
    exact q_iret (pc := 24) B I rfl d_R_peek_24
  · have hm := iff' hc hm
    refine q_aload_n (pc := 11) (i := 0) (v := .ref p0) hx hb d_R_peek_11 rfl rfl (lx_get hl rfl) ?_
    refine ob1 hm (fun q5 e6 hm => ?_)
    refine k_getR (pc := 12) (z := 4) (k := 0) (index := 9) B hR I (by decide) (by decide) mF_R_9 rfl (fun _ _ => rfl) e6 d_R_peek_12 ?_
    refine q_aload_n (pc := 15) (i := 0) (v := .ref p0) hx hb d_R_peek_15 rfl rfl (lx_get hl rfl) ?_
    refine ob1 hm (fun x7 e8 hm => ?_)
    refine k_getI (pc := 16) (z := 4) (k := 6) (index := 45) B hR I (by decide) (by decide) mF_R_45 rfl (fun _ _ => rfl) e8 d_R_peek_16 ?_
    refine ob1 hm (fun a9 e10 hm => ?_)
    have hm_11 := hm; have hl_11 := hl; have I_11 := I
    subst e10
    have hm := hm_11; have hl := hl_11; have I := I_11
    refine ob1 hm (fun x12 e13 hm => ?_)
    refine k_cald (pc := 19) B hR I e13 d_R_peek_19 ?_
    refine lv_goto (pc := 20) (tgt := 24) hx hb d_R_peek_20 (by decide) ?_
    cases hm
    exact q_iret (pc := 24) B I rfl d_R_peek_24
def x_R_saysNothing (N b0 : Nat) (K : cS) (p1 : Int32) (S : cS) : Option Int32 :=
  if p1 = (-1) then (some 1) else (if p1 = 10 then (some 1) else (if p1 = 35 then (some 1) else (some 0)))
set_option maxRecDepth 100000 in
set_option maxHeartbeats 4000000 in
theorem c_R_saysNothing {p1 : Int32} {S : cS} {r : Int32} (hR : CR b0 K Z) (hm : x_R_saysNothing N b0 K p1 S = some r) : Ct l D vwCl (tyL dA) b0 Z y_R_saysNothing (.code y_R_saysNothing cb_R_saysNothing 1 (some .boolean) :: wsA) 0 0 [.int p1] (cH dA b0 S hp0) sz (some (.int r)) (cH dA b0 S hp0) 0 0 := by
  refine ct_ofF (cc := cb_R_saysNothing) (maxL := 1) (ret := (some .boolean)) (lo0 := [some (.int p1)]) hR.1 (by decide) rfl (by simp [lg_sl, cat_i, cat_r, cat_l, va_rf_cat]) rfl (by simp [lx_all, lv_args, cat_i, cat_r, cat_l, va_rf_cat]) ?_
  intro p e s m args below meth c ls B hnm hl I
  obtain ⟨hx, hb, -⟩ := B.1
  unfold x_R_saysNothing at hm
  refine lv_iload_n (pc := 0) (i := 0) hx hb d_R_saysNothing_0 rfl (lx_get hl rfl) ?_
  refine lv_iconst (pc := 1) (v := (-1)) hx hb d_R_saysNothing_1 (by decide) ?_
  refine lv_icmp_eq (pc := 2) (tgt := 17) hx hb d_R_saysNothing_2 (by decide) (fun hc => ?_) (fun hc => ?_)
  · have hm := ift hc hm
    refine lv_iconst (pc := 17) (v := 1) hx hb d_R_saysNothing_17 (by decide) ?_
    refine lv_goto (pc := 18) (tgt := 22) hx hb d_R_saysNothing_18 (by decide) ?_
    cases hm
    exact q_zret (pc := 22) B I rfl (by decide) d_R_saysNothing_22
  · have hm := iff' hc hm
    refine lv_iload_n (pc := 5) (i := 0) hx hb d_R_saysNothing_5 rfl (lx_get hl rfl) ?_
    refine lv_bipush (pc := 6) (v := 10) hx hb d_R_saysNothing_6 (by decide) ?_
    refine lv_icmp_eq (pc := 8) (tgt := 17) hx hb d_R_saysNothing_8 (by decide) (fun hc => ?_) (fun hc => ?_)
    · have hm := ift hc hm
      refine lv_iconst (pc := 17) (v := 1) hx hb d_R_saysNothing_17 (by decide) ?_
      refine lv_goto (pc := 18) (tgt := 22) hx hb d_R_saysNothing_18 (by decide) ?_
      cases hm
      exact q_zret (pc := 22) B I rfl (by decide) d_R_saysNothing_22
    · have hm := iff' hc hm
      refine lv_iload_n (pc := 11) (i := 0) hx hb d_R_saysNothing_11 rfl (lx_get hl rfl) ?_
      refine lv_bipush (pc := 12) (v := 35) hx hb d_R_saysNothing_12 (by decide) ?_
      refine lv_icmp_ne (pc := 14) (tgt := 21) hx hb d_R_saysNothing_14 (by decide) (fun hc => ?_) (fun hc => ?_)
      · have hm := iff' hc hm
        refine lv_iconst (pc := 21) (v := 0) hx hb d_R_saysNothing_21 (by decide) ?_
        cases hm
        exact q_zret (pc := 22) B I rfl (by decide) d_R_saysNothing_22
      · have hm := ift hc hm
        refine lv_iconst (pc := 17) (v := 1) hx hb d_R_saysNothing_17 (by decide) ?_
        refine lv_goto (pc := 18) (tgt := 22) hx hb d_R_saysNothing_18 (by decide) ?_
        cases hm
        exact q_zret (pc := 22) B I rfl (by decide) d_R_saysNothing_22
def x_R_goesOnInString (N b0 : Nat) (K : cS) (p0 : Nat) (p1 : Int32) (S : cS) : Option Int32 :=
  b1 (gI b0 K S 4 6 p0) (fun x1 => b1 (gI b0 K S 4 1 p0) (fun x3 => if x3 ≤ x1 then (some 0) else (b1 (gR b0 K S 4 0 p0) (fun q5 => b1 (gI b0 K S 4 6 p0) (fun x7 => b1 q5 (fun a9 => b1 (aL b0 K S 11 a9 x7) (fun x12 => if x12 = p1 then (some 0) else (b1 (gR b0 K S 4 0 p0) (fun q14 => b1 (gI b0 K S 4 6 p0) (fun x16 => b1 q14 (fun a18 => b1 (aL b0 K S 11 a18 x16) (fun x21 => if x21 = 10 then (some 0) else (some 1)))))))))))))
set_option maxRecDepth 100000 in
set_option maxHeartbeats 4000000 in
theorem c_R_goesOnInString {p0 : Nat} {p1 : Int32} {S : cS} {r : Int32} (hR : CR b0 K Z) (hm : x_R_goesOnInString N b0 K p0 p1 S = some r) : Ct l D vwCl (tyL dA) b0 Z y_R_goesOnInString (.code y_R_goesOnInString cb_R_goesOnInString 2 (some .boolean) :: wsA) 0 0 [.ref p0, .int p1] (cH dA b0 S hp0) sz (some (.int r)) (cH dA b0 S hp0) 0 0 := by
  refine ct_ofF (cc := cb_R_goesOnInString) (maxL := 2) (ret := (some .boolean)) (lo0 := [some (.ref p0), some (.int p1)]) hR.1 (by decide) rfl (by simp [lg_sl, cat_i, cat_r, cat_l, va_rf_cat]) rfl (by simp [lx_all, lv_args, cat_i, cat_r, cat_l, va_rf_cat]) ?_
  intro p e s m args below meth c ls B hnm hl I
  obtain ⟨hx, hb, -⟩ := B.1
  unfold x_R_goesOnInString at hm
  refine q_aload_n (pc := 0) (i := 0) (v := .ref p0) hx hb d_R_goesOnInString_0 rfl rfl (lx_get hl rfl) ?_
  refine ob1 hm (fun x1 e2 hm => ?_)
  refine k_getI (pc := 1) (z := 4) (k := 6) (index := 45) B hR I (by decide) (by decide) mF_R_45 rfl (fun _ _ => rfl) e2 d_R_goesOnInString_1 ?_
  refine q_aload_n (pc := 4) (i := 0) (v := .ref p0) hx hb d_R_goesOnInString_4 rfl rfl (lx_get hl rfl) ?_
  refine ob1 hm (fun x3 e4 hm => ?_)
  refine k_getI (pc := 5) (z := 4) (k := 1) (index := 15) B hR I (by decide) (by decide) mF_R_15 rfl (fun _ _ => rfl) e4 d_R_goesOnInString_5 ?_
  refine lv_icmp_ge (pc := 8) (tgt := 42) hx hb d_R_goesOnInString_8 (by decide) (fun hc => ?_) (fun hc => ?_)
  · have hm := ift hc hm
    refine lv_iconst (pc := 42) (v := 0) hx hb d_R_goesOnInString_42 (by decide) ?_
    cases hm
    exact q_zret (pc := 43) B I rfl (by decide) d_R_goesOnInString_43
  · have hm := iff' hc hm
    refine q_aload_n (pc := 11) (i := 0) (v := .ref p0) hx hb d_R_goesOnInString_11 rfl rfl (lx_get hl rfl) ?_
    refine ob1 hm (fun q5 e6 hm => ?_)
    refine k_getR (pc := 12) (z := 4) (k := 0) (index := 9) B hR I (by decide) (by decide) mF_R_9 rfl (fun _ _ => rfl) e6 d_R_goesOnInString_12 ?_
    refine q_aload_n (pc := 15) (i := 0) (v := .ref p0) hx hb d_R_goesOnInString_15 rfl rfl (lx_get hl rfl) ?_
    refine ob1 hm (fun x7 e8 hm => ?_)
    refine k_getI (pc := 16) (z := 4) (k := 6) (index := 45) B hR I (by decide) (by decide) mF_R_45 rfl (fun _ _ => rfl) e8 d_R_goesOnInString_16 ?_
    refine ob1 hm (fun a9 e10 hm => ?_)
    have hm_11 := hm; have hl_11 := hl; have I_11 := I
    subst e10
    have hm := hm_11; have hl := hl_11; have I := I_11
    refine ob1 hm (fun x12 e13 hm => ?_)
    refine k_cald (pc := 19) B hR I e13 d_R_goesOnInString_19 ?_
    refine lv_iload_n (pc := 20) (i := 1) hx hb d_R_goesOnInString_20 rfl (lx_get hl rfl) ?_
    refine lv_icmp_eq (pc := 21) (tgt := 42) hx hb d_R_goesOnInString_21 (by decide) (fun hc => ?_) (fun hc => ?_)
    · have hm := ift hc hm
      refine lv_iconst (pc := 42) (v := 0) hx hb d_R_goesOnInString_42 (by decide) ?_
      cases hm
      exact q_zret (pc := 43) B I rfl (by decide) d_R_goesOnInString_43
    · have hm := iff' hc hm
      refine q_aload_n (pc := 24) (i := 0) (v := .ref p0) hx hb d_R_goesOnInString_24 rfl rfl (lx_get hl rfl) ?_
      refine ob1 hm (fun q14 e15 hm => ?_)
      refine k_getR (pc := 25) (z := 4) (k := 0) (index := 9) B hR I (by decide) (by decide) mF_R_9 rfl (fun _ _ => rfl) e15 d_R_goesOnInString_25 ?_
      refine q_aload_n (pc := 28) (i := 0) (v := .ref p0) hx hb d_R_goesOnInString_28 rfl rfl (lx_get hl rfl) ?_
      refine ob1 hm (fun x16 e17 hm => ?_)
      refine k_getI (pc := 29) (z := 4) (k := 6) (index := 45) B hR I (by decide) (by decide) mF_R_45 rfl (fun _ _ => rfl) e17 d_R_goesOnInString_29 ?_
      refine ob1 hm (fun a18 e19 hm => ?_)
      have hm_20 := hm; have hl_20 := hl; have I_20 := I
      subst e19
      have hm := hm_20; have hl := hl_20; have I := I_20
      refine ob1 hm (fun x21 e22 hm => ?_)
      refine k_cald (pc := 32) B hR I e22 d_R_goesOnInString_32 ?_
      refine lv_bipush (pc := 33) (v := 10) hx hb d_R_goesOnInString_33 (by decide) ?_
      refine lv_icmp_eq (pc := 35) (tgt := 42) hx hb d_R_goesOnInString_35 (by decide) (fun hc => ?_) (fun hc => ?_)
      · have hm := ift hc hm
        refine lv_iconst (pc := 42) (v := 0) hx hb d_R_goesOnInString_42 (by decide) ?_
        cases hm
        exact q_zret (pc := 43) B I rfl (by decide) d_R_goesOnInString_43
      · have hm := iff' hc hm
        refine lv_iconst (pc := 38) (v := 1) hx hb d_R_goesOnInString_38 (by decide) ?_
        refine lv_goto (pc := 39) (tgt := 43) hx hb d_R_goesOnInString_39 (by decide) ?_
        cases hm
        exact q_zret (pc := 43) B I rfl (by decide) d_R_goesOnInString_43
def x_R_escaped (N b0 : Nat) (K : cS) (p1 : Int32) (S : cS) : Option Int32 :=
  if p1 = 34 then (some 34) else (if p1 = 92 then (some 92) else (if p1 = 110 then (some 10) else (if p1 = 116 then (some 9) else (some 0))))
set_option maxRecDepth 100000 in
set_option maxHeartbeats 4000000 in
theorem c_R_escaped {p1 : Int32} {S : cS} {r : Int32} (hR : CR b0 K Z) (hm : x_R_escaped N b0 K p1 S = some r) : Ct l D vwCl (tyL dA) b0 Z y_R_escaped (.code y_R_escaped cb_R_escaped 1 (some .char) :: wsA) 0 0 [.int p1] (cH dA b0 S hp0) sz (some (.int r)) (cH dA b0 S hp0) 0 0 := by
  refine ct_ofF (cc := cb_R_escaped) (maxL := 1) (ret := (some .char)) (lo0 := [some (.int p1)]) hR.1 (by decide) rfl (by simp [lg_sl, cat_i, cat_r, cat_l, va_rf_cat]) rfl (by simp [lx_all, lv_args, cat_i, cat_r, cat_l, va_rf_cat]) ?_
  intro p e s m args below meth c ls B hnm hl I
  obtain ⟨hx, hb, -⟩ := B.1
  unfold x_R_escaped at hm
  refine lv_iload_n (pc := 0) (i := 0) hx hb d_R_escaped_0 rfl (lx_get hl rfl) ?_
  by_cases hs1 : p1 = 34
  · have hm := ift hs1 hm
    refine lv_lookup (pc := 1) (tgt := 44) (off := 43) hx hb d_R_escaped_1 (by decide) (by rw [hs1] <;> decide) (by decide) ?_
    refine lv_bipush (pc := 44) (v := 34) hx hb d_R_escaped_44 (by decide) ?_
    cases hm
    exact q_zret (pc := 46) B I rfl (by decide) d_R_escaped_46
  · have hm := iff' hs1 hm
    by_cases hs2 : p1 = 92
    · have hm := ift hs2 hm
      refine lv_lookup (pc := 1) (tgt := 47) (off := 46) hx hb d_R_escaped_1 (by decide) (by rw [hs2] <;> decide) (by decide) ?_
      refine lv_bipush (pc := 47) (v := 92) hx hb d_R_escaped_47 (by decide) ?_
      cases hm
      exact q_zret (pc := 49) B I rfl (by decide) d_R_escaped_49
    · have hm := iff' hs2 hm
      by_cases hs3 : p1 = 110
      · have hm := ift hs3 hm
        refine lv_lookup (pc := 1) (tgt := 50) (off := 49) hx hb d_R_escaped_1 (by decide) (by rw [hs3] <;> decide) (by decide) ?_
        refine lv_bipush (pc := 50) (v := 10) hx hb d_R_escaped_50 (by decide) ?_
        cases hm
        exact q_zret (pc := 52) B I rfl (by decide) d_R_escaped_52
      · have hm := iff' hs3 hm
        by_cases hs4 : p1 = 116
        · have hm := ift hs4 hm
          refine lv_lookup (pc := 1) (tgt := 53) (off := 52) hx hb d_R_escaped_1 (by decide) (by rw [hs4] <;> decide) (by decide) ?_
          refine lv_bipush (pc := 53) (v := 9) hx hb d_R_escaped_53 (by decide) ?_
          cases hm
          exact q_zret (pc := 55) B I rfl (by decide) d_R_escaped_55
        · have hm := iff' hs4 hm
          refine lv_lookup (pc := 1) (tgt := 56) (off := 55) hx hb d_R_escaped_1 (by decide) (by rw [lv_osw hs1 (by decide), lv_osw hs2 (by decide), lv_osw hs3 (by decide), lv_osw hs4 (by decide)] <;> rfl) (by decide) ?_
          refine lv_iconst (pc := 56) (v := 0) hx hb d_R_escaped_56 (by decide) ?_
          cases hm
          exact q_zret (pc := 57) B I rfl (by decide) d_R_escaped_57
def x_R_take_24 (N b0 : Nat) (K : cS) (y0 : Nat) (S : cS) : Option (Int32 × cS) :=
  b1 (gI b0 K S 4 6 y0) (fun x1 => b1 (pI b0 S 4 7 y0 x1) (fun S3 => some (0, S3)))
set_option maxRecDepth 100000 in
set_option maxHeartbeats 4000000 in
theorem w_R_take_24 {y0 : Nat} {S : cS} (B : BX p m c cb_R_take 2 s args (.code y_R_take cb_R_take 2 (some .boolean) :: wsA) RZ4 meth (some .boolean) D vwCl (tyL dA) b0 Z) (hR : CR b0 K Z) (hl : lx ls [some (.ref y0), none]) (I : AI D vwCl b0 (cH dA b0 S hp0) sz s.heap H locs)  (hm : x_R_take_24 N b0 K  y0 S = some (r, S')) : W p l e { frames := 0, cells := 0, slots := 0, locals := 0 } s m args below meth c H locs 0 0 (MQ below (CQ D vwCl b0 (some (.int r)) (cH dA b0 S' hp0) sz) args s 0 0 (fun q => b0 ≤ q)) (F0 m 24 ls []) := by
  obtain ⟨hx, hb, -⟩ := B.1
  unfold x_R_take_24 at hm
  refine q_aload_n (pc := 24) (i := 0) (v := .ref y0) hx hb d_R_take_24 rfl rfl (lx_get hl rfl) ?_
  refine q_aload_n (pc := 25) (i := 0) (v := .ref y0) hx hb d_R_take_25 rfl rfl (lx_get hl rfl) ?_
  refine ob1 hm (fun x1 e2 hm => ?_)
  refine k_getI (pc := 26) (z := 4) (k := 6) (index := 45) B hR I (by decide) (by decide) mF_R_45 rfl (fun _ _ => rfl) e2 d_R_take_26 ?_
  refine ob1 hm (fun S3 e4 hm => ?_)
  refine k_putI (pc := 29) (z := 4) (k := 7) (index := 48) (v := x1) B I (by decide) (by decide) mF_R_48 rfl rfl rfl rfl cset_4_7 e4 d_R_take_29 (fun H locs I => ?_)
  refine lv_iconst (pc := 32) (v := 0) hx hb d_R_take_32 (by decide) ?_
  cases hm
  exact q_zret (pc := 33) B I rfl (by decide) d_R_take_33
def x_R_take (N b0 : Nat) (K : cS) (p0 : Nat) (p1 : Int32) (S : cS) : Option (Int32 × cS) :=
  b1 (gI b0 K S 4 6 p0) (fun x1 => b1 (gI b0 K S 4 1 p0) (fun x3 => if x3 ≤ x1 then (x_R_take_24 N b0 K  p0 S) else (b1 (gR b0 K S 4 0 p0) (fun q5 => b1 (gI b0 K S 4 6 p0) (fun x7 => b1 q5 (fun a9 => b1 (aL b0 K S 11 a9 x7) (fun x12 => if x12 = p1 then (b1 (gI b0 K S 4 6 p0) (fun x14 => b1 (pI b0 S 4 6 p0 (x14 + 1)) (fun S16 => some (1, S16)))) else (x_R_take_24 N b0 K  p0 S))))))))
set_option maxRecDepth 100000 in
set_option maxHeartbeats 4000000 in
theorem c_R_take {p0 : Nat} {p1 : Int32} {S S' : cS} {r : Int32} (hR : CR b0 K Z) (hm : x_R_take N b0 K p0 p1 S = some (r, S')) : Ct l D vwCl (tyL dA) b0 Z y_R_take (.code y_R_take cb_R_take 2 (some .boolean) :: wsA) 0 0 [.ref p0, .int p1] (cH dA b0 S hp0) sz (some (.int r)) (cH dA b0 S' hp0) 0 0 := by
  refine ct_ofF (cc := cb_R_take) (maxL := 2) (ret := (some .boolean)) (lo0 := [some (.ref p0), some (.int p1)]) hR.1 (by decide) rfl (by simp [lg_sl, cat_i, cat_r, cat_l, va_rf_cat]) rfl (by simp [lx_all, lv_args, cat_i, cat_r, cat_l, va_rf_cat]) ?_
  intro p e s m args below meth c ls B hnm hl I
  obtain ⟨hx, hb, -⟩ := B.1
  unfold x_R_take at hm
  refine q_aload_n (pc := 0) (i := 0) (v := .ref p0) hx hb d_R_take_0 rfl rfl (lx_get hl rfl) ?_
  refine ob1 hm (fun x1 e2 hm => ?_)
  refine k_getI (pc := 1) (z := 4) (k := 6) (index := 45) B hR I (by decide) (by decide) mF_R_45 rfl (fun _ _ => rfl) e2 d_R_take_1 ?_
  refine q_aload_n (pc := 4) (i := 0) (v := .ref p0) hx hb d_R_take_4 rfl rfl (lx_get hl rfl) ?_
  refine ob1 hm (fun x3 e4 hm => ?_)
  refine k_getI (pc := 5) (z := 4) (k := 1) (index := 15) B hR I (by decide) (by decide) mF_R_15 rfl (fun _ _ => rfl) e4 d_R_take_5 ?_
  refine lv_icmp_ge (pc := 8) (tgt := 24) hx hb d_R_take_8 (by decide) (fun hc => ?_) (fun hc => ?_)
  · have hm := ift hc hm
    exact w_R_take_24  B hR (lx_sub (lo' := [some (.ref p0), none]) hl (by simp [lx_le])) I hm
  · have hm := iff' hc hm
    refine q_aload_n (pc := 11) (i := 0) (v := .ref p0) hx hb d_R_take_11 rfl rfl (lx_get hl rfl) ?_
    refine ob1 hm (fun q5 e6 hm => ?_)
    refine k_getR (pc := 12) (z := 4) (k := 0) (index := 9) B hR I (by decide) (by decide) mF_R_9 rfl (fun _ _ => rfl) e6 d_R_take_12 ?_
    refine q_aload_n (pc := 15) (i := 0) (v := .ref p0) hx hb d_R_take_15 rfl rfl (lx_get hl rfl) ?_
    refine ob1 hm (fun x7 e8 hm => ?_)
    refine k_getI (pc := 16) (z := 4) (k := 6) (index := 45) B hR I (by decide) (by decide) mF_R_45 rfl (fun _ _ => rfl) e8 d_R_take_16 ?_
    refine ob1 hm (fun a9 e10 hm => ?_)
    have hm_11 := hm; have hl_11 := hl; have I_11 := I
    subst e10
    have hm := hm_11; have hl := hl_11; have I := I_11
    refine ob1 hm (fun x12 e13 hm => ?_)
    refine k_cald (pc := 19) B hR I e13 d_R_take_19 ?_
    refine lv_iload_n (pc := 20) (i := 1) hx hb d_R_take_20 rfl (lx_get hl rfl) ?_
    refine lv_icmp_eq (pc := 21) (tgt := 34) hx hb d_R_take_21 (by decide) (fun hc => ?_) (fun hc => ?_)
    · have hm := ift hc hm
      refine q_aload_n (pc := 34) (i := 0) (v := .ref p0) hx hb d_R_take_34 rfl rfl (lx_get hl rfl) ?_
      refine lv_dup (pc := 35) hx hb d_R_take_35 rfl ?_
      refine ob1 hm (fun x14 e15 hm => ?_)
      refine k_getI (pc := 36) (z := 4) (k := 6) (index := 45) B hR I (by decide) (by decide) mF_R_45 rfl (fun _ _ => rfl) e15 d_R_take_36 ?_
      refine lv_iconst (pc := 39) (v := 1) hx hb d_R_take_39 (by decide) ?_
      refine lv_iadd (pc := 40) hx hb d_R_take_40 ?_
      refine ob1 hm (fun S16 e17 hm => ?_)
      refine k_putI (pc := 41) (z := 4) (k := 6) (index := 45) (v := (x14 + 1)) B I (by decide) (by decide) mF_R_45 rfl rfl rfl rfl cset_4_6 e17 d_R_take_41 (fun H locs I => ?_)
      refine lv_iconst (pc := 44) (v := 1) hx hb d_R_take_44 (by decide) ?_
      cases hm
      exact q_zret (pc := 45) B I rfl (by decide) d_R_take_45
    · have hm := iff' hc hm
      exact w_R_take_24  B hR (lx_sub (lo' := [some (.ref p0), none]) hl (by simp [lx_le])) I hm
def x_R_wrong (N b0 : Nat) (K : cS) (p0 : Nat) (p1 : Int32) (S : cS) : Option (Option Nat × cS) :=
  b1 (pI b0 S 4 7 p0 p1) (fun S1 => some (none, S1))
set_option maxRecDepth 100000 in
set_option maxHeartbeats 4000000 in
theorem c_R_wrong {p0 : Nat} {p1 : Int32} {S S' : cS} {q : Option Nat} (hR : CR b0 K Z) (hm : x_R_wrong N b0 K p0 p1 S = some (q, S')) : Ct l D vwCl (tyL dA) b0 Z y_R_wrong (.code y_R_wrong cb_R_wrong 2 (some (.object "TableText$Node")) :: wsA) 0 0 [.ref p0, .int p1] (cH dA b0 S hp0) sz (some (va_rf q)) (cH dA b0 S' hp0) 0 0 := by
  refine ct_ofF (cc := cb_R_wrong) (maxL := 2) (ret := (some (.object "TableText$Node"))) (lo0 := [some (.ref p0), some (.int p1)]) hR.1 (by decide) rfl (by simp [lg_sl, cat_i, cat_r, cat_l, va_rf_cat]) rfl (by simp [lx_all, lv_args, cat_i, cat_r, cat_l, va_rf_cat]) ?_
  intro p e s m args below meth c ls B hnm hl I
  obtain ⟨hx, hb, -⟩ := B.1
  unfold x_R_wrong at hm
  refine q_aload_n (pc := 0) (i := 0) (v := .ref p0) hx hb d_R_wrong_0 rfl rfl (lx_get hl rfl) ?_
  refine lv_iload_n (pc := 1) (i := 1) hx hb d_R_wrong_1 rfl (lx_get hl rfl) ?_
  refine ob1 hm (fun S1 e2 hm => ?_)
  refine k_putI (pc := 2) (z := 4) (k := 7) (index := 48) (v := p1) B I (by decide) (by decide) mF_R_48 rfl rfl rfl rfl cset_4_7 e2 d_R_wrong_2 (fun H locs I => ?_)
  refine lv_null (pc := 5) hx hb d_R_wrong_5 ?_
  cases hm
  exact q_aret (pc := 6) B I rfl (Or.inl ⟨_, rfl⟩) d_R_wrong_6
def x_R_skipComment_9F (N b0 : Nat) (K : cS) (K9 : Nat → cS → Option cS) (y0 : Nat) (S : cS) : Option cS :=
  b1 (gI b0 K S 4 6 y0) (fun x1 => b1 (gI b0 K S 4 1 y0) (fun x3 => if x3 ≤ x1 then (some S) else (b1 (gR b0 K S 4 0 y0) (fun q5 => b1 (gI b0 K S 4 6 y0) (fun x7 => b1 q5 (fun a9 => b1 (aL b0 K S 11 a9 x7) (fun x12 => if x12 = 10 then (some S) else (b1 (gI b0 K S 4 6 y0) (fun x14 => b1 (pI b0 S 4 6 y0 (x14 + 1)) (fun S16 => K9 y0 S16))))))))))
def x_R_skipComment_9 (N b0 : Nat) (K : cS) : Nat → Nat → cS → Option cS
  | 0, _, _ => none
  | k + 1, y0, S => x_R_skipComment_9F N b0 K  (x_R_skipComment_9 N b0 K  k) y0 S
set_option maxRecDepth 100000 in
set_option maxHeartbeats 4000000 in
theorem w_R_skipComment_9F {K9 : Nat → cS → Option cS} {y0 : Nat} {S : cS} (hK9 : ∀ (y0 : Nat) (S : cS) (ls : Array Slot) (H : Heap) (locs : List Loc), lx ls [some (.ref y0)] → AI D vwCl b0 (cH dA b0 S hp0) sz s.heap H locs → K9 y0 S = some S' → W p l e { frames := 1, cells := 0, slots := 0, locals := 20 } s m args below meth c H locs 0 0 (MQ below (CQ D vwCl b0 none (cH dA b0 S' hp0) sz) args s 0 0 (fun q => b0 ≤ q)) (F0 m 9 ls [])) (B : BX p m c cb_R_skipComment 1 s args (.code y_R_skipComment cb_R_skipComment 1 none :: wsA) RZ4 meth none D vwCl (tyL dA) b0 Z) (hR : CR b0 K Z) (hl : lx ls [some (.ref y0)]) (I : AI D vwCl b0 (cH dA b0 S hp0) sz s.heap H locs)  (hm : x_R_skipComment_9F N b0 K  K9 y0 S = some S') : W p l e { frames := 1, cells := 0, slots := 0, locals := 20 } s m args below meth c H locs 0 0 (MQ below (CQ D vwCl b0 none (cH dA b0 S' hp0) sz) args s 0 0 (fun q => b0 ≤ q)) (F0 m 9 ls []) := by
  obtain ⟨hx, hb, -⟩ := B.1
  unfold x_R_skipComment_9F at hm
  refine q_aload_n (pc := 9) (i := 0) (v := .ref y0) hx hb d_R_skipComment_9 rfl rfl (lx_get hl rfl) ?_
  refine ob1 hm (fun x1 e2 hm => ?_)
  refine k_getI (pc := 10) (z := 4) (k := 6) (index := 45) B hR I (by decide) (by decide) mF_R_45 rfl (fun _ _ => rfl) e2 d_R_skipComment_10 ?_
  refine q_aload_n (pc := 13) (i := 0) (v := .ref y0) hx hb d_R_skipComment_13 rfl rfl (lx_get hl rfl) ?_
  refine ob1 hm (fun x3 e4 hm => ?_)
  refine k_getI (pc := 14) (z := 4) (k := 1) (index := 15) B hR I (by decide) (by decide) mF_R_15 rfl (fun _ _ => rfl) e4 d_R_skipComment_14 ?_
  refine lv_icmp_ge (pc := 17) (tgt := 47) hx hb d_R_skipComment_17 (by decide) (fun hc => ?_) (fun hc => ?_)
  · have hm := ift hc hm
    cases hm
    exact q_vret (pc := 47) B I rfl d_R_skipComment_47
  · have hm := iff' hc hm
    refine q_aload_n (pc := 20) (i := 0) (v := .ref y0) hx hb d_R_skipComment_20 rfl rfl (lx_get hl rfl) ?_
    refine ob1 hm (fun q5 e6 hm => ?_)
    refine k_getR (pc := 21) (z := 4) (k := 0) (index := 9) B hR I (by decide) (by decide) mF_R_9 rfl (fun _ _ => rfl) e6 d_R_skipComment_21 ?_
    refine q_aload_n (pc := 24) (i := 0) (v := .ref y0) hx hb d_R_skipComment_24 rfl rfl (lx_get hl rfl) ?_
    refine ob1 hm (fun x7 e8 hm => ?_)
    refine k_getI (pc := 25) (z := 4) (k := 6) (index := 45) B hR I (by decide) (by decide) mF_R_45 rfl (fun _ _ => rfl) e8 d_R_skipComment_25 ?_
    refine ob1 hm (fun a9 e10 hm => ?_)
    have hm_11 := hm; have hl_11 := hl; have I_11 := I
    subst e10
    have hm := hm_11; have hl := hl_11; have I := I_11
    refine ob1 hm (fun x12 e13 hm => ?_)
    refine k_cald (pc := 28) B hR I e13 d_R_skipComment_28 ?_
    refine lv_bipush (pc := 29) (v := 10) hx hb d_R_skipComment_29 (by decide) ?_
    refine lv_icmp_eq (pc := 31) (tgt := 47) hx hb d_R_skipComment_31 (by decide) (fun hc => ?_) (fun hc => ?_)
    · have hm := ift hc hm
      cases hm
      exact q_vret (pc := 47) B I rfl d_R_skipComment_47
    · have hm := iff' hc hm
      refine q_aload_n (pc := 34) (i := 0) (v := .ref y0) hx hb d_R_skipComment_34 rfl rfl (lx_get hl rfl) ?_
      refine lv_dup (pc := 35) hx hb d_R_skipComment_35 rfl ?_
      refine ob1 hm (fun x14 e15 hm => ?_)
      refine k_getI (pc := 36) (z := 4) (k := 6) (index := 45) B hR I (by decide) (by decide) mF_R_45 rfl (fun _ _ => rfl) e15 d_R_skipComment_36 ?_
      refine lv_iconst (pc := 39) (v := 1) hx hb d_R_skipComment_39 (by decide) ?_
      refine lv_iadd (pc := 40) hx hb d_R_skipComment_40 ?_
      refine ob1 hm (fun S16 e17 hm => ?_)
      refine k_putI (pc := 41) (z := 4) (k := 6) (index := 45) (v := (x14 + 1)) B I (by decide) (by decide) mF_R_45 rfl rfl rfl rfl cset_4_6 e17 d_R_skipComment_41 (fun H locs I => ?_)
      refine lv_goto (pc := 44) (tgt := 9) hx hb d_R_skipComment_44 (by decide) ?_
      exact hK9 _ _ _ _ _ hl I hm
set_option maxRecDepth 100000 in
set_option maxHeartbeats 4000000 in
theorem w_R_skipComment_9i (B : BX p m c cb_R_skipComment 1 s args (.code y_R_skipComment cb_R_skipComment 1 none :: wsA) RZ4 meth none D vwCl (tyL dA) b0 Z) (hR : CR b0 K Z) (k : Nat) (y0 : Nat) (S : cS) (ls : Array Slot) (H : Heap) (locs : List Loc) (hl : lx ls [some (.ref y0)]) (I : AI D vwCl b0 (cH dA b0 S hp0) sz s.heap H locs)  (hm : x_R_skipComment_9 N b0 K  k y0 S = some S') : W p l e { frames := 1, cells := 0, slots := 0, locals := 20 } s m args below meth c H locs 0 0 (MQ below (CQ D vwCl b0 none (cH dA b0 S' hp0) sz) args s 0 0 (fun q => b0 ≤ q)) (F0 m 9 ls []) := by
  induction k generalizing y0 S ls H locs with
  | zero => cases hm
  | succ k ih => exact w_R_skipComment_9F  (fun y0 S ls H locs hl I hm => ih y0 S ls H locs hl I hm) B hR hl I hm
theorem w_R_skipComment_9 {y0 : Nat} {S : cS} (B : BX p m c cb_R_skipComment 1 s args (.code y_R_skipComment cb_R_skipComment 1 none :: wsA) RZ4 meth none D vwCl (tyL dA) b0 Z) (hR : CR b0 K Z) (hl : lx ls [some (.ref y0)]) (I : AI D vwCl b0 (cH dA b0 S hp0) sz s.heap H locs)  {k : Nat} (hm : x_R_skipComment_9 N b0 K  k y0 S = some S') : W p l e { frames := 1, cells := 0, slots := 0, locals := 20 } s m args below meth c H locs 0 0 (MQ below (CQ D vwCl b0 none (cH dA b0 S' hp0) sz) args s 0 0 (fun q => b0 ≤ q)) (F0 m 9 ls []) := w_R_skipComment_9i  B hR k _ S ls H locs hl I hm
def x_R_skipComment (N b0 : Nat) (K : cS) (p0 : Nat) (S : cS) : Option cS :=
  ifk b0 K S 4 p0 (b1 (x_R_peek N b0 K p0 S) (fun x2 => if x2 = 35 then (x_R_skipComment_9 N b0 K  N p0 S) else (some S)))
set_option maxRecDepth 100000 in
set_option maxHeartbeats 4000000 in
theorem c_R_skipComment {p0 : Nat} {S S' : cS} (hR : CR b0 K Z) (hm : x_R_skipComment N b0 K p0 S = some S') : Ct l D vwCl (tyL dA) b0 Z y_R_skipComment (.code y_R_skipComment cb_R_skipComment 1 none :: wsA) 1 20 [.ref p0] (cH dA b0 S hp0) sz none (cH dA b0 S' hp0) 0 0 := by
  refine ct_ofF (cc := cb_R_skipComment) (maxL := 1) (ret := none) (lo0 := [some (.ref p0)]) hR.1 (by decide) rfl (by simp [lg_sl, cat_i, cat_r, cat_l, va_rf_cat]) rfl (by simp [lx_all, lv_args, cat_i, cat_r, cat_l, va_rf_cat]) ?_
  intro p e s m args below meth c ls B hnm hl I
  obtain ⟨hx, hb, -⟩ := B.1
  unfold x_R_skipComment at hm
  refine q_aload_n (pc := 0) (i := 0) (v := .ref p0) hx hb d_R_skipComment_0 rfl rfl (lx_get hl rfl) ?_
  refine oifk hm (fun hk hm => ?_)
  refine ob1 hm (fun x2 e1 hm => ?_)
  refine k_callV (pc := 1) (As := []) (rest := []) (b := p0) B hR hl rfl I (c_R_peek hR e1) kw_R_54 (by decide) hk rfl (Nat.le_of_ble_eq_true rfl) (Nat.le_of_ble_eq_true rfl) rfl (by simp [cat_i, cat_r, cat_l, va_rf_cat]) d_R_skipComment_1 (Nat.le_refl _) (Nat.le_refl _) (fun H locs I => ?_)
  refine lv_bipush (pc := 4) (v := 35) hx hb d_R_skipComment_4 (by decide) ?_
  refine lv_icmp_ne (pc := 6) (tgt := 47) hx hb d_R_skipComment_6 (by decide) (fun hc => ?_) (fun hc => ?_)
  · have hm := iff' hc hm
    cases hm
    exact q_vret (pc := 47) B I rfl d_R_skipComment_47
  · have hm := ift hc hm
    exact w_R_skipComment_9  B hR hl I hm
def x_R_skipBlanksLinesAndComments_56 (N b0 : Nat) (K : cS) (K2 : Nat → Int32 → cS → Option cS) (y0 : Nat) (y1 : Int32) (S : cS) : Option cS :=
  b1 (gI b0 K S 4 6 y0) (fun x1 => b1 (pI b0 S 4 6 y0 (x1 + 1)) (fun S3 => K2 y0 y1 S3))
set_option maxRecDepth 100000 in
set_option maxHeartbeats 4000000 in
theorem w_R_skipBlanksLinesAndComments_56 {K2 : Nat → Int32 → cS → Option cS} {y0 : Nat} {y1 : Int32} {S : cS} (hK2 : ∀ (y0 : Nat) (y1 : Int32) (S : cS) (ls : Array Slot) (H : Heap) (locs : List Loc), lx ls [some (.ref y0), some (.int y1), none] → AI D vwCl b0 (cH dA b0 S hp0) sz s.heap H locs → K2 y0 y1 S = some S' → W p l e { frames := 0, cells := 0, slots := 0, locals := 0 } s m args below meth c H locs 0 0 (MQ below (CQ D vwCl b0 none (cH dA b0 S' hp0) sz) args s 0 0 (fun q => b0 ≤ q)) (F0 m 2 ls [])) (B : BX p m c cb_R_skipBlanksLinesAndComments 3 s args (.code y_R_skipBlanksLinesAndComments cb_R_skipBlanksLinesAndComments 3 none :: wsA) RZ4 meth none D vwCl (tyL dA) b0 Z) (hR : CR b0 K Z) (hl : lx ls [some (.ref y0), some (.int y1), none]) (I : AI D vwCl b0 (cH dA b0 S hp0) sz s.heap H locs)  (hm : x_R_skipBlanksLinesAndComments_56 N b0 K K2 y0 y1 S = some S') : W p l e { frames := 0, cells := 0, slots := 0, locals := 0 } s m args below meth c H locs 0 0 (MQ below (CQ D vwCl b0 none (cH dA b0 S' hp0) sz) args s 0 0 (fun q => b0 ≤ q)) (F0 m 56 ls []) := by
  obtain ⟨hx, hb, -⟩ := B.1
  unfold x_R_skipBlanksLinesAndComments_56 at hm
  refine q_aload_n (pc := 56) (i := 0) (v := .ref y0) hx hb d_R_skipBlanksLinesAndComments_56 rfl rfl (lx_get hl rfl) ?_
  refine lv_dup (pc := 57) hx hb d_R_skipBlanksLinesAndComments_57 rfl ?_
  refine ob1 hm (fun x1 e2 hm => ?_)
  refine k_getI (pc := 58) (z := 4) (k := 6) (index := 45) B hR I (by decide) (by decide) mF_R_45 rfl (fun _ _ => rfl) e2 d_R_skipBlanksLinesAndComments_58 ?_
  refine lv_iconst (pc := 61) (v := 1) hx hb d_R_skipBlanksLinesAndComments_61 (by decide) ?_
  refine lv_iadd (pc := 62) hx hb d_R_skipBlanksLinesAndComments_62 ?_
  refine ob1 hm (fun S3 e4 hm => ?_)
  refine k_putI (pc := 63) (z := 4) (k := 6) (index := 45) (v := (x1 + 1)) B I (by decide) (by decide) mF_R_45 rfl rfl rfl rfl cset_4_6 e4 d_R_skipBlanksLinesAndComments_63 (fun H locs I => ?_)
  refine lv_goto (pc := 66) (tgt := 2) hx hb d_R_skipBlanksLinesAndComments_66 (by decide) ?_
  exact hK2 _ _ _ _ _ _ hl I hm
def x_R_skipBlanksLinesAndComments_2F (N b0 : Nat) (K : cS) (K2 : Nat → Int32 → cS → Option cS) (y0 : Nat) (y1 : Int32) (S : cS) : Option cS :=
  b1 (gI b0 K S 4 6 y0) (fun x1 => b1 (gI b0 K S 4 1 y0) (fun x3 => if x3 ≤ x1 then (some S) else (b1 (gR b0 K S 4 0 y0) (fun q5 => b1 (gI b0 K S 4 6 y0) (fun x7 => b1 q5 (fun a9 => b1 (aL b0 K S 11 a9 x7) (fun x12 => if x12 = 10 then (x_R_skipBlanksLinesAndComments_56 N b0 K K2 y0 0 S) else (if x12 = 35 then (x_R_skipBlanksLinesAndComments_56 N b0 K K2 y0 1 S) else (if x12 = 32 then (x_R_skipBlanksLinesAndComments_56 N b0 K K2 y0 y1 S) else (if y1 = 0 then (some S) else (x_R_skipBlanksLinesAndComments_56 N b0 K K2 y0 y1 S)))))))))))
def x_R_skipBlanksLinesAndComments_2 (N b0 : Nat) (K : cS) : Nat → Nat → Int32 → cS → Option cS
  | 0, _, _, _ => none
  | k + 1, y0, y1, S => x_R_skipBlanksLinesAndComments_2F N b0 K  (x_R_skipBlanksLinesAndComments_2 N b0 K  k) y0 y1 S
set_option maxRecDepth 100000 in
set_option maxHeartbeats 4000000 in
theorem w_R_skipBlanksLinesAndComments_2F {K2 : Nat → Int32 → cS → Option cS} {y0 : Nat} {y1 : Int32} {S : cS} (hK2 : ∀ (y0 : Nat) (y1 : Int32) (S : cS) (ls : Array Slot) (H : Heap) (locs : List Loc), lx ls [some (.ref y0), some (.int y1), none] → AI D vwCl b0 (cH dA b0 S hp0) sz s.heap H locs → K2 y0 y1 S = some S' → W p l e { frames := 0, cells := 0, slots := 0, locals := 0 } s m args below meth c H locs 0 0 (MQ below (CQ D vwCl b0 none (cH dA b0 S' hp0) sz) args s 0 0 (fun q => b0 ≤ q)) (F0 m 2 ls [])) (B : BX p m c cb_R_skipBlanksLinesAndComments 3 s args (.code y_R_skipBlanksLinesAndComments cb_R_skipBlanksLinesAndComments 3 none :: wsA) RZ4 meth none D vwCl (tyL dA) b0 Z) (hR : CR b0 K Z) (hl : lx ls [some (.ref y0), some (.int y1), none]) (I : AI D vwCl b0 (cH dA b0 S hp0) sz s.heap H locs)  (hm : x_R_skipBlanksLinesAndComments_2F N b0 K  K2 y0 y1 S = some S') : W p l e { frames := 0, cells := 0, slots := 0, locals := 0 } s m args below meth c H locs 0 0 (MQ below (CQ D vwCl b0 none (cH dA b0 S' hp0) sz) args s 0 0 (fun q => b0 ≤ q)) (F0 m 2 ls []) := by
  obtain ⟨hx, hb, -⟩ := B.1
  unfold x_R_skipBlanksLinesAndComments_2F at hm
  refine q_aload_n (pc := 2) (i := 0) (v := .ref y0) hx hb d_R_skipBlanksLinesAndComments_2 rfl rfl (lx_get hl rfl) ?_
  refine ob1 hm (fun x1 e2 hm => ?_)
  refine k_getI (pc := 3) (z := 4) (k := 6) (index := 45) B hR I (by decide) (by decide) mF_R_45 rfl (fun _ _ => rfl) e2 d_R_skipBlanksLinesAndComments_3 ?_
  refine q_aload_n (pc := 6) (i := 0) (v := .ref y0) hx hb d_R_skipBlanksLinesAndComments_6 rfl rfl (lx_get hl rfl) ?_
  refine ob1 hm (fun x3 e4 hm => ?_)
  refine k_getI (pc := 7) (z := 4) (k := 1) (index := 15) B hR I (by decide) (by decide) mF_R_15 rfl (fun _ _ => rfl) e4 d_R_skipBlanksLinesAndComments_7 ?_
  refine lv_icmp_ge (pc := 10) (tgt := 69) hx hb d_R_skipBlanksLinesAndComments_10 (by decide) (fun hc => ?_) (fun hc => ?_)
  · have hm := ift hc hm
    cases hm
    exact q_vret (pc := 69) B I rfl d_R_skipBlanksLinesAndComments_69
  · have hm := iff' hc hm
    refine q_aload_n (pc := 13) (i := 0) (v := .ref y0) hx hb d_R_skipBlanksLinesAndComments_13 rfl rfl (lx_get hl rfl) ?_
    refine ob1 hm (fun q5 e6 hm => ?_)
    refine k_getR (pc := 14) (z := 4) (k := 0) (index := 9) B hR I (by decide) (by decide) mF_R_9 rfl (fun _ _ => rfl) e6 d_R_skipBlanksLinesAndComments_14 ?_
    refine q_aload_n (pc := 17) (i := 0) (v := .ref y0) hx hb d_R_skipBlanksLinesAndComments_17 rfl rfl (lx_get hl rfl) ?_
    refine ob1 hm (fun x7 e8 hm => ?_)
    refine k_getI (pc := 18) (z := 4) (k := 6) (index := 45) B hR I (by decide) (by decide) mF_R_45 rfl (fun _ _ => rfl) e8 d_R_skipBlanksLinesAndComments_18 ?_
    refine ob1 hm (fun a9 e10 hm => ?_)
    have hm_11 := hm; have hl_11 := hl; have I_11 := I
    subst e10
    have hm := hm_11; have hl := hl_11; have I := I_11
    refine ob1 hm (fun x12 e13 hm => ?_)
    refine k_cald (pc := 21) B hR I e13 d_R_skipBlanksLinesAndComments_21 ?_
    refine q_istore_n (pc := 22) (i := 2) (lo' := [some (.ref y0), some (.int y1), some (.int x12)]) hx hb d_R_skipBlanksLinesAndComments_22 rfl hl (Nat.le_of_ble_eq_true rfl) (lx_ci rfl) rfl (fun ls hl => ?_)
    refine lv_iload_n (pc := 23) (i := 2) hx hb d_R_skipBlanksLinesAndComments_23 rfl (lx_get hl rfl) ?_
    refine lv_bipush (pc := 24) (v := 10) hx hb d_R_skipBlanksLinesAndComments_24 (by decide) ?_
    refine lv_icmp_ne (pc := 26) (tgt := 34) hx hb d_R_skipBlanksLinesAndComments_26 (by decide) (fun hc => ?_) (fun hc => ?_)
    · have hm := iff' hc hm
      refine lv_iload_n (pc := 34) (i := 2) hx hb d_R_skipBlanksLinesAndComments_34 rfl (lx_get hl rfl) ?_
      refine lv_bipush (pc := 35) (v := 35) hx hb d_R_skipBlanksLinesAndComments_35 (by decide) ?_
      refine lv_icmp_ne (pc := 37) (tgt := 45) hx hb d_R_skipBlanksLinesAndComments_37 (by decide) (fun hc => ?_) (fun hc => ?_)
      · have hm := iff' hc hm
        refine lv_iload_n (pc := 45) (i := 2) hx hb d_R_skipBlanksLinesAndComments_45 rfl (lx_get hl rfl) ?_
        refine lv_bipush (pc := 46) (v := 32) hx hb d_R_skipBlanksLinesAndComments_46 (by decide) ?_
        refine lv_icmp_eq (pc := 48) (tgt := 56) hx hb d_R_skipBlanksLinesAndComments_48 (by decide) (fun hc => ?_) (fun hc => ?_)
        · have hm := ift hc hm
          exact w_R_skipBlanksLinesAndComments_56 hK2 B hR (lx_sub (lo' := [some (.ref y0), some (.int y1), none]) hl (by simp [lx_le])) I hm
        · have hm := iff' hc hm
          refine lv_iload_n (pc := 51) (i := 1) hx hb d_R_skipBlanksLinesAndComments_51 rfl (lx_get hl rfl) ?_
          refine lv_if_ne (pc := 52) (tgt := 56) hx hb d_R_skipBlanksLinesAndComments_52 (by decide) (fun hc => ?_) (fun hc => ?_)
          · have hm := iff' hc hm
            exact w_R_skipBlanksLinesAndComments_56 hK2 B hR (lx_sub (lo' := [some (.ref y0), some (.int y1), none]) hl (by simp [lx_le])) I hm
          · have hm := ift hc hm
            cases hm
            exact q_vret (pc := 55) B I rfl d_R_skipBlanksLinesAndComments_55
      · have hm := ift hc hm
        refine lv_iconst (pc := 40) (v := 1) hx hb d_R_skipBlanksLinesAndComments_40 (by decide) ?_
        refine q_istore_n (pc := 41) (i := 1) (lo' := [some (.ref y0), some (.int 1), some (.int x12)]) hx hb d_R_skipBlanksLinesAndComments_41 rfl hl (Nat.le_of_ble_eq_true rfl) (lx_cr rfl) rfl (fun ls hl => ?_)
        refine lv_goto (pc := 42) (tgt := 56) hx hb d_R_skipBlanksLinesAndComments_42 (by decide) ?_
        exact w_R_skipBlanksLinesAndComments_56 hK2 B hR (lx_sub (lo' := [some (.ref y0), some (.int 1), none]) hl (by simp [lx_le])) I hm
    · have hm := ift hc hm
      refine lv_iconst (pc := 29) (v := 0) hx hb d_R_skipBlanksLinesAndComments_29 (by decide) ?_
      refine q_istore_n (pc := 30) (i := 1) (lo' := [some (.ref y0), some (.int 0), some (.int x12)]) hx hb d_R_skipBlanksLinesAndComments_30 rfl hl (Nat.le_of_ble_eq_true rfl) (lx_cr rfl) rfl (fun ls hl => ?_)
      refine lv_goto (pc := 31) (tgt := 56) hx hb d_R_skipBlanksLinesAndComments_31 (by decide) ?_
      exact w_R_skipBlanksLinesAndComments_56 hK2 B hR (lx_sub (lo' := [some (.ref y0), some (.int 0), none]) hl (by simp [lx_le])) I hm
set_option maxRecDepth 100000 in
set_option maxHeartbeats 4000000 in
theorem w_R_skipBlanksLinesAndComments_2i (B : BX p m c cb_R_skipBlanksLinesAndComments 3 s args (.code y_R_skipBlanksLinesAndComments cb_R_skipBlanksLinesAndComments 3 none :: wsA) RZ4 meth none D vwCl (tyL dA) b0 Z) (hR : CR b0 K Z) (k : Nat) (y0 : Nat) (y1 : Int32) (S : cS) (ls : Array Slot) (H : Heap) (locs : List Loc) (hl : lx ls [some (.ref y0), some (.int y1), none]) (I : AI D vwCl b0 (cH dA b0 S hp0) sz s.heap H locs)  (hm : x_R_skipBlanksLinesAndComments_2 N b0 K  k y0 y1 S = some S') : W p l e { frames := 0, cells := 0, slots := 0, locals := 0 } s m args below meth c H locs 0 0 (MQ below (CQ D vwCl b0 none (cH dA b0 S' hp0) sz) args s 0 0 (fun q => b0 ≤ q)) (F0 m 2 ls []) := by
  induction k generalizing y0 y1 S ls H locs with
  | zero => cases hm
  | succ k ih => exact w_R_skipBlanksLinesAndComments_2F  (fun y0 y1 S ls H locs hl I hm => ih y0 y1 S ls H locs hl I hm) B hR hl I hm
theorem w_R_skipBlanksLinesAndComments_2 {y0 : Nat} {y1 : Int32} {S : cS} (B : BX p m c cb_R_skipBlanksLinesAndComments 3 s args (.code y_R_skipBlanksLinesAndComments cb_R_skipBlanksLinesAndComments 3 none :: wsA) RZ4 meth none D vwCl (tyL dA) b0 Z) (hR : CR b0 K Z) (hl : lx ls [some (.ref y0), some (.int y1), none]) (I : AI D vwCl b0 (cH dA b0 S hp0) sz s.heap H locs)  {k : Nat} (hm : x_R_skipBlanksLinesAndComments_2 N b0 K  k y0 y1 S = some S') : W p l e { frames := 0, cells := 0, slots := 0, locals := 0 } s m args below meth c H locs 0 0 (MQ below (CQ D vwCl b0 none (cH dA b0 S' hp0) sz) args s 0 0 (fun q => b0 ≤ q)) (F0 m 2 ls []) := w_R_skipBlanksLinesAndComments_2i  B hR k _ _ S ls H locs hl I hm
def x_R_skipBlanksLinesAndComments (N b0 : Nat) (K : cS) (p0 : Nat) (S : cS) : Option cS :=
  x_R_skipBlanksLinesAndComments_2 N b0 K  N p0 0 S
set_option maxRecDepth 100000 in
set_option maxHeartbeats 4000000 in
theorem c_R_skipBlanksLinesAndComments {p0 : Nat} {S S' : cS} (hR : CR b0 K Z) (hm : x_R_skipBlanksLinesAndComments N b0 K p0 S = some S') : Ct l D vwCl (tyL dA) b0 Z y_R_skipBlanksLinesAndComments (.code y_R_skipBlanksLinesAndComments cb_R_skipBlanksLinesAndComments 3 none :: wsA) 0 0 [.ref p0] (cH dA b0 S hp0) sz none (cH dA b0 S' hp0) 0 0 := by
  refine ct_ofF (cc := cb_R_skipBlanksLinesAndComments) (maxL := 3) (ret := none) (lo0 := [some (.ref p0), none, none]) hR.1 (by decide) rfl (by simp [lg_sl, cat_i, cat_r, cat_l, va_rf_cat]) rfl (by simp [lx_all, lv_args, cat_i, cat_r, cat_l, va_rf_cat]) ?_
  intro p e s m args below meth c ls B hnm hl I
  obtain ⟨hx, hb, -⟩ := B.1
  unfold x_R_skipBlanksLinesAndComments at hm
  refine lv_iconst (pc := 0) (v := 0) hx hb d_R_skipBlanksLinesAndComments_0 (by decide) ?_
  refine q_istore_n (pc := 1) (i := 1) (lo' := [some (.ref p0), some (.int 0), none]) hx hb d_R_skipBlanksLinesAndComments_1 rfl hl (Nat.le_of_ble_eq_true rfl) (lx_cr rfl) rfl (fun ls hl => ?_)
  exact w_R_skipBlanksLinesAndComments_2  B hR hl I hm
def x_R_digitAt_36 (N b0 : Nat) (K : cS) (y2 : Int32) (y3 : Int32) (S : cS) : Option Int32 :=
  if y2 = 16 then (if y3 < 97 then (some (-1)) else (if 102 < y3 then (some (-1)) else (some ((y3 - 97) + 10)))) else (some (-1))
set_option maxRecDepth 100000 in
set_option maxHeartbeats 4000000 in
theorem w_R_digitAt_36 {y2 : Int32} {y3 : Int32} {S : cS} (B : BX p m c cb_R_digitAt 4 s args (.code y_R_digitAt cb_R_digitAt 4 (some .int) :: wsA) RZ4 meth (some .int) D vwCl (tyL dA) b0 Z) (hR : CR b0 K Z) (hl : lx ls [none, none, some (.int y2), some (.int y3)]) (I : AI D vwCl b0 (cH dA b0 S hp0) sz s.heap H locs)  (hm : x_R_digitAt_36 N b0 K  y2 y3 S = some r) : W p l e { frames := 0, cells := 0, slots := 0, locals := 0 } s m args below meth c H locs 0 0 (MQ below (CQ D vwCl b0 (some (.int r)) (cH dA b0 S hp0) sz) args s 0 0 (fun q => b0 ≤ q)) (F0 m 36 ls []) := by
  obtain ⟨hx, hb, -⟩ := B.1
  unfold x_R_digitAt_36 at hm
  refine lv_iload_n (pc := 36) (i := 2) hx hb d_R_digitAt_36 rfl (lx_get hl rfl) ?_
  refine lv_bipush (pc := 37) (v := 16) hx hb d_R_digitAt_37 (by decide) ?_
  refine lv_icmp_ne (pc := 39) (tgt := 64) hx hb d_R_digitAt_39 (by decide) (fun hc => ?_) (fun hc => ?_)
  · have hm := iff' hc hm
    refine lv_iconst (pc := 64) (v := (-1)) hx hb d_R_digitAt_64 (by decide) ?_
    cases hm
    exact q_iret (pc := 65) B I rfl d_R_digitAt_65
  · have hm := ift hc hm
    refine lv_iload_n (pc := 42) (i := 3) hx hb d_R_digitAt_42 rfl (lx_get hl rfl) ?_
    refine lv_bipush (pc := 43) (v := 97) hx hb d_R_digitAt_43 (by decide) ?_
    refine lv_icmp_lt (pc := 45) (tgt := 64) hx hb d_R_digitAt_45 (by decide) (fun hc => ?_) (fun hc => ?_)
    · have hm := ift hc hm
      refine lv_iconst (pc := 64) (v := (-1)) hx hb d_R_digitAt_64 (by decide) ?_
      cases hm
      exact q_iret (pc := 65) B I rfl d_R_digitAt_65
    · have hm := iff' hc hm
      refine lv_iload_n (pc := 48) (i := 3) hx hb d_R_digitAt_48 rfl (lx_get hl rfl) ?_
      refine lv_bipush (pc := 49) (v := 102) hx hb d_R_digitAt_49 (by decide) ?_
      refine lv_icmp_gt (pc := 51) (tgt := 64) hx hb d_R_digitAt_51 (by decide) (fun hc => ?_) (fun hc => ?_)
      · have hm := ift hc hm
        refine lv_iconst (pc := 64) (v := (-1)) hx hb d_R_digitAt_64 (by decide) ?_
        cases hm
        exact q_iret (pc := 65) B I rfl d_R_digitAt_65
      · have hm := iff' hc hm
        refine lv_iload_n (pc := 54) (i := 3) hx hb d_R_digitAt_54 rfl (lx_get hl rfl) ?_
        refine lv_bipush (pc := 55) (v := 97) hx hb d_R_digitAt_55 (by decide) ?_
        refine lv_isub (pc := 57) hx hb d_R_digitAt_57 ?_
        refine lv_bipush (pc := 58) (v := 10) hx hb d_R_digitAt_58 (by decide) ?_
        refine lv_iadd (pc := 60) hx hb d_R_digitAt_60 ?_
        refine lv_goto (pc := 61) (tgt := 65) hx hb d_R_digitAt_61 (by decide) ?_
        cases hm
        exact q_iret (pc := 65) B I rfl d_R_digitAt_65
def x_R_digitAt_18 (N b0 : Nat) (K : cS) (y2 : Int32) (z0 : Int32) (S : cS) : Option Int32 :=
  if z0 < 48 then (x_R_digitAt_36 N b0 K  y2 z0 S) else (if 57 < z0 then (x_R_digitAt_36 N b0 K  y2 z0 S) else (some (z0 - 48)))
set_option maxRecDepth 100000 in
set_option maxHeartbeats 4000000 in
theorem w_R_digitAt_18 {y2 : Int32} {z0 : Int32} {S : cS} (B : BX p m c cb_R_digitAt 4 s args (.code y_R_digitAt cb_R_digitAt 4 (some .int) :: wsA) RZ4 meth (some .int) D vwCl (tyL dA) b0 Z) (hR : CR b0 K Z) (hl : lx ls [none, none, some (.int y2), none]) (I : AI D vwCl b0 (cH dA b0 S hp0) sz s.heap H locs)  (hm : x_R_digitAt_18 N b0 K  y2 z0 S = some r) : W p l e { frames := 0, cells := 0, slots := 0, locals := 0 } s m args below meth c H locs 0 0 (MQ below (CQ D vwCl b0 (some (.int r)) (cH dA b0 S hp0) sz) args s 0 0 (fun q => b0 ≤ q)) (F0 m 18 ls [.int z0]) := by
  obtain ⟨hx, hb, -⟩ := B.1
  unfold x_R_digitAt_18 at hm
  refine q_istore_n (pc := 18) (i := 3) (lo' := [none, none, some (.int y2), some (.int z0)]) hx hb d_R_digitAt_18 rfl hl (Nat.le_of_ble_eq_true rfl) (lx_ci rfl) rfl (fun ls hl => ?_)
  refine lv_iload_n (pc := 19) (i := 3) hx hb d_R_digitAt_19 rfl (lx_get hl rfl) ?_
  refine lv_bipush (pc := 20) (v := 48) hx hb d_R_digitAt_20 (by decide) ?_
  refine lv_icmp_lt (pc := 22) (tgt := 36) hx hb d_R_digitAt_22 (by decide) (fun hc => ?_) (fun hc => ?_)
  · have hm := ift hc hm
    exact w_R_digitAt_36  B hR hl I hm
  · have hm := iff' hc hm
    refine lv_iload_n (pc := 25) (i := 3) hx hb d_R_digitAt_25 rfl (lx_get hl rfl) ?_
    refine lv_bipush (pc := 26) (v := 57) hx hb d_R_digitAt_26 (by decide) ?_
    refine lv_icmp_gt (pc := 28) (tgt := 36) hx hb d_R_digitAt_28 (by decide) (fun hc => ?_) (fun hc => ?_)
    · have hm := ift hc hm
      exact w_R_digitAt_36  B hR hl I hm
    · have hm := iff' hc hm
      refine lv_iload_n (pc := 31) (i := 3) hx hb d_R_digitAt_31 rfl (lx_get hl rfl) ?_
      refine lv_bipush (pc := 32) (v := 48) hx hb d_R_digitAt_32 (by decide) ?_
      refine lv_isub (pc := 34) hx hb d_R_digitAt_34 ?_
      cases hm
      exact q_iret (pc := 35) B I rfl d_R_digitAt_35
def x_R_digitAt (N b0 : Nat) (K : cS) (p0 : Nat) (p1 : Int32) (p2 : Int32) (S : cS) : Option Int32 :=
  b1 (gI b0 K S 4 1 p0) (fun x1 => if x1 ≤ p1 then (x_R_digitAt_18 N b0 K  p2 (-1) S) else (b1 (gR b0 K S 4 0 p0) (fun q3 => b1 q3 (fun a5 => b1 (aL b0 K S 11 a5 p1) (fun x8 => x_R_digitAt_18 N b0 K  p2 x8 S)))))
set_option maxRecDepth 100000 in
set_option maxHeartbeats 4000000 in
theorem c_R_digitAt {p0 : Nat} {p1 : Int32} {p2 : Int32} {S : cS} {r : Int32} (hR : CR b0 K Z) (hm : x_R_digitAt N b0 K p0 p1 p2 S = some r) : Ct l D vwCl (tyL dA) b0 Z y_R_digitAt (.code y_R_digitAt cb_R_digitAt 4 (some .int) :: wsA) 0 0 [.ref p0, .int p1, .int p2] (cH dA b0 S hp0) sz (some (.int r)) (cH dA b0 S hp0) 0 0 := by
  refine ct_ofF (cc := cb_R_digitAt) (maxL := 4) (ret := (some .int)) (lo0 := [some (.ref p0), some (.int p1), some (.int p2), none]) hR.1 (by decide) rfl (by simp [lg_sl, cat_i, cat_r, cat_l, va_rf_cat]) rfl (by simp [lx_all, lv_args, cat_i, cat_r, cat_l, va_rf_cat]) ?_
  intro p e s m args below meth c ls B hnm hl I
  obtain ⟨hx, hb, -⟩ := B.1
  unfold x_R_digitAt at hm
  refine lv_iload_n (pc := 0) (i := 1) hx hb d_R_digitAt_0 rfl (lx_get hl rfl) ?_
  refine q_aload_n (pc := 1) (i := 0) (v := .ref p0) hx hb d_R_digitAt_1 rfl rfl (lx_get hl rfl) ?_
  refine ob1 hm (fun x1 e2 hm => ?_)
  refine k_getI (pc := 2) (z := 4) (k := 1) (index := 15) B hR I (by decide) (by decide) mF_R_15 rfl (fun _ _ => rfl) e2 d_R_digitAt_2 ?_
  refine lv_icmp_ge (pc := 5) (tgt := 17) hx hb d_R_digitAt_5 (by decide) (fun hc => ?_) (fun hc => ?_)
  · have hm := ift hc hm
    refine lv_iconst (pc := 17) (v := (-1)) hx hb d_R_digitAt_17 (by decide) ?_
    exact w_R_digitAt_18  B hR (lx_sub (lo' := [none, none, some (.int p2), none]) hl (by simp [lx_le])) I hm
  · have hm := iff' hc hm
    refine q_aload_n (pc := 8) (i := 0) (v := .ref p0) hx hb d_R_digitAt_8 rfl rfl (lx_get hl rfl) ?_
    refine ob1 hm (fun q3 e4 hm => ?_)
    refine k_getR (pc := 9) (z := 4) (k := 0) (index := 9) B hR I (by decide) (by decide) mF_R_9 rfl (fun _ _ => rfl) e4 d_R_digitAt_9 ?_
    refine lv_iload_n (pc := 12) (i := 1) hx hb d_R_digitAt_12 rfl (lx_get hl rfl) ?_
    refine ob1 hm (fun a5 e6 hm => ?_)
    have hm_7 := hm; have hl_7 := hl; have I_7 := I
    subst e6
    have hm := hm_7; have hl := hl_7; have I := I_7
    refine ob1 hm (fun x8 e9 hm => ?_)
    refine k_cald (pc := 13) B hR I e9 d_R_digitAt_13 ?_
    refine lv_goto (pc := 14) (tgt := 18) hx hb d_R_digitAt_14 (by decide) ?_
    exact w_R_digitAt_18  B hR (lx_sub (lo' := [none, none, some (.int p2), none]) hl (by simp [lx_le])) I hm
def x_R_dateBegins_2F (N b0 : Nat) (K : cS) (K2 : Nat → Int32 → cS → Option Int32) (y0 : Nat) (y1 : Int32) (S : cS) : Option Int32 :=
  if 4 ≤ y1 then (b1 (gI b0 K S 4 6 y0) (fun x1 => b1 (gI b0 K S 4 1 y0) (fun x3 => if x3 ≤ x1 + 4 then (some 0) else (b1 (gR b0 K S 4 0 y0) (fun q5 => b1 (gI b0 K S 4 6 y0) (fun x7 => b1 q5 (fun a9 => b1 (aL b0 K S 11 a9 (x7 + 4)) (fun x12 => if x12 = 45 then (some 1) else (some 0))))))))) else (b1 (gI b0 K S 4 6 y0) (fun x14 => ifk b0 K S 4 y0 (b1 (x_R_digitAt N b0 K y0 (x14 + y1) 10 S) (fun x17 => if 0 ≤ x17 then (K2 y0 (y1 + 1) S) else (some 0)))))
def x_R_dateBegins_2 (N b0 : Nat) (K : cS) : Nat → Nat → Int32 → cS → Option Int32
  | 0, _, _, _ => none
  | k + 1, y0, y1, S => x_R_dateBegins_2F N b0 K  (x_R_dateBegins_2 N b0 K  k) y0 y1 S
set_option maxRecDepth 100000 in
set_option maxHeartbeats 4000000 in
theorem w_R_dateBegins_2F {K2 : Nat → Int32 → cS → Option Int32} {y0 : Nat} {y1 : Int32} {S : cS} (hK2 : ∀ (y0 : Nat) (y1 : Int32) (S : cS) (ls : Array Slot) (H : Heap) (locs : List Loc), lx ls [some (.ref y0), some (.int y1)] → AI D vwCl b0 (cH dA b0 S hp0) sz s.heap H locs → K2 y0 y1 S = some r → W p l e { frames := 1, cells := 0, slots := 0, locals := 23 } s m args below meth c H locs 0 0 (MQ below (CQ D vwCl b0 (some (.int r)) (cH dA b0 S hp0) sz) args s 0 0 (fun q => b0 ≤ q)) (F0 m 2 ls [])) (B : BX p m c cb_R_dateBegins 2 s args (.code y_R_dateBegins cb_R_dateBegins 2 (some .boolean) :: wsA) RZ4 meth (some .boolean) D vwCl (tyL dA) b0 Z) (hR : CR b0 K Z) (hl : lx ls [some (.ref y0), some (.int y1)]) (I : AI D vwCl b0 (cH dA b0 S hp0) sz s.heap H locs)  (hm : x_R_dateBegins_2F N b0 K  K2 y0 y1 S = some r) : W p l e { frames := 1, cells := 0, slots := 0, locals := 23 } s m args below meth c H locs 0 0 (MQ below (CQ D vwCl b0 (some (.int r)) (cH dA b0 S hp0) sz) args s 0 0 (fun q => b0 ≤ q)) (F0 m 2 ls []) := by
  obtain ⟨hx, hb, -⟩ := B.1
  unfold x_R_dateBegins_2F at hm
  refine lv_iload_n (pc := 2) (i := 1) hx hb d_R_dateBegins_2 rfl (lx_get hl rfl) ?_
  refine lv_iconst (pc := 3) (v := 4) hx hb d_R_dateBegins_3 (by decide) ?_
  refine lv_icmp_ge (pc := 4) (tgt := 30) hx hb d_R_dateBegins_4 (by decide) (fun hc => ?_) (fun hc => ?_)
  · have hm := ift hc hm
    refine q_aload_n (pc := 30) (i := 0) (v := .ref y0) hx hb d_R_dateBegins_30 rfl rfl (lx_get hl rfl) ?_
    refine ob1 hm (fun x1 e2 hm => ?_)
    refine k_getI (pc := 31) (z := 4) (k := 6) (index := 45) B hR I (by decide) (by decide) mF_R_45 rfl (fun _ _ => rfl) e2 d_R_dateBegins_31 ?_
    refine lv_iconst (pc := 34) (v := 4) hx hb d_R_dateBegins_34 (by decide) ?_
    refine lv_iadd (pc := 35) hx hb d_R_dateBegins_35 ?_
    refine q_aload_n (pc := 36) (i := 0) (v := .ref y0) hx hb d_R_dateBegins_36 rfl rfl (lx_get hl rfl) ?_
    refine ob1 hm (fun x3 e4 hm => ?_)
    refine k_getI (pc := 37) (z := 4) (k := 1) (index := 15) B hR I (by decide) (by decide) mF_R_15 rfl (fun _ _ => rfl) e4 d_R_dateBegins_37 ?_
    refine lv_icmp_ge (pc := 40) (tgt := 63) hx hb d_R_dateBegins_40 (by decide) (fun hc => ?_) (fun hc => ?_)
    · have hm := ift hc hm
      refine lv_iconst (pc := 63) (v := 0) hx hb d_R_dateBegins_63 (by decide) ?_
      cases hm
      exact q_zret (pc := 64) B I rfl (by decide) d_R_dateBegins_64
    · have hm := iff' hc hm
      refine q_aload_n (pc := 43) (i := 0) (v := .ref y0) hx hb d_R_dateBegins_43 rfl rfl (lx_get hl rfl) ?_
      refine ob1 hm (fun q5 e6 hm => ?_)
      refine k_getR (pc := 44) (z := 4) (k := 0) (index := 9) B hR I (by decide) (by decide) mF_R_9 rfl (fun _ _ => rfl) e6 d_R_dateBegins_44 ?_
      refine q_aload_n (pc := 47) (i := 0) (v := .ref y0) hx hb d_R_dateBegins_47 rfl rfl (lx_get hl rfl) ?_
      refine ob1 hm (fun x7 e8 hm => ?_)
      refine k_getI (pc := 48) (z := 4) (k := 6) (index := 45) B hR I (by decide) (by decide) mF_R_45 rfl (fun _ _ => rfl) e8 d_R_dateBegins_48 ?_
      refine lv_iconst (pc := 51) (v := 4) hx hb d_R_dateBegins_51 (by decide) ?_
      refine lv_iadd (pc := 52) hx hb d_R_dateBegins_52 ?_
      refine ob1 hm (fun a9 e10 hm => ?_)
      have hm_11 := hm; have hl_11 := hl; have I_11 := I
      subst e10
      have hm := hm_11; have hl := hl_11; have I := I_11
      refine ob1 hm (fun x12 e13 hm => ?_)
      refine k_cald (pc := 53) B hR I e13 d_R_dateBegins_53 ?_
      refine lv_bipush (pc := 54) (v := 45) hx hb d_R_dateBegins_54 (by decide) ?_
      refine lv_icmp_ne (pc := 56) (tgt := 63) hx hb d_R_dateBegins_56 (by decide) (fun hc => ?_) (fun hc => ?_)
      · have hm := iff' hc hm
        refine lv_iconst (pc := 63) (v := 0) hx hb d_R_dateBegins_63 (by decide) ?_
        cases hm
        exact q_zret (pc := 64) B I rfl (by decide) d_R_dateBegins_64
      · have hm := ift hc hm
        refine lv_iconst (pc := 59) (v := 1) hx hb d_R_dateBegins_59 (by decide) ?_
        refine lv_goto (pc := 60) (tgt := 64) hx hb d_R_dateBegins_60 (by decide) ?_
        cases hm
        exact q_zret (pc := 64) B I rfl (by decide) d_R_dateBegins_64
  · have hm := iff' hc hm
    refine q_aload_n (pc := 7) (i := 0) (v := .ref y0) hx hb d_R_dateBegins_7 rfl rfl (lx_get hl rfl) ?_
    refine q_aload_n (pc := 8) (i := 0) (v := .ref y0) hx hb d_R_dateBegins_8 rfl rfl (lx_get hl rfl) ?_
    refine ob1 hm (fun x14 e15 hm => ?_)
    refine k_getI (pc := 9) (z := 4) (k := 6) (index := 45) B hR I (by decide) (by decide) mF_R_45 rfl (fun _ _ => rfl) e15 d_R_dateBegins_9 ?_
    refine lv_iload_n (pc := 12) (i := 1) hx hb d_R_dateBegins_12 rfl (lx_get hl rfl) ?_
    refine lv_iadd (pc := 13) hx hb d_R_dateBegins_13 ?_
    refine lv_bipush (pc := 14) (v := 10) hx hb d_R_dateBegins_14 (by decide) ?_
    refine oifk hm (fun hk hm => ?_)
    refine ob1 hm (fun x17 e16 hm => ?_)
    refine k_callV (pc := 16) (As := [.int (x14 + y1), .int 10]) (rest := []) (b := y0) B hR hl rfl I (c_R_digitAt hR e16) kw_R_226 (by decide) hk rfl (Nat.le_of_ble_eq_true rfl) (Nat.le_of_ble_eq_true rfl) rfl (by simp [cat_i, cat_r, cat_l, va_rf_cat]) d_R_dateBegins_16 (Nat.le_refl _) (Nat.le_refl _) (fun H locs I => ?_)
    refine lv_if_ge (pc := 19) (tgt := 24) hx hb d_R_dateBegins_19 (by decide) (fun hc => ?_) (fun hc => ?_)
    · have hm := ift hc hm
      refine q_iinc (pc := 24) (i := 1) (v := y1 + 1) (lo' := [some (.ref y0), some (.int (y1 + 1))]) hx hb d_R_dateBegins_24 hl rfl rfl (Nat.le_of_ble_eq_true rfl) (lx_cr rfl) rfl (fun ls hl => ?_)
      refine lv_goto (pc := 27) (tgt := 2) hx hb d_R_dateBegins_27 (by decide) ?_
      exact hK2 _ _ _ _ _ _ hl I hm
    · have hm := iff' hc hm
      refine lv_iconst (pc := 22) (v := 0) hx hb d_R_dateBegins_22 (by decide) ?_
      cases hm
      exact q_zret (pc := 23) B I rfl (by decide) d_R_dateBegins_23
set_option maxRecDepth 100000 in
set_option maxHeartbeats 4000000 in
theorem w_R_dateBegins_2i (B : BX p m c cb_R_dateBegins 2 s args (.code y_R_dateBegins cb_R_dateBegins 2 (some .boolean) :: wsA) RZ4 meth (some .boolean) D vwCl (tyL dA) b0 Z) (hR : CR b0 K Z) (k : Nat) (y0 : Nat) (y1 : Int32) (S : cS) (ls : Array Slot) (H : Heap) (locs : List Loc) (hl : lx ls [some (.ref y0), some (.int y1)]) (I : AI D vwCl b0 (cH dA b0 S hp0) sz s.heap H locs)  (hm : x_R_dateBegins_2 N b0 K  k y0 y1 S = some r) : W p l e { frames := 1, cells := 0, slots := 0, locals := 23 } s m args below meth c H locs 0 0 (MQ below (CQ D vwCl b0 (some (.int r)) (cH dA b0 S hp0) sz) args s 0 0 (fun q => b0 ≤ q)) (F0 m 2 ls []) := by
  induction k generalizing y0 y1 S ls H locs with
  | zero => cases hm
  | succ k ih => exact w_R_dateBegins_2F  (fun y0 y1 S ls H locs hl I hm => ih y0 y1 S ls H locs hl I hm) B hR hl I hm
theorem w_R_dateBegins_2 {y0 : Nat} {y1 : Int32} {S : cS} (B : BX p m c cb_R_dateBegins 2 s args (.code y_R_dateBegins cb_R_dateBegins 2 (some .boolean) :: wsA) RZ4 meth (some .boolean) D vwCl (tyL dA) b0 Z) (hR : CR b0 K Z) (hl : lx ls [some (.ref y0), some (.int y1)]) (I : AI D vwCl b0 (cH dA b0 S hp0) sz s.heap H locs)  {k : Nat} (hm : x_R_dateBegins_2 N b0 K  k y0 y1 S = some r) : W p l e { frames := 1, cells := 0, slots := 0, locals := 23 } s m args below meth c H locs 0 0 (MQ below (CQ D vwCl b0 (some (.int r)) (cH dA b0 S hp0) sz) args s 0 0 (fun q => b0 ≤ q)) (F0 m 2 ls []) := w_R_dateBegins_2i  B hR k _ _ S ls H locs hl I hm
def x_R_dateBegins (N b0 : Nat) (K : cS) (p0 : Nat) (S : cS) : Option Int32 :=
  x_R_dateBegins_2 N b0 K  N p0 0 S
set_option maxRecDepth 100000 in
set_option maxHeartbeats 4000000 in
theorem c_R_dateBegins {p0 : Nat} {S : cS} {r : Int32} (hR : CR b0 K Z) (hm : x_R_dateBegins N b0 K p0 S = some r) : Ct l D vwCl (tyL dA) b0 Z y_R_dateBegins (.code y_R_dateBegins cb_R_dateBegins 2 (some .boolean) :: wsA) 1 23 [.ref p0] (cH dA b0 S hp0) sz (some (.int r)) (cH dA b0 S hp0) 0 0 := by
  refine ct_ofF (cc := cb_R_dateBegins) (maxL := 2) (ret := (some .boolean)) (lo0 := [some (.ref p0), none]) hR.1 (by decide) rfl (by simp [lg_sl, cat_i, cat_r, cat_l, va_rf_cat]) rfl (by simp [lx_all, lv_args, cat_i, cat_r, cat_l, va_rf_cat]) ?_
  intro p e s m args below meth c ls B hnm hl I
  obtain ⟨hx, hb, -⟩ := B.1
  unfold x_R_dateBegins at hm
  refine lv_iconst (pc := 0) (v := 0) hx hb d_R_dateBegins_0 (by decide) ?_
  refine q_istore_n (pc := 1) (i := 1) (lo' := [some (.ref p0), some (.int 0)]) hx hb d_R_dateBegins_1 rfl hl (Nat.le_of_ble_eq_true rfl) (lx_cr rfl) rfl (fun ls hl => ?_)
  exact w_R_dateBegins_2  B hR hl I hm
def x_R_readTwoDigits_78 (N b0 : Nat) (K : cS) (y0 : Nat) (y2 : Int32) (S : cS) : Option (Int32 × cS) :=
  ifk b0 K S 4 y0 (b2 (x_R_wrong N b0 K y0 y2 S) (fun q2 S3 => some ((-1), S3)))
set_option maxRecDepth 100000 in
set_option maxHeartbeats 4000000 in
theorem w_R_readTwoDigits_78 {y0 : Nat} {y2 : Int32} {S : cS} (B : BX p m c cb_R_readTwoDigits 6 s args (.code y_R_readTwoDigits cb_R_readTwoDigits 6 (some .int) :: wsA) RZ4 meth (some .int) D vwCl (tyL dA) b0 Z) (hR : CR b0 K Z) (hl : lx ls [some (.ref y0), none, some (.int y2), none, none, none]) (I : AI D vwCl b0 (cH dA b0 S hp0) sz s.heap H locs)  (hm : x_R_readTwoDigits_78 N b0 K  y0 y2 S = some (r, S')) : W p l e { frames := 1, cells := 0, slots := 0, locals := 23 } s m args below meth c H locs 0 0 (MQ below (CQ D vwCl b0 (some (.int r)) (cH dA b0 S' hp0) sz) args s 0 0 (fun q => b0 ≤ q)) (F0 m 78 ls []) := by
  obtain ⟨hx, hb, -⟩ := B.1
  unfold x_R_readTwoDigits_78 at hm
  refine q_aload_n (pc := 78) (i := 0) (v := .ref y0) hx hb d_R_readTwoDigits_78 rfl rfl (lx_get hl rfl) ?_
  refine lv_iload_n (pc := 79) (i := 2) hx hb d_R_readTwoDigits_79 rfl (lx_get hl rfl) ?_
  refine oifk hm (fun hk hm => ?_)
  refine ob2 hm (fun q2 S3 e1 hm => ?_)
  refine k_callV (pc := 80) (As := [.int y2]) (rest := []) (b := y0) B hR hl rfl I (c_R_wrong hR e1) kw_R_105 (by decide) hk rfl (Nat.le_of_ble_eq_true rfl) (Nat.le_of_ble_eq_true rfl) rfl (by simp [cat_i, cat_r, cat_l, va_rf_cat]) d_R_readTwoDigits_80 (Nat.le_refl _) (Nat.le_refl _) (fun H locs I => ?_)
  refine lv_pop (pc := 83) hx hb d_R_readTwoDigits_83 (va_rf_cat _) ?_
  refine lv_iconst (pc := 84) (v := (-1)) hx hb d_R_readTwoDigits_84 (by decide) ?_
  cases hm
  exact q_iret (pc := 85) B I rfl d_R_readTwoDigits_85
def x_R_readTwoDigits_10F (N b0 : Nat) (K : cS) (K10 : Nat → Int32 → Int32 → Int32 → Int32 → cS → Option (Int32 × cS)) (y0 : Nat) (y1 : Int32) (y2 : Int32) (y3 : Int32) (y4 : Int32) (S : cS) : Option (Int32 × cS) :=
  if 2 ≤ y4 then (if y3 < 1 then (x_R_readTwoDigits_78 N b0 K  y0 y2 S) else (if y3 ≤ y1 then (some (y3, S)) else (x_R_readTwoDigits_78 N b0 K  y0 y2 S))) else (b1 (gI b0 K S 4 6 y0) (fun x1 => ifk b0 K S 4 y0 (b1 (x_R_digitAt N b0 K y0 x1 10 S) (fun x4 => if 0 ≤ x4 then (b1 (gI b0 K S 4 6 y0) (fun x5 => b1 (pI b0 S 4 6 y0 (x5 + 1)) (fun S7 => K10 y0 y1 y2 ((10 * y3) + x4) (y4 + 1) S7))) else (b1 (gI b0 K S 4 6 y0) (fun x9 => ifk b0 K S 4 y0 (b2 (x_R_wrong N b0 K y0 x9 S) (fun q12 S13 => some ((-1), S13)))))))))
def x_R_readTwoDigits_10 (N b0 : Nat) (K : cS) : Nat → Nat → Int32 → Int32 → Int32 → Int32 → cS → Option (Int32 × cS)
  | 0, _, _, _, _, _, _ => none
  | k + 1, y0, y1, y2, y3, y4, S => x_R_readTwoDigits_10F N b0 K  (x_R_readTwoDigits_10 N b0 K  k) y0 y1 y2 y3 y4 S
set_option maxRecDepth 100000 in
set_option maxHeartbeats 4000000 in
theorem w_R_readTwoDigits_10F {K10 : Nat → Int32 → Int32 → Int32 → Int32 → cS → Option (Int32 × cS)} {y0 : Nat} {y1 : Int32} {y2 : Int32} {y3 : Int32} {y4 : Int32} {S : cS} (hK10 : ∀ (y0 : Nat) (y1 : Int32) (y2 : Int32) (y3 : Int32) (y4 : Int32) (S : cS) (ls : Array Slot) (H : Heap) (locs : List Loc), lx ls [some (.ref y0), some (.int y1), some (.int y2), some (.int y3), some (.int y4), none] → AI D vwCl b0 (cH dA b0 S hp0) sz s.heap H locs → K10 y0 y1 y2 y3 y4 S = some (r, S') → W p l e { frames := 1, cells := 0, slots := 0, locals := 23 } s m args below meth c H locs 0 0 (MQ below (CQ D vwCl b0 (some (.int r)) (cH dA b0 S' hp0) sz) args s 0 0 (fun q => b0 ≤ q)) (F0 m 10 ls [])) (B : BX p m c cb_R_readTwoDigits 6 s args (.code y_R_readTwoDigits cb_R_readTwoDigits 6 (some .int) :: wsA) RZ4 meth (some .int) D vwCl (tyL dA) b0 Z) (hR : CR b0 K Z) (hl : lx ls [some (.ref y0), some (.int y1), some (.int y2), some (.int y3), some (.int y4), none]) (I : AI D vwCl b0 (cH dA b0 S hp0) sz s.heap H locs)  (hm : x_R_readTwoDigits_10F N b0 K  K10 y0 y1 y2 y3 y4 S = some (r, S')) : W p l e { frames := 1, cells := 0, slots := 0, locals := 23 } s m args below meth c H locs 0 0 (MQ below (CQ D vwCl b0 (some (.int r)) (cH dA b0 S' hp0) sz) args s 0 0 (fun q => b0 ≤ q)) (F0 m 10 ls []) := by
  obtain ⟨hx, hb, -⟩ := B.1
  unfold x_R_readTwoDigits_10F at hm
  refine lv_iload (pc := 10) (i := 4) hx hb d_R_readTwoDigits_10 (lx_get hl rfl) ?_
  refine lv_iconst (pc := 12) (v := 2) hx hb d_R_readTwoDigits_12 (by decide) ?_
  refine lv_icmp_ge (pc := 13) (tgt := 68) hx hb d_R_readTwoDigits_13 (by decide) (fun hc => ?_) (fun hc => ?_)
  · have hm := ift hc hm
    refine lv_iload_n (pc := 68) (i := 3) hx hb d_R_readTwoDigits_68 rfl (lx_get hl rfl) ?_
    refine lv_iconst (pc := 69) (v := 1) hx hb d_R_readTwoDigits_69 (by decide) ?_
    refine lv_icmp_lt (pc := 70) (tgt := 78) hx hb d_R_readTwoDigits_70 (by decide) (fun hc => ?_) (fun hc => ?_)
    · have hm := ift hc hm
      exact w_R_readTwoDigits_78  B hR (lx_sub (lo' := [some (.ref y0), none, some (.int y2), none, none, none]) hl (by simp [lx_le])) I hm
    · have hm := iff' hc hm
      refine lv_iload_n (pc := 73) (i := 3) hx hb d_R_readTwoDigits_73 rfl (lx_get hl rfl) ?_
      refine lv_iload_n (pc := 74) (i := 1) hx hb d_R_readTwoDigits_74 rfl (lx_get hl rfl) ?_
      refine lv_icmp_le (pc := 75) (tgt := 86) hx hb d_R_readTwoDigits_75 (by decide) (fun hc => ?_) (fun hc => ?_)
      · have hm := ift hc hm
        refine lv_iload_n (pc := 86) (i := 3) hx hb d_R_readTwoDigits_86 rfl (lx_get hl rfl) ?_
        cases hm
        exact q_iret (pc := 87) B I rfl d_R_readTwoDigits_87
      · have hm := iff' hc hm
        exact w_R_readTwoDigits_78  B hR (lx_sub (lo' := [some (.ref y0), none, some (.int y2), none, none, none]) hl (by simp [lx_le])) I hm
  · have hm := iff' hc hm
    refine q_aload_n (pc := 16) (i := 0) (v := .ref y0) hx hb d_R_readTwoDigits_16 rfl rfl (lx_get hl rfl) ?_
    refine q_aload_n (pc := 17) (i := 0) (v := .ref y0) hx hb d_R_readTwoDigits_17 rfl rfl (lx_get hl rfl) ?_
    refine ob1 hm (fun x1 e2 hm => ?_)
    refine k_getI (pc := 18) (z := 4) (k := 6) (index := 45) B hR I (by decide) (by decide) mF_R_45 rfl (fun _ _ => rfl) e2 d_R_readTwoDigits_18 ?_
    refine lv_bipush (pc := 21) (v := 10) hx hb d_R_readTwoDigits_21 (by decide) ?_
    refine oifk hm (fun hk hm => ?_)
    refine ob1 hm (fun x4 e3 hm => ?_)
    refine k_callV (pc := 23) (As := [.int x1, .int 10]) (rest := []) (b := y0) B hR hl rfl I (c_R_digitAt hR e3) kw_R_226 (by decide) hk rfl (Nat.le_of_ble_eq_true rfl) (Nat.le_of_ble_eq_true rfl) rfl (by simp [cat_i, cat_r, cat_l, va_rf_cat]) d_R_readTwoDigits_23 (Nat.le_refl _) (Nat.le_refl _) (fun H locs I => ?_)
    refine q_istore (pc := 26) (i := 5) (lo' := [some (.ref y0), some (.int y1), some (.int y2), some (.int y3), some (.int y4), some (.int x4)]) hx hb d_R_readTwoDigits_26 hl (Nat.le_of_ble_eq_true rfl) (lx_ci rfl) rfl (fun ls hl => ?_)
    refine lv_iload (pc := 28) (i := 5) hx hb d_R_readTwoDigits_28 (lx_get hl rfl) ?_
    refine lv_if_ge (pc := 30) (tgt := 44) hx hb d_R_readTwoDigits_30 (by decide) (fun hc => ?_) (fun hc => ?_)
    · have hm := ift hc hm
      refine lv_bipush (pc := 44) (v := 10) hx hb d_R_readTwoDigits_44 (by decide) ?_
      refine lv_iload_n (pc := 46) (i := 3) hx hb d_R_readTwoDigits_46 rfl (lx_get hl rfl) ?_
      refine lv_imul (pc := 47) hx hb d_R_readTwoDigits_47 ?_
      refine lv_iload (pc := 48) (i := 5) hx hb d_R_readTwoDigits_48 (lx_get hl rfl) ?_
      refine lv_iadd (pc := 50) hx hb d_R_readTwoDigits_50 ?_
      refine q_istore_n (pc := 51) (i := 3) (lo' := [some (.ref y0), some (.int y1), some (.int y2), some (.int ((10 * y3) + x4)), some (.int y4), some (.int x4)]) hx hb d_R_readTwoDigits_51 rfl hl (Nat.le_of_ble_eq_true rfl) (lx_ci rfl) rfl (fun ls hl => ?_)
      refine q_aload_n (pc := 52) (i := 0) (v := .ref y0) hx hb d_R_readTwoDigits_52 rfl rfl (lx_get hl rfl) ?_
      refine lv_dup (pc := 53) hx hb d_R_readTwoDigits_53 rfl ?_
      refine ob1 hm (fun x5 e6 hm => ?_)
      refine k_getI (pc := 54) (z := 4) (k := 6) (index := 45) B hR I (by decide) (by decide) mF_R_45 rfl (fun _ _ => rfl) e6 d_R_readTwoDigits_54 ?_
      refine lv_iconst (pc := 57) (v := 1) hx hb d_R_readTwoDigits_57 (by decide) ?_
      refine lv_iadd (pc := 58) hx hb d_R_readTwoDigits_58 ?_
      refine ob1 hm (fun S7 e8 hm => ?_)
      refine k_putI (pc := 59) (z := 4) (k := 6) (index := 45) (v := (x5 + 1)) B I (by decide) (by decide) mF_R_45 rfl rfl rfl rfl cset_4_6 e8 d_R_readTwoDigits_59 (fun H locs I => ?_)
      refine q_iinc (pc := 62) (i := 4) (v := y4 + 1) (lo' := [some (.ref y0), some (.int y1), some (.int y2), some (.int ((10 * y3) + x4)), some (.int (y4 + 1)), some (.int x4)]) hx hb d_R_readTwoDigits_62 hl rfl rfl (Nat.le_of_ble_eq_true rfl) (lx_ci rfl) rfl (fun ls hl => ?_)
      refine lv_goto (pc := 65) (tgt := 10) hx hb d_R_readTwoDigits_65 (by decide) ?_
      exact hK10 _ _ _ _ _ _ _ _ _ (lx_sub (lo' := [some (.ref y0), some (.int y1), some (.int y2), some (.int ((10 * y3) + x4)), some (.int (y4 + 1)), none]) hl (by simp [lx_le])) I hm
    · have hm := iff' hc hm
      refine q_aload_n (pc := 33) (i := 0) (v := .ref y0) hx hb d_R_readTwoDigits_33 rfl rfl (lx_get hl rfl) ?_
      refine q_aload_n (pc := 34) (i := 0) (v := .ref y0) hx hb d_R_readTwoDigits_34 rfl rfl (lx_get hl rfl) ?_
      refine ob1 hm (fun x9 e10 hm => ?_)
      refine k_getI (pc := 35) (z := 4) (k := 6) (index := 45) B hR I (by decide) (by decide) mF_R_45 rfl (fun _ _ => rfl) e10 d_R_readTwoDigits_35 ?_
      refine oifk hm (fun hk hm => ?_)
      refine ob2 hm (fun q12 S13 e11 hm => ?_)
      refine k_callV (pc := 38) (As := [.int x9]) (rest := []) (b := y0) B hR hl rfl I (c_R_wrong hR e11) kw_R_105 (by decide) hk rfl (Nat.le_of_ble_eq_true rfl) (Nat.le_of_ble_eq_true rfl) rfl (by simp [cat_i, cat_r, cat_l, va_rf_cat]) d_R_readTwoDigits_38 (Nat.le_refl _) (Nat.le_refl _) (fun H locs I => ?_)
      refine lv_pop (pc := 41) hx hb d_R_readTwoDigits_41 (va_rf_cat _) ?_
      refine lv_iconst (pc := 42) (v := (-1)) hx hb d_R_readTwoDigits_42 (by decide) ?_
      cases hm
      exact q_iret (pc := 43) B I rfl d_R_readTwoDigits_43
set_option maxRecDepth 100000 in
set_option maxHeartbeats 4000000 in
theorem w_R_readTwoDigits_10i (B : BX p m c cb_R_readTwoDigits 6 s args (.code y_R_readTwoDigits cb_R_readTwoDigits 6 (some .int) :: wsA) RZ4 meth (some .int) D vwCl (tyL dA) b0 Z) (hR : CR b0 K Z) (k : Nat) (y0 : Nat) (y1 : Int32) (y2 : Int32) (y3 : Int32) (y4 : Int32) (S : cS) (ls : Array Slot) (H : Heap) (locs : List Loc) (hl : lx ls [some (.ref y0), some (.int y1), some (.int y2), some (.int y3), some (.int y4), none]) (I : AI D vwCl b0 (cH dA b0 S hp0) sz s.heap H locs)  (hm : x_R_readTwoDigits_10 N b0 K  k y0 y1 y2 y3 y4 S = some (r, S')) : W p l e { frames := 1, cells := 0, slots := 0, locals := 23 } s m args below meth c H locs 0 0 (MQ below (CQ D vwCl b0 (some (.int r)) (cH dA b0 S' hp0) sz) args s 0 0 (fun q => b0 ≤ q)) (F0 m 10 ls []) := by
  induction k generalizing y0 y1 y2 y3 y4 S ls H locs with
  | zero => cases hm
  | succ k ih => exact w_R_readTwoDigits_10F  (fun y0 y1 y2 y3 y4 S ls H locs hl I hm => ih y0 y1 y2 y3 y4 S ls H locs hl I hm) B hR hl I hm
theorem w_R_readTwoDigits_10 {y0 : Nat} {y1 : Int32} {y2 : Int32} {y3 : Int32} {y4 : Int32} {S : cS} (B : BX p m c cb_R_readTwoDigits 6 s args (.code y_R_readTwoDigits cb_R_readTwoDigits 6 (some .int) :: wsA) RZ4 meth (some .int) D vwCl (tyL dA) b0 Z) (hR : CR b0 K Z) (hl : lx ls [some (.ref y0), some (.int y1), some (.int y2), some (.int y3), some (.int y4), none]) (I : AI D vwCl b0 (cH dA b0 S hp0) sz s.heap H locs)  {k : Nat} (hm : x_R_readTwoDigits_10 N b0 K  k y0 y1 y2 y3 y4 S = some (r, S')) : W p l e { frames := 1, cells := 0, slots := 0, locals := 23 } s m args below meth c H locs 0 0 (MQ below (CQ D vwCl b0 (some (.int r)) (cH dA b0 S' hp0) sz) args s 0 0 (fun q => b0 ≤ q)) (F0 m 10 ls []) := w_R_readTwoDigits_10i  B hR k _ _ _ _ _ S ls H locs hl I hm
def x_R_readTwoDigits (N b0 : Nat) (K : cS) (p0 : Nat) (p1 : Int32) (S : cS) : Option (Int32 × cS) :=
  b1 (gI b0 K S 4 6 p0) (fun x1 => x_R_readTwoDigits_10 N b0 K  N p0 p1 x1 0 0 S)
set_option maxRecDepth 100000 in
set_option maxHeartbeats 4000000 in
theorem c_R_readTwoDigits {p0 : Nat} {p1 : Int32} {S S' : cS} {r : Int32} (hR : CR b0 K Z) (hm : x_R_readTwoDigits N b0 K p0 p1 S = some (r, S')) : Ct l D vwCl (tyL dA) b0 Z y_R_readTwoDigits (.code y_R_readTwoDigits cb_R_readTwoDigits 6 (some .int) :: wsA) 1 23 [.ref p0, .int p1] (cH dA b0 S hp0) sz (some (.int r)) (cH dA b0 S' hp0) 0 0 := by
  refine ct_ofF (cc := cb_R_readTwoDigits) (maxL := 6) (ret := (some .int)) (lo0 := [some (.ref p0), some (.int p1), none, none, none, none]) hR.1 (by decide) rfl (by simp [lg_sl, cat_i, cat_r, cat_l, va_rf_cat]) rfl (by simp [lx_all, lv_args, cat_i, cat_r, cat_l, va_rf_cat]) ?_
  intro p e s m args below meth c ls B hnm hl I
  obtain ⟨hx, hb, -⟩ := B.1
  unfold x_R_readTwoDigits at hm
  refine q_aload_n (pc := 0) (i := 0) (v := .ref p0) hx hb d_R_readTwoDigits_0 rfl rfl (lx_get hl rfl) ?_
  refine ob1 hm (fun x1 e2 hm => ?_)
  refine k_getI (pc := 1) (z := 4) (k := 6) (index := 45) B hR I (by decide) (by decide) mF_R_45 rfl (fun _ _ => rfl) e2 d_R_readTwoDigits_1 ?_
  refine q_istore_n (pc := 4) (i := 2) (lo' := [some (.ref p0), some (.int p1), some (.int x1), none, none, none]) hx hb d_R_readTwoDigits_4 rfl hl (Nat.le_of_ble_eq_true rfl) (lx_ci rfl) rfl (fun ls hl => ?_)
  refine lv_iconst (pc := 5) (v := 0) hx hb d_R_readTwoDigits_5 (by decide) ?_
  refine q_istore_n (pc := 6) (i := 3) (lo' := [some (.ref p0), some (.int p1), some (.int x1), some (.int 0), none, none]) hx hb d_R_readTwoDigits_6 rfl hl (Nat.le_of_ble_eq_true rfl) (lx_ci rfl) rfl (fun ls hl => ?_)
  refine lv_iconst (pc := 7) (v := 0) hx hb d_R_readTwoDigits_7 (by decide) ?_
  refine q_istore (pc := 8) (i := 4) (lo' := [some (.ref p0), some (.int p1), some (.int x1), some (.int 0), some (.int 0), none]) hx hb d_R_readTwoDigits_8 hl (Nat.le_of_ble_eq_true rfl) (lx_ci rfl) rfl (fun ls hl => ?_)
  exact w_R_readTwoDigits_10  B hR hl I hm
def x_R_readDigits_41 (N b0 : Nat) (K : cS) (y0 : Nat) (S : cS) : Option (Int32 × cS) :=
  b1 (gI b0 K S 4 6 y0) (fun x1 => ifk b0 K S 4 y0 (b2 (x_R_wrong N b0 K y0 x1 S) (fun q4 S5 => some ((-1), S5))))
set_option maxRecDepth 100000 in
set_option maxHeartbeats 4000000 in
theorem w_R_readDigits_41 {y0 : Nat} {S : cS} (B : BX p m c cb_R_readDigits 7 s args (.code y_R_readDigits cb_R_readDigits 7 (some .int) :: wsA) RZ4 meth (some .int) D vwCl (tyL dA) b0 Z) (hR : CR b0 K Z) (hl : lx ls [some (.ref y0), none, none, none, none, none, none]) (I : AI D vwCl b0 (cH dA b0 S hp0) sz s.heap H locs)  (hm : x_R_readDigits_41 N b0 K  y0 S = some (r, S')) : W p l e { frames := 1, cells := 0, slots := 0, locals := 23 } s m args below meth c H locs 0 0 (MQ below (CQ D vwCl b0 (some (.int r)) (cH dA b0 S' hp0) sz) args s 0 0 (fun q => b0 ≤ q)) (F0 m 41 ls []) := by
  obtain ⟨hx, hb, -⟩ := B.1
  unfold x_R_readDigits_41 at hm
  refine q_aload_n (pc := 41) (i := 0) (v := .ref y0) hx hb d_R_readDigits_41 rfl rfl (lx_get hl rfl) ?_
  refine q_aload_n (pc := 42) (i := 0) (v := .ref y0) hx hb d_R_readDigits_42 rfl rfl (lx_get hl rfl) ?_
  refine ob1 hm (fun x1 e2 hm => ?_)
  refine k_getI (pc := 43) (z := 4) (k := 6) (index := 45) B hR I (by decide) (by decide) mF_R_45 rfl (fun _ _ => rfl) e2 d_R_readDigits_43 ?_
  refine oifk hm (fun hk hm => ?_)
  refine ob2 hm (fun q4 S5 e3 hm => ?_)
  refine k_callV (pc := 46) (As := [.int x1]) (rest := []) (b := y0) B hR hl rfl I (c_R_wrong hR e3) kw_R_105 (by decide) hk rfl (Nat.le_of_ble_eq_true rfl) (Nat.le_of_ble_eq_true rfl) rfl (by simp [cat_i, cat_r, cat_l, va_rf_cat]) d_R_readDigits_46 (Nat.le_refl _) (Nat.le_refl _) (fun H locs I => ?_)
  refine lv_pop (pc := 49) hx hb d_R_readDigits_49 (va_rf_cat _) ?_
  refine lv_iconst (pc := 50) (v := (-1)) hx hb d_R_readDigits_50 (by decide) ?_
  cases hm
  exact q_iret (pc := 51) B I rfl d_R_readDigits_51
def x_R_readDigits_116 (N b0 : Nat) (K : cS) (K8 : Nat → Int32 → Int32 → Int32 → Int32 → Int32 → cS → Option (Int32 × cS)) (y0 : Nat) (y1 : Int32) (y2 : Int32) (y3 : Int32) (y4 : Int32) (y5 : Int32) (S : cS) : Option (Int32 × cS) :=
  K8 y0 y1 y2 y3 y4 (y5 + 1) S
set_option maxRecDepth 100000 in
set_option maxHeartbeats 4000000 in
theorem w_R_readDigits_116 {K8 : Nat → Int32 → Int32 → Int32 → Int32 → Int32 → cS → Option (Int32 × cS)} {y0 : Nat} {y1 : Int32} {y2 : Int32} {y3 : Int32} {y4 : Int32} {y5 : Int32} {S : cS} (hK8 : ∀ (y0 : Nat) (y1 : Int32) (y2 : Int32) (y3 : Int32) (y4 : Int32) (y5 : Int32) (S : cS) (ls : Array Slot) (H : Heap) (locs : List Loc), lx ls [some (.ref y0), some (.int y1), some (.int y2), some (.int y3), some (.int y4), some (.int y5), none] → AI D vwCl b0 (cH dA b0 S hp0) sz s.heap H locs → K8 y0 y1 y2 y3 y4 y5 S = some (r, S') → W p l e { frames := 1, cells := 0, slots := 0, locals := 23 } s m args below meth c H locs 0 0 (MQ below (CQ D vwCl b0 (some (.int r)) (cH dA b0 S' hp0) sz) args s 0 0 (fun q => b0 ≤ q)) (F0 m 8 ls [])) (B : BX p m c cb_R_readDigits 7 s args (.code y_R_readDigits cb_R_readDigits 7 (some .int) :: wsA) RZ4 meth (some .int) D vwCl (tyL dA) b0 Z) (hR : CR b0 K Z) (hl : lx ls [some (.ref y0), some (.int y1), some (.int y2), some (.int y3), some (.int y4), some (.int y5), none]) (I : AI D vwCl b0 (cH dA b0 S hp0) sz s.heap H locs)  (hm : x_R_readDigits_116 N b0 K K8 y0 y1 y2 y3 y4 y5 S = some (r, S')) : W p l e { frames := 1, cells := 0, slots := 0, locals := 23 } s m args below meth c H locs 0 0 (MQ below (CQ D vwCl b0 (some (.int r)) (cH dA b0 S' hp0) sz) args s 0 0 (fun q => b0 ≤ q)) (F0 m 116 ls []) := by
  obtain ⟨hx, hb, -⟩ := B.1
  unfold x_R_readDigits_116 at hm
  refine q_iinc (pc := 116) (i := 5) (v := y5 + 1) (lo' := [some (.ref y0), some (.int y1), some (.int y2), some (.int y3), some (.int y4), some (.int (y5 + 1)), none]) hx hb d_R_readDigits_116 hl rfl rfl (Nat.le_of_ble_eq_true rfl) (lx_ci rfl) rfl (fun ls hl => ?_)
  refine lv_goto (pc := 119) (tgt := 8) hx hb d_R_readDigits_119 (by decide) ?_
  exact hK8 _ _ _ _ _ _ _ _ _ _ hl I hm
def x_R_readDigits_95 (N b0 : Nat) (K : cS) (K8 : Nat → Int32 → Int32 → Int32 → Int32 → Int32 → cS → Option (Int32 × cS)) (y0 : Nat) (y1 : Int32) (y2 : Int32) (y3 : Int32) (y5 : Int32) (z0 : Int32) (S : cS) : Option (Int32 × cS) :=
  ifk b0 K S 4 y0 (b1 (x_R_peek N b0 K y0 S) (fun x2 => if x2 = 95 then (b1 (gI b0 K S 4 6 y0) (fun x3 => b1 (pI b0 S 4 6 y0 (x3 + 1)) (fun S5 => x_R_readDigits_116 N b0 K K8 y0 y1 y2 y3 z0 y5 S5))) else (x_R_readDigits_116 N b0 K K8 y0 y1 y2 y3 z0 y5 S)))
set_option maxRecDepth 100000 in
set_option maxHeartbeats 4000000 in
theorem w_R_readDigits_95 {K8 : Nat → Int32 → Int32 → Int32 → Int32 → Int32 → cS → Option (Int32 × cS)} {y0 : Nat} {y1 : Int32} {y2 : Int32} {y3 : Int32} {y5 : Int32} {z0 : Int32} {S : cS} (hK8 : ∀ (y0 : Nat) (y1 : Int32) (y2 : Int32) (y3 : Int32) (y4 : Int32) (y5 : Int32) (S : cS) (ls : Array Slot) (H : Heap) (locs : List Loc), lx ls [some (.ref y0), some (.int y1), some (.int y2), some (.int y3), some (.int y4), some (.int y5), none] → AI D vwCl b0 (cH dA b0 S hp0) sz s.heap H locs → K8 y0 y1 y2 y3 y4 y5 S = some (r, S') → W p l e { frames := 1, cells := 0, slots := 0, locals := 23 } s m args below meth c H locs 0 0 (MQ below (CQ D vwCl b0 (some (.int r)) (cH dA b0 S' hp0) sz) args s 0 0 (fun q => b0 ≤ q)) (F0 m 8 ls [])) (B : BX p m c cb_R_readDigits 7 s args (.code y_R_readDigits cb_R_readDigits 7 (some .int) :: wsA) RZ4 meth (some .int) D vwCl (tyL dA) b0 Z) (hR : CR b0 K Z) (hl : lx ls [some (.ref y0), some (.int y1), some (.int y2), some (.int y3), none, some (.int y5), none]) (I : AI D vwCl b0 (cH dA b0 S hp0) sz s.heap H locs)  (hm : x_R_readDigits_95 N b0 K K8 y0 y1 y2 y3 y5 z0 S = some (r, S')) : W p l e { frames := 1, cells := 0, slots := 0, locals := 23 } s m args below meth c H locs 0 0 (MQ below (CQ D vwCl b0 (some (.int r)) (cH dA b0 S' hp0) sz) args s 0 0 (fun q => b0 ≤ q)) (F0 m 95 ls [.int z0]) := by
  obtain ⟨hx, hb, -⟩ := B.1
  unfold x_R_readDigits_95 at hm
  refine q_istore (pc := 95) (i := 4) (lo' := [some (.ref y0), some (.int y1), some (.int y2), some (.int y3), some (.int z0), some (.int y5), none]) hx hb d_R_readDigits_95 hl (Nat.le_of_ble_eq_true rfl) (lx_ci rfl) rfl (fun ls hl => ?_)
  refine q_aload_n (pc := 97) (i := 0) (v := .ref y0) hx hb d_R_readDigits_97 rfl rfl (lx_get hl rfl) ?_
  refine oifk hm (fun hk hm => ?_)
  refine ob1 hm (fun x2 e1 hm => ?_)
  refine k_callV (pc := 98) (As := []) (rest := []) (b := y0) B hR hl rfl I (c_R_peek hR e1) kw_R_54 (by decide) hk rfl (Nat.le_of_ble_eq_true rfl) (Nat.le_of_ble_eq_true rfl) rfl (by simp [cat_i, cat_r, cat_l, va_rf_cat]) d_R_readDigits_98 (Nat.le_refl _) (Nat.le_refl _) (fun H locs I => ?_)
  refine lv_bipush (pc := 101) (v := 95) hx hb d_R_readDigits_101 (by decide) ?_
  refine lv_icmp_ne (pc := 103) (tgt := 116) hx hb d_R_readDigits_103 (by decide) (fun hc => ?_) (fun hc => ?_)
  · have hm := iff' hc hm
    exact w_R_readDigits_116 hK8 B hR hl I hm
  · have hm := ift hc hm
    refine q_aload_n (pc := 106) (i := 0) (v := .ref y0) hx hb d_R_readDigits_106 rfl rfl (lx_get hl rfl) ?_
    refine lv_dup (pc := 107) hx hb d_R_readDigits_107 rfl ?_
    refine ob1 hm (fun x3 e4 hm => ?_)
    refine k_getI (pc := 108) (z := 4) (k := 6) (index := 45) B hR I (by decide) (by decide) mF_R_45 rfl (fun _ _ => rfl) e4 d_R_readDigits_108 ?_
    refine lv_iconst (pc := 111) (v := 1) hx hb d_R_readDigits_111 (by decide) ?_
    refine lv_iadd (pc := 112) hx hb d_R_readDigits_112 ?_
    refine ob1 hm (fun S5 e6 hm => ?_)
    refine k_putI (pc := 113) (z := 4) (k := 6) (index := 45) (v := (x3 + 1)) B I (by decide) (by decide) mF_R_45 rfl rfl rfl rfl cset_4_6 e6 d_R_readDigits_113 (fun H locs I => ?_)
    exact w_R_readDigits_116 hK8 B hR hl I hm
def x_R_readDigits_90 (N b0 : Nat) (K : cS) (K8 : Nat → Int32 → Int32 → Int32 → Int32 → Int32 → cS → Option (Int32 × cS)) (y0 : Nat) (y1 : Int32) (y2 : Int32) (y3 : Int32) (y5 : Int32) (S : cS) : Option (Int32 × cS) :=
  x_R_readDigits_95 N b0 K K8 y0 y1 y2 y3 y5 1 S
set_option maxRecDepth 100000 in
set_option maxHeartbeats 4000000 in
theorem w_R_readDigits_90 {K8 : Nat → Int32 → Int32 → Int32 → Int32 → Int32 → cS → Option (Int32 × cS)} {y0 : Nat} {y1 : Int32} {y2 : Int32} {y3 : Int32} {y5 : Int32} {S : cS} (hK8 : ∀ (y0 : Nat) (y1 : Int32) (y2 : Int32) (y3 : Int32) (y4 : Int32) (y5 : Int32) (S : cS) (ls : Array Slot) (H : Heap) (locs : List Loc), lx ls [some (.ref y0), some (.int y1), some (.int y2), some (.int y3), some (.int y4), some (.int y5), none] → AI D vwCl b0 (cH dA b0 S hp0) sz s.heap H locs → K8 y0 y1 y2 y3 y4 y5 S = some (r, S') → W p l e { frames := 1, cells := 0, slots := 0, locals := 23 } s m args below meth c H locs 0 0 (MQ below (CQ D vwCl b0 (some (.int r)) (cH dA b0 S' hp0) sz) args s 0 0 (fun q => b0 ≤ q)) (F0 m 8 ls [])) (B : BX p m c cb_R_readDigits 7 s args (.code y_R_readDigits cb_R_readDigits 7 (some .int) :: wsA) RZ4 meth (some .int) D vwCl (tyL dA) b0 Z) (hR : CR b0 K Z) (hl : lx ls [some (.ref y0), some (.int y1), some (.int y2), some (.int y3), none, some (.int y5), none]) (I : AI D vwCl b0 (cH dA b0 S hp0) sz s.heap H locs)  (hm : x_R_readDigits_90 N b0 K K8 y0 y1 y2 y3 y5 S = some (r, S')) : W p l e { frames := 1, cells := 0, slots := 0, locals := 23 } s m args below meth c H locs 0 0 (MQ below (CQ D vwCl b0 (some (.int r)) (cH dA b0 S' hp0) sz) args s 0 0 (fun q => b0 ≤ q)) (F0 m 90 ls []) := by
  obtain ⟨hx, hb, -⟩ := B.1
  unfold x_R_readDigits_90 at hm
  refine lv_iconst (pc := 90) (v := 1) hx hb d_R_readDigits_90 (by decide) ?_
  refine lv_goto (pc := 91) (tgt := 95) hx hb d_R_readDigits_91 (by decide) ?_
  exact w_R_readDigits_95 hK8 B hR hl I hm
def x_R_readDigits_8F (N b0 : Nat) (K : cS) (K8 : Nat → Int32 → Int32 → Int32 → Int32 → Int32 → cS → Option (Int32 × cS)) (y0 : Nat) (y1 : Int32) (y2 : Int32) (y3 : Int32) (y4 : Int32) (y5 : Int32) (S : cS) : Option (Int32 × cS) :=
  if y4 = 0 then (some (y3, S)) else (if y2 < y5 then (some (y3, S)) else (b1 (gI b0 K S 4 6 y0) (fun x1 => ifk b0 K S 4 y0 (b1 (x_R_digitAt N b0 K y0 x1 y1 S) (fun x4 => if x4 < 0 then (x_R_readDigits_41 N b0 K  y0 S) else (if y5 < y2 then (b1 (gI b0 K S 4 6 y0) (fun x5 => b1 (pI b0 S 4 6 y0 (x5 + 1)) (fun S7 => ifk b0 K S7 4 y0 (b1 (x_R_peek N b0 K y0 S7) (fun x10 => if x10 = 95 then (x_R_readDigits_90 N b0 K K8 y0 y1 y2 ((y3 * y1) + x4) y5 S7) else (b1 (gI b0 K S7 4 6 y0) (fun x11 => ifk b0 K S7 4 y0 (b1 (x_R_digitAt N b0 K y0 x11 y1 S7) (fun x14 => if x14 < 0 then (x_R_readDigits_95 N b0 K K8 y0 y1 y2 ((y3 * y1) + x4) y5 0 S7) else (x_R_readDigits_90 N b0 K K8 y0 y1 y2 ((y3 * y1) + x4) y5 S7)))))))))) else (x_R_readDigits_41 N b0 K  y0 S)))))))
def x_R_readDigits_8 (N b0 : Nat) (K : cS) : Nat → Nat → Int32 → Int32 → Int32 → Int32 → Int32 → cS → Option (Int32 × cS)
  | 0, _, _, _, _, _, _, _ => none
  | k + 1, y0, y1, y2, y3, y4, y5, S => x_R_readDigits_8F N b0 K  (x_R_readDigits_8 N b0 K  k) y0 y1 y2 y3 y4 y5 S
set_option maxRecDepth 100000 in
set_option maxHeartbeats 4000000 in
theorem w_R_readDigits_8F {K8 : Nat → Int32 → Int32 → Int32 → Int32 → Int32 → cS → Option (Int32 × cS)} {y0 : Nat} {y1 : Int32} {y2 : Int32} {y3 : Int32} {y4 : Int32} {y5 : Int32} {S : cS} (hK8 : ∀ (y0 : Nat) (y1 : Int32) (y2 : Int32) (y3 : Int32) (y4 : Int32) (y5 : Int32) (S : cS) (ls : Array Slot) (H : Heap) (locs : List Loc), lx ls [some (.ref y0), some (.int y1), some (.int y2), some (.int y3), some (.int y4), some (.int y5), none] → AI D vwCl b0 (cH dA b0 S hp0) sz s.heap H locs → K8 y0 y1 y2 y3 y4 y5 S = some (r, S') → W p l e { frames := 1, cells := 0, slots := 0, locals := 23 } s m args below meth c H locs 0 0 (MQ below (CQ D vwCl b0 (some (.int r)) (cH dA b0 S' hp0) sz) args s 0 0 (fun q => b0 ≤ q)) (F0 m 8 ls [])) (B : BX p m c cb_R_readDigits 7 s args (.code y_R_readDigits cb_R_readDigits 7 (some .int) :: wsA) RZ4 meth (some .int) D vwCl (tyL dA) b0 Z) (hR : CR b0 K Z) (hl : lx ls [some (.ref y0), some (.int y1), some (.int y2), some (.int y3), some (.int y4), some (.int y5), none]) (I : AI D vwCl b0 (cH dA b0 S hp0) sz s.heap H locs)  (hm : x_R_readDigits_8F N b0 K  K8 y0 y1 y2 y3 y4 y5 S = some (r, S')) : W p l e { frames := 1, cells := 0, slots := 0, locals := 23 } s m args below meth c H locs 0 0 (MQ below (CQ D vwCl b0 (some (.int r)) (cH dA b0 S' hp0) sz) args s 0 0 (fun q => b0 ≤ q)) (F0 m 8 ls []) := by
  obtain ⟨hx, hb, -⟩ := B.1
  unfold x_R_readDigits_8F at hm
  refine lv_iload (pc := 8) (i := 4) hx hb d_R_readDigits_8 (lx_get hl rfl) ?_
  refine lv_if_eq (pc := 10) (tgt := 122) hx hb d_R_readDigits_10 (by decide) (fun hc => ?_) (fun hc => ?_)
  · have hm := ift hc hm
    refine lv_iload_n (pc := 122) (i := 3) hx hb d_R_readDigits_122 rfl (lx_get hl rfl) ?_
    cases hm
    exact q_iret (pc := 123) B I rfl d_R_readDigits_123
  · have hm := iff' hc hm
    refine lv_iload (pc := 13) (i := 5) hx hb d_R_readDigits_13 (lx_get hl rfl) ?_
    refine lv_iload_n (pc := 15) (i := 2) hx hb d_R_readDigits_15 rfl (lx_get hl rfl) ?_
    refine lv_icmp_gt (pc := 16) (tgt := 122) hx hb d_R_readDigits_16 (by decide) (fun hc => ?_) (fun hc => ?_)
    · have hm := ift hc hm
      refine lv_iload_n (pc := 122) (i := 3) hx hb d_R_readDigits_122 rfl (lx_get hl rfl) ?_
      cases hm
      exact q_iret (pc := 123) B I rfl d_R_readDigits_123
    · have hm := iff' hc hm
      refine q_aload_n (pc := 19) (i := 0) (v := .ref y0) hx hb d_R_readDigits_19 rfl rfl (lx_get hl rfl) ?_
      refine q_aload_n (pc := 20) (i := 0) (v := .ref y0) hx hb d_R_readDigits_20 rfl rfl (lx_get hl rfl) ?_
      refine ob1 hm (fun x1 e2 hm => ?_)
      refine k_getI (pc := 21) (z := 4) (k := 6) (index := 45) B hR I (by decide) (by decide) mF_R_45 rfl (fun _ _ => rfl) e2 d_R_readDigits_21 ?_
      refine lv_iload_n (pc := 24) (i := 1) hx hb d_R_readDigits_24 rfl (lx_get hl rfl) ?_
      refine oifk hm (fun hk hm => ?_)
      refine ob1 hm (fun x4 e3 hm => ?_)
      refine k_callV (pc := 25) (As := [.int x1, .int y1]) (rest := []) (b := y0) B hR hl rfl I (c_R_digitAt hR e3) kw_R_226 (by decide) hk rfl (Nat.le_of_ble_eq_true rfl) (Nat.le_of_ble_eq_true rfl) rfl (by simp [cat_i, cat_r, cat_l, va_rf_cat]) d_R_readDigits_25 (Nat.le_refl _) (Nat.le_refl _) (fun H locs I => ?_)
      refine q_istore (pc := 28) (i := 6) (lo' := [some (.ref y0), some (.int y1), some (.int y2), some (.int y3), some (.int y4), some (.int y5), some (.int x4)]) hx hb d_R_readDigits_28 hl (Nat.le_of_ble_eq_true rfl) (lx_ci rfl) rfl (fun ls hl => ?_)
      refine lv_iload (pc := 30) (i := 6) hx hb d_R_readDigits_30 (lx_get hl rfl) ?_
      refine lv_if_lt (pc := 32) (tgt := 41) hx hb d_R_readDigits_32 (by decide) (fun hc => ?_) (fun hc => ?_)
      · have hm := ift hc hm
        exact w_R_readDigits_41  B hR (lx_sub (lo' := [some (.ref y0), none, none, none, none, none, none]) hl (by simp [lx_le])) I hm
      · have hm := iff' hc hm
        refine lv_iload (pc := 35) (i := 5) hx hb d_R_readDigits_35 (lx_get hl rfl) ?_
        refine lv_iload_n (pc := 37) (i := 2) hx hb d_R_readDigits_37 rfl (lx_get hl rfl) ?_
        refine lv_icmp_lt (pc := 38) (tgt := 52) hx hb d_R_readDigits_38 (by decide) (fun hc => ?_) (fun hc => ?_)
        · have hm := ift hc hm
          refine lv_iload_n (pc := 52) (i := 3) hx hb d_R_readDigits_52 rfl (lx_get hl rfl) ?_
          refine lv_iload_n (pc := 53) (i := 1) hx hb d_R_readDigits_53 rfl (lx_get hl rfl) ?_
          refine lv_imul (pc := 54) hx hb d_R_readDigits_54 ?_
          refine lv_iload (pc := 55) (i := 6) hx hb d_R_readDigits_55 (lx_get hl rfl) ?_
          refine lv_iadd (pc := 57) hx hb d_R_readDigits_57 ?_
          refine q_istore_n (pc := 58) (i := 3) (lo' := [some (.ref y0), some (.int y1), some (.int y2), some (.int ((y3 * y1) + x4)), some (.int y4), some (.int y5), some (.int x4)]) hx hb d_R_readDigits_58 rfl hl (Nat.le_of_ble_eq_true rfl) (lx_ci rfl) rfl (fun ls hl => ?_)
          refine q_aload_n (pc := 59) (i := 0) (v := .ref y0) hx hb d_R_readDigits_59 rfl rfl (lx_get hl rfl) ?_
          refine lv_dup (pc := 60) hx hb d_R_readDigits_60 rfl ?_
          refine ob1 hm (fun x5 e6 hm => ?_)
          refine k_getI (pc := 61) (z := 4) (k := 6) (index := 45) B hR I (by decide) (by decide) mF_R_45 rfl (fun _ _ => rfl) e6 d_R_readDigits_61 ?_
          refine lv_iconst (pc := 64) (v := 1) hx hb d_R_readDigits_64 (by decide) ?_
          refine lv_iadd (pc := 65) hx hb d_R_readDigits_65 ?_
          refine ob1 hm (fun S7 e8 hm => ?_)
          refine k_putI (pc := 66) (z := 4) (k := 6) (index := 45) (v := (x5 + 1)) B I (by decide) (by decide) mF_R_45 rfl rfl rfl rfl cset_4_6 e8 d_R_readDigits_66 (fun H locs I => ?_)
          refine q_aload_n (pc := 69) (i := 0) (v := .ref y0) hx hb d_R_readDigits_69 rfl rfl (lx_get hl rfl) ?_
          refine oifk hm (fun hk hm => ?_)
          refine ob1 hm (fun x10 e9 hm => ?_)
          refine k_callV (pc := 70) (As := []) (rest := []) (b := y0) B hR hl rfl I (c_R_peek hR e9) kw_R_54 (by decide) hk rfl (Nat.le_of_ble_eq_true rfl) (Nat.le_of_ble_eq_true rfl) rfl (by simp [cat_i, cat_r, cat_l, va_rf_cat]) d_R_readDigits_70 (Nat.le_refl _) (Nat.le_refl _) (fun H locs I => ?_)
          refine lv_bipush (pc := 73) (v := 95) hx hb d_R_readDigits_73 (by decide) ?_
          refine lv_icmp_eq (pc := 75) (tgt := 90) hx hb d_R_readDigits_75 (by decide) (fun hc => ?_) (fun hc => ?_)
          · have hm := ift hc hm
            exact w_R_readDigits_90 hK8 B hR (lx_sub (lo' := [some (.ref y0), some (.int y1), some (.int y2), some (.int ((y3 * y1) + x4)), none, some (.int y5), none]) hl (by simp [lx_le])) I hm
          · have hm := iff' hc hm
            refine q_aload_n (pc := 78) (i := 0) (v := .ref y0) hx hb d_R_readDigits_78 rfl rfl (lx_get hl rfl) ?_
            refine q_aload_n (pc := 79) (i := 0) (v := .ref y0) hx hb d_R_readDigits_79 rfl rfl (lx_get hl rfl) ?_
            refine ob1 hm (fun x11 e12 hm => ?_)
            refine k_getI (pc := 80) (z := 4) (k := 6) (index := 45) B hR I (by decide) (by decide) mF_R_45 rfl (fun _ _ => rfl) e12 d_R_readDigits_80 ?_
            refine lv_iload_n (pc := 83) (i := 1) hx hb d_R_readDigits_83 rfl (lx_get hl rfl) ?_
            refine oifk hm (fun hk hm => ?_)
            refine ob1 hm (fun x14 e13 hm => ?_)
            refine k_callV (pc := 84) (As := [.int x11, .int y1]) (rest := []) (b := y0) B hR hl rfl I (c_R_digitAt hR e13) kw_R_226 (by decide) hk rfl (Nat.le_of_ble_eq_true rfl) (Nat.le_of_ble_eq_true rfl) rfl (by simp [cat_i, cat_r, cat_l, va_rf_cat]) d_R_readDigits_84 (Nat.le_refl _) (Nat.le_refl _) (fun H locs I => ?_)
            refine lv_if_lt (pc := 87) (tgt := 94) hx hb d_R_readDigits_87 (by decide) (fun hc => ?_) (fun hc => ?_)
            · have hm := ift hc hm
              refine lv_iconst (pc := 94) (v := 0) hx hb d_R_readDigits_94 (by decide) ?_
              exact w_R_readDigits_95 hK8 B hR (lx_sub (lo' := [some (.ref y0), some (.int y1), some (.int y2), some (.int ((y3 * y1) + x4)), none, some (.int y5), none]) hl (by simp [lx_le])) I hm
            · have hm := iff' hc hm
              exact w_R_readDigits_90 hK8 B hR (lx_sub (lo' := [some (.ref y0), some (.int y1), some (.int y2), some (.int ((y3 * y1) + x4)), none, some (.int y5), none]) hl (by simp [lx_le])) I hm
        · have hm := iff' hc hm
          exact w_R_readDigits_41  B hR (lx_sub (lo' := [some (.ref y0), none, none, none, none, none, none]) hl (by simp [lx_le])) I hm
set_option maxRecDepth 100000 in
set_option maxHeartbeats 4000000 in
theorem w_R_readDigits_8i (B : BX p m c cb_R_readDigits 7 s args (.code y_R_readDigits cb_R_readDigits 7 (some .int) :: wsA) RZ4 meth (some .int) D vwCl (tyL dA) b0 Z) (hR : CR b0 K Z) (k : Nat) (y0 : Nat) (y1 : Int32) (y2 : Int32) (y3 : Int32) (y4 : Int32) (y5 : Int32) (S : cS) (ls : Array Slot) (H : Heap) (locs : List Loc) (hl : lx ls [some (.ref y0), some (.int y1), some (.int y2), some (.int y3), some (.int y4), some (.int y5), none]) (I : AI D vwCl b0 (cH dA b0 S hp0) sz s.heap H locs)  (hm : x_R_readDigits_8 N b0 K  k y0 y1 y2 y3 y4 y5 S = some (r, S')) : W p l e { frames := 1, cells := 0, slots := 0, locals := 23 } s m args below meth c H locs 0 0 (MQ below (CQ D vwCl b0 (some (.int r)) (cH dA b0 S' hp0) sz) args s 0 0 (fun q => b0 ≤ q)) (F0 m 8 ls []) := by
  induction k generalizing y0 y1 y2 y3 y4 y5 S ls H locs with
  | zero => cases hm
  | succ k ih => exact w_R_readDigits_8F  (fun y0 y1 y2 y3 y4 y5 S ls H locs hl I hm => ih y0 y1 y2 y3 y4 y5 S ls H locs hl I hm) B hR hl I hm
theorem w_R_readDigits_8 {y0 : Nat} {y1 : Int32} {y2 : Int32} {y3 : Int32} {y4 : Int32} {y5 : Int32} {S : cS} (B : BX p m c cb_R_readDigits 7 s args (.code y_R_readDigits cb_R_readDigits 7 (some .int) :: wsA) RZ4 meth (some .int) D vwCl (tyL dA) b0 Z) (hR : CR b0 K Z) (hl : lx ls [some (.ref y0), some (.int y1), some (.int y2), some (.int y3), some (.int y4), some (.int y5), none]) (I : AI D vwCl b0 (cH dA b0 S hp0) sz s.heap H locs)  {k : Nat} (hm : x_R_readDigits_8 N b0 K  k y0 y1 y2 y3 y4 y5 S = some (r, S')) : W p l e { frames := 1, cells := 0, slots := 0, locals := 23 } s m args below meth c H locs 0 0 (MQ below (CQ D vwCl b0 (some (.int r)) (cH dA b0 S' hp0) sz) args s 0 0 (fun q => b0 ≤ q)) (F0 m 8 ls []) := w_R_readDigits_8i  B hR k _ _ _ _ _ _ S ls H locs hl I hm
def x_R_readDigits (N b0 : Nat) (K : cS) (p0 : Nat) (p1 : Int32) (p2 : Int32) (S : cS) : Option (Int32 × cS) :=
  x_R_readDigits_8 N b0 K  N p0 p1 p2 0 1 0 S
set_option maxRecDepth 100000 in
set_option maxHeartbeats 4000000 in
theorem c_R_readDigits {p0 : Nat} {p1 : Int32} {p2 : Int32} {S S' : cS} {r : Int32} (hR : CR b0 K Z) (hm : x_R_readDigits N b0 K p0 p1 p2 S = some (r, S')) : Ct l D vwCl (tyL dA) b0 Z y_R_readDigits (.code y_R_readDigits cb_R_readDigits 7 (some .int) :: wsA) 1 23 [.ref p0, .int p1, .int p2] (cH dA b0 S hp0) sz (some (.int r)) (cH dA b0 S' hp0) 0 0 := by
  refine ct_ofF (cc := cb_R_readDigits) (maxL := 7) (ret := (some .int)) (lo0 := [some (.ref p0), some (.int p1), some (.int p2), none, none, none, none]) hR.1 (by decide) rfl (by simp [lg_sl, cat_i, cat_r, cat_l, va_rf_cat]) rfl (by simp [lx_all, lv_args, cat_i, cat_r, cat_l, va_rf_cat]) ?_
  intro p e s m args below meth c ls B hnm hl I
  obtain ⟨hx, hb, -⟩ := B.1
  unfold x_R_readDigits at hm
  refine lv_iconst (pc := 0) (v := 0) hx hb d_R_readDigits_0 (by decide) ?_
  refine q_istore_n (pc := 1) (i := 3) (lo' := [some (.ref p0), some (.int p1), some (.int p2), some (.int 0), none, none, none]) hx hb d_R_readDigits_1 rfl hl (Nat.le_of_ble_eq_true rfl) (lx_ci rfl) rfl (fun ls hl => ?_)
  refine lv_iconst (pc := 2) (v := 1) hx hb d_R_readDigits_2 (by decide) ?_
  refine q_istore (pc := 3) (i := 4) (lo' := [some (.ref p0), some (.int p1), some (.int p2), some (.int 0), some (.int 1), none, none]) hx hb d_R_readDigits_3 hl (Nat.le_of_ble_eq_true rfl) (lx_ci rfl) rfl (fun ls hl => ?_)
  refine lv_iconst (pc := 5) (v := 0) hx hb d_R_readDigits_5 (by decide) ?_
  refine q_istore (pc := 6) (i := 5) (lo' := [some (.ref p0), some (.int p1), some (.int p2), some (.int 0), some (.int 1), some (.int 0), none]) hx hb d_R_readDigits_6 hl (Nat.le_of_ble_eq_true rfl) (lx_ci rfl) rfl (fun ls hl => ?_)
  exact w_R_readDigits_8  B hR hl I hm
def x_T_isBareLetter_36 (N b0 : Nat) (K : cS) (y0 : Int32) (S : cS) : Option Int32 :=
  if y0 = 95 then (some 1) else (if y0 = 45 then (some 1) else (some 0))
set_option maxRecDepth 100000 in
set_option maxHeartbeats 4000000 in
theorem w_T_isBareLetter_36 {y0 : Int32} {S : cS} (B : BX p m c cb_T_isBareLetter 1 s args (.code y_T_isBareLetter cb_T_isBareLetter 1 (some .boolean) :: wsA) RZ1 meth (some .boolean) D vwCl (tyL dA) b0 Z) (hR : CR b0 K Z) (hl : lx ls [some (.int y0)]) (I : AI D vwCl b0 (cH dA b0 S hp0) sz s.heap H locs)  (hm : x_T_isBareLetter_36 N b0 K  y0 S = some r) : W p l e { frames := 0, cells := 0, slots := 0, locals := 0 } s m args below meth c H locs 0 0 (MQ below (CQ D vwCl b0 (some (.int r)) (cH dA b0 S hp0) sz) args s 0 0 (fun q => b0 ≤ q)) (F0 m 36 ls []) := by
  obtain ⟨hx, hb, -⟩ := B.1
  unfold x_T_isBareLetter_36 at hm
  refine lv_iload_n (pc := 36) (i := 0) hx hb d_T_isBareLetter_36 rfl (lx_get hl rfl) ?_
  refine lv_bipush (pc := 37) (v := 95) hx hb d_T_isBareLetter_37 (by decide) ?_
  refine lv_icmp_eq (pc := 39) (tgt := 48) hx hb d_T_isBareLetter_39 (by decide) (fun hc => ?_) (fun hc => ?_)
  · have hm := ift hc hm
    refine lv_iconst (pc := 48) (v := 1) hx hb d_T_isBareLetter_48 (by decide) ?_
    refine lv_goto (pc := 49) (tgt := 53) hx hb d_T_isBareLetter_49 (by decide) ?_
    cases hm
    exact q_zret (pc := 53) B I rfl (by decide) d_T_isBareLetter_53
  · have hm := iff' hc hm
    refine lv_iload_n (pc := 42) (i := 0) hx hb d_T_isBareLetter_42 rfl (lx_get hl rfl) ?_
    refine lv_bipush (pc := 43) (v := 45) hx hb d_T_isBareLetter_43 (by decide) ?_
    refine lv_icmp_ne (pc := 45) (tgt := 52) hx hb d_T_isBareLetter_45 (by decide) (fun hc => ?_) (fun hc => ?_)
    · have hm := iff' hc hm
      refine lv_iconst (pc := 52) (v := 0) hx hb d_T_isBareLetter_52 (by decide) ?_
      cases hm
      exact q_zret (pc := 53) B I rfl (by decide) d_T_isBareLetter_53
    · have hm := ift hc hm
      refine lv_iconst (pc := 48) (v := 1) hx hb d_T_isBareLetter_48 (by decide) ?_
      refine lv_goto (pc := 49) (tgt := 53) hx hb d_T_isBareLetter_49 (by decide) ?_
      cases hm
      exact q_zret (pc := 53) B I rfl (by decide) d_T_isBareLetter_53
def x_T_isBareLetter_24 (N b0 : Nat) (K : cS) (y0 : Int32) (S : cS) : Option Int32 :=
  if y0 < 48 then (x_T_isBareLetter_36 N b0 K  y0 S) else (if y0 ≤ 57 then (some 1) else (x_T_isBareLetter_36 N b0 K  y0 S))
set_option maxRecDepth 100000 in
set_option maxHeartbeats 4000000 in
theorem w_T_isBareLetter_24 {y0 : Int32} {S : cS} (B : BX p m c cb_T_isBareLetter 1 s args (.code y_T_isBareLetter cb_T_isBareLetter 1 (some .boolean) :: wsA) RZ1 meth (some .boolean) D vwCl (tyL dA) b0 Z) (hR : CR b0 K Z) (hl : lx ls [some (.int y0)]) (I : AI D vwCl b0 (cH dA b0 S hp0) sz s.heap H locs)  (hm : x_T_isBareLetter_24 N b0 K  y0 S = some r) : W p l e { frames := 0, cells := 0, slots := 0, locals := 0 } s m args below meth c H locs 0 0 (MQ below (CQ D vwCl b0 (some (.int r)) (cH dA b0 S hp0) sz) args s 0 0 (fun q => b0 ≤ q)) (F0 m 24 ls []) := by
  obtain ⟨hx, hb, -⟩ := B.1
  unfold x_T_isBareLetter_24 at hm
  refine lv_iload_n (pc := 24) (i := 0) hx hb d_T_isBareLetter_24 rfl (lx_get hl rfl) ?_
  refine lv_bipush (pc := 25) (v := 48) hx hb d_T_isBareLetter_25 (by decide) ?_
  refine lv_icmp_lt (pc := 27) (tgt := 36) hx hb d_T_isBareLetter_27 (by decide) (fun hc => ?_) (fun hc => ?_)
  · have hm := ift hc hm
    exact w_T_isBareLetter_36  B hR hl I hm
  · have hm := iff' hc hm
    refine lv_iload_n (pc := 30) (i := 0) hx hb d_T_isBareLetter_30 rfl (lx_get hl rfl) ?_
    refine lv_bipush (pc := 31) (v := 57) hx hb d_T_isBareLetter_31 (by decide) ?_
    refine lv_icmp_le (pc := 33) (tgt := 48) hx hb d_T_isBareLetter_33 (by decide) (fun hc => ?_) (fun hc => ?_)
    · have hm := ift hc hm
      refine lv_iconst (pc := 48) (v := 1) hx hb d_T_isBareLetter_48 (by decide) ?_
      refine lv_goto (pc := 49) (tgt := 53) hx hb d_T_isBareLetter_49 (by decide) ?_
      cases hm
      exact q_zret (pc := 53) B I rfl (by decide) d_T_isBareLetter_53
    · have hm := iff' hc hm
      exact w_T_isBareLetter_36  B hR hl I hm
def x_T_isBareLetter_12 (N b0 : Nat) (K : cS) (y0 : Int32) (S : cS) : Option Int32 :=
  if y0 < 65 then (x_T_isBareLetter_24 N b0 K  y0 S) else (if y0 ≤ 90 then (some 1) else (x_T_isBareLetter_24 N b0 K  y0 S))
set_option maxRecDepth 100000 in
set_option maxHeartbeats 4000000 in
theorem w_T_isBareLetter_12 {y0 : Int32} {S : cS} (B : BX p m c cb_T_isBareLetter 1 s args (.code y_T_isBareLetter cb_T_isBareLetter 1 (some .boolean) :: wsA) RZ1 meth (some .boolean) D vwCl (tyL dA) b0 Z) (hR : CR b0 K Z) (hl : lx ls [some (.int y0)]) (I : AI D vwCl b0 (cH dA b0 S hp0) sz s.heap H locs)  (hm : x_T_isBareLetter_12 N b0 K  y0 S = some r) : W p l e { frames := 0, cells := 0, slots := 0, locals := 0 } s m args below meth c H locs 0 0 (MQ below (CQ D vwCl b0 (some (.int r)) (cH dA b0 S hp0) sz) args s 0 0 (fun q => b0 ≤ q)) (F0 m 12 ls []) := by
  obtain ⟨hx, hb, -⟩ := B.1
  unfold x_T_isBareLetter_12 at hm
  refine lv_iload_n (pc := 12) (i := 0) hx hb d_T_isBareLetter_12 rfl (lx_get hl rfl) ?_
  refine lv_bipush (pc := 13) (v := 65) hx hb d_T_isBareLetter_13 (by decide) ?_
  refine lv_icmp_lt (pc := 15) (tgt := 24) hx hb d_T_isBareLetter_15 (by decide) (fun hc => ?_) (fun hc => ?_)
  · have hm := ift hc hm
    exact w_T_isBareLetter_24  B hR hl I hm
  · have hm := iff' hc hm
    refine lv_iload_n (pc := 18) (i := 0) hx hb d_T_isBareLetter_18 rfl (lx_get hl rfl) ?_
    refine lv_bipush (pc := 19) (v := 90) hx hb d_T_isBareLetter_19 (by decide) ?_
    refine lv_icmp_le (pc := 21) (tgt := 48) hx hb d_T_isBareLetter_21 (by decide) (fun hc => ?_) (fun hc => ?_)
    · have hm := ift hc hm
      refine lv_iconst (pc := 48) (v := 1) hx hb d_T_isBareLetter_48 (by decide) ?_
      refine lv_goto (pc := 49) (tgt := 53) hx hb d_T_isBareLetter_49 (by decide) ?_
      cases hm
      exact q_zret (pc := 53) B I rfl (by decide) d_T_isBareLetter_53
    · have hm := iff' hc hm
      exact w_T_isBareLetter_24  B hR hl I hm
def x_T_isBareLetter (N b0 : Nat) (K : cS) (p1 : Int32) (S : cS) : Option Int32 :=
  if p1 < 97 then (x_T_isBareLetter_12 N b0 K  p1 S) else (if p1 ≤ 122 then (some 1) else (x_T_isBareLetter_12 N b0 K  p1 S))
set_option maxRecDepth 100000 in
set_option maxHeartbeats 4000000 in
theorem c_T_isBareLetter {p1 : Int32} {S : cS} {r : Int32} (hR : CR b0 K Z) (hm : x_T_isBareLetter N b0 K p1 S = some r) : Ct l D vwCl (tyL dA) b0 Z y_T_isBareLetter (.code y_T_isBareLetter cb_T_isBareLetter 1 (some .boolean) :: wsA) 0 0 [.int p1] (cH dA b0 S hp0) sz (some (.int r)) (cH dA b0 S hp0) 0 0 := by
  refine ct_ofF (cc := cb_T_isBareLetter) (maxL := 1) (ret := (some .boolean)) (lo0 := [some (.int p1)]) hR.1 (by decide) rfl (by simp [lg_sl, cat_i, cat_r, cat_l, va_rf_cat]) rfl (by simp [lx_all, lv_args, cat_i, cat_r, cat_l, va_rf_cat]) ?_
  intro p e s m args below meth c ls B hnm hl I
  obtain ⟨hx, hb, -⟩ := B.1
  unfold x_T_isBareLetter at hm
  refine lv_iload_n (pc := 0) (i := 0) hx hb d_T_isBareLetter_0 rfl (lx_get hl rfl) ?_
  refine lv_bipush (pc := 1) (v := 97) hx hb d_T_isBareLetter_1 (by decide) ?_
  refine lv_icmp_lt (pc := 3) (tgt := 12) hx hb d_T_isBareLetter_3 (by decide) (fun hc => ?_) (fun hc => ?_)
  · have hm := ift hc hm
    exact w_T_isBareLetter_12  B hR hl I hm
  · have hm := iff' hc hm
    refine lv_iload_n (pc := 6) (i := 0) hx hb d_T_isBareLetter_6 rfl (lx_get hl rfl) ?_
    refine lv_bipush (pc := 7) (v := 122) hx hb d_T_isBareLetter_7 (by decide) ?_
    refine lv_icmp_le (pc := 9) (tgt := 48) hx hb d_T_isBareLetter_9 (by decide) (fun hc => ?_) (fun hc => ?_)
    · have hm := ift hc hm
      refine lv_iconst (pc := 48) (v := 1) hx hb d_T_isBareLetter_48 (by decide) ?_
      refine lv_goto (pc := 49) (tgt := 53) hx hb d_T_isBareLetter_49 (by decide) ?_
      cases hm
      exact q_zret (pc := 53) B I rfl (by decide) d_T_isBareLetter_53
    · have hm := iff' hc hm
      exact w_T_isBareLetter_12  B hR hl I hm
def x_P_put_20 (N b0 : Nat) (K : cS) (y0 : Nat) (S : cS) : Option cS :=
  b1 (gI b0 K S 5 1 y0) (fun x1 => b1 (pI b0 S 5 1 y0 (x1 + 1)) (fun S3 => some S3))
set_option maxRecDepth 100000 in
set_option maxHeartbeats 4000000 in
theorem w_P_put_20 {y0 : Nat} {S : cS} (B : BX p m c cb_P_put 2 s args (.code y_P_put cb_P_put 2 none :: wsA) RZ5 meth none D vwCl (tyL dA) b0 Z) (hR : CR b0 K Z) (hl : lx ls [some (.ref y0), none]) (I : AI D vwCl b0 (cH dA b0 S hp0) sz s.heap H locs)  (hm : x_P_put_20 N b0 K  y0 S = some S') : W p l e { frames := 0, cells := 0, slots := 0, locals := 0 } s m args below meth c H locs 0 0 (MQ below (CQ D vwCl b0 none (cH dA b0 S' hp0) sz) args s 0 0 (fun q => b0 ≤ q)) (F0 m 20 ls []) := by
  obtain ⟨hx, hb, -⟩ := B.1
  unfold x_P_put_20 at hm
  refine q_aload_n (pc := 20) (i := 0) (v := .ref y0) hx hb d_P_put_20 rfl rfl (lx_get hl rfl) ?_
  refine lv_dup (pc := 21) hx hb d_P_put_21 rfl ?_
  refine ob1 hm (fun x1 e2 hm => ?_)
  refine k_getI (pc := 22) (z := 5) (k := 1) (index := 15) B hR I (by decide) (by decide) mF_P_15 rfl (fun _ _ => rfl) e2 d_P_put_22 ?_
  refine lv_iconst (pc := 25) (v := 1) hx hb d_P_put_25 (by decide) ?_
  refine lv_iadd (pc := 26) hx hb d_P_put_26 ?_
  refine ob1 hm (fun S3 e4 hm => ?_)
  refine k_putI (pc := 27) (z := 5) (k := 1) (index := 15) (v := (x1 + 1)) B I (by decide) (by decide) mF_P_15 rfl rfl rfl rfl cset_5_1 e4 d_P_put_27 (fun H locs I => ?_)
  cases hm
  exact q_vret (pc := 30) B I rfl d_P_put_30
def x_P_put (N b0 : Nat) (K : cS) (p0 : Nat) (p1 : Int32) (S : cS) : Option cS :=
  b1 (gI b0 K S 5 1 p0) (fun x1 => if 600 ≤ x1 then (x_P_put_20 N b0 K  p0 S) else (b1 (gR b0 K S 5 0 p0) (fun q3 => b1 (gI b0 K S 5 1 p0) (fun x5 => b1 q3 (fun a7 => b1 (aT b0 S 11 a7 x5 (vp_nar .char p1)) (fun S10 => x_P_put_20 N b0 K  p0 S10))))))
set_option maxRecDepth 100000 in
set_option maxHeartbeats 4000000 in
theorem c_P_put {p0 : Nat} {p1 : Int32} {S S' : cS} (hR : CR b0 K Z) (hm : x_P_put N b0 K p0 p1 S = some S') : Ct l D vwCl (tyL dA) b0 Z y_P_put (.code y_P_put cb_P_put 2 none :: wsA) 0 0 [.ref p0, .int p1] (cH dA b0 S hp0) sz none (cH dA b0 S' hp0) 0 0 := by
  refine ct_ofF (cc := cb_P_put) (maxL := 2) (ret := none) (lo0 := [some (.ref p0), some (.int p1)]) hR.1 (by decide) rfl (by simp [lg_sl, cat_i, cat_r, cat_l, va_rf_cat]) rfl (by simp [lx_all, lv_args, cat_i, cat_r, cat_l, va_rf_cat]) ?_
  intro p e s m args below meth c ls B hnm hl I
  obtain ⟨hx, hb, -⟩ := B.1
  unfold x_P_put at hm
  refine q_aload_n (pc := 0) (i := 0) (v := .ref p0) hx hb d_P_put_0 rfl rfl (lx_get hl rfl) ?_
  refine ob1 hm (fun x1 e2 hm => ?_)
  refine k_getI (pc := 1) (z := 5) (k := 1) (index := 15) B hR I (by decide) (by decide) mF_P_15 rfl (fun _ _ => rfl) e2 d_P_put_1 ?_
  refine lv_sipush (pc := 4) (v := 600) hx hb d_P_put_4 (by decide) ?_
  refine lv_icmp_ge (pc := 7) (tgt := 20) hx hb d_P_put_7 (by decide) (fun hc => ?_) (fun hc => ?_)
  · have hm := ift hc hm
    exact w_P_put_20  B hR (lx_sub (lo' := [some (.ref p0), none]) hl (by simp [lx_le])) I hm
  · have hm := iff' hc hm
    refine q_aload_n (pc := 10) (i := 0) (v := .ref p0) hx hb d_P_put_10 rfl rfl (lx_get hl rfl) ?_
    refine ob1 hm (fun q3 e4 hm => ?_)
    refine k_getR (pc := 11) (z := 5) (k := 0) (index := 9) B hR I (by decide) (by decide) mF_P_9 rfl (fun _ _ => rfl) e4 d_P_put_11 ?_
    refine q_aload_n (pc := 14) (i := 0) (v := .ref p0) hx hb d_P_put_14 rfl rfl (lx_get hl rfl) ?_
    refine ob1 hm (fun x5 e6 hm => ?_)
    refine k_getI (pc := 15) (z := 5) (k := 1) (index := 15) B hR I (by decide) (by decide) mF_P_15 rfl (fun _ _ => rfl) e6 d_P_put_15 ?_
    refine lv_iload_n (pc := 18) (i := 1) hx hb d_P_put_18 rfl (lx_get hl rfl) ?_
    refine ob1 hm (fun a7 e8 hm => ?_)
    have hm_9 := hm; have hl_9 := hl; have I_9 := I
    subst e8
    have hm := hm_9; have hl := hl_9; have I := I_9
    refine ob1 hm (fun S10 e11 hm => ?_)
    refine k_cast (pc := 19) B I e11 d_P_put_19 (fun H locs I => ?_)
    exact w_P_put_20  B hR (lx_sub (lo' := [some (.ref p0), none]) hl (by simp [lx_le])) I hm
def x_P_putDigits_26 (N b0 : Nat) (K : cS) (K5 : Nat → Int32 → Int32 → Int32 → Int32 → cS → Option cS) (y0 : Nat) (y1 : Int32) (y2 : Int32) (y3 : Int32) (y4 : Int32) (S : cS) : Option cS :=
  K5 y0 y1 y2 (y3 * 10) (y4 + 1) S
set_option maxRecDepth 100000 in
set_option maxHeartbeats 4000000 in
theorem w_P_putDigits_26 {K5 : Nat → Int32 → Int32 → Int32 → Int32 → cS → Option cS} {y0 : Nat} {y1 : Int32} {y2 : Int32} {y3 : Int32} {y4 : Int32} {S : cS} (hK5 : ∀ (y0 : Nat) (y1 : Int32) (y2 : Int32) (y3 : Int32) (y4 : Int32) (S : cS) (ls : Array Slot) (H : Heap) (locs : List Loc), lx ls [some (.ref y0), some (.int y1), some (.int y2), some (.int y3), some (.int y4)] → AI D vwCl b0 (cH dA b0 S hp0) sz s.heap H locs → K5 y0 y1 y2 y3 y4 S = some S' → W p l e { frames := 1, cells := 0, slots := 0, locals := 21 } s m args below meth c H locs 0 0 (MQ below (CQ D vwCl b0 none (cH dA b0 S' hp0) sz) args s 0 0 (fun q => b0 ≤ q)) (F0 m 5 ls [])) (B : BX p m c cb_P_putDigits 5 s args (.code y_P_putDigits cb_P_putDigits 5 none :: wsA) RZ5 meth none D vwCl (tyL dA) b0 Z) (hR : CR b0 K Z) (hl : lx ls [some (.ref y0), some (.int y1), some (.int y2), some (.int y3), some (.int y4)]) (I : AI D vwCl b0 (cH dA b0 S hp0) sz s.heap H locs)  (hm : x_P_putDigits_26 N b0 K K5 y0 y1 y2 y3 y4 S = some S') : W p l e { frames := 1, cells := 0, slots := 0, locals := 21 } s m args below meth c H locs 0 0 (MQ below (CQ D vwCl b0 none (cH dA b0 S' hp0) sz) args s 0 0 (fun q => b0 ≤ q)) (F0 m 26 ls []) := by
  obtain ⟨hx, hb, -⟩ := B.1
  unfold x_P_putDigits_26 at hm
  refine lv_iload_n (pc := 26) (i := 3) hx hb d_P_putDigits_26 rfl (lx_get hl rfl) ?_
  refine lv_bipush (pc := 27) (v := 10) hx hb d_P_putDigits_27 (by decide) ?_
  refine lv_imul (pc := 29) hx hb d_P_putDigits_29 ?_
  refine q_istore_n (pc := 30) (i := 3) (lo' := [some (.ref y0), some (.int y1), some (.int y2), some (.int (y3 * 10)), some (.int y4)]) hx hb d_P_putDigits_30 rfl hl (Nat.le_of_ble_eq_true rfl) (lx_ci rfl) rfl (fun ls hl => ?_)
  refine q_iinc (pc := 31) (i := 4) (v := y4 + 1) (lo' := [some (.ref y0), some (.int y1), some (.int y2), some (.int (y3 * 10)), some (.int (y4 + 1))]) hx hb d_P_putDigits_31 hl rfl rfl (Nat.le_of_ble_eq_true rfl) (lx_ci rfl) rfl (fun ls hl => ?_)
  refine lv_goto (pc := 34) (tgt := 5) hx hb d_P_putDigits_34 (by decide) ?_
  exact hK5 _ _ _ _ _ _ _ _ _ hl I hm
def x_P_putDigits_37F (N b0 : Nat) (K : cS) (K37 : Nat → Int32 → Int32 → cS → Option cS) (y0 : Nat) (y1 : Int32) (y3 : Int32) (S : cS) : Option cS :=
  if y3 ≤ 0 then (some S) else (if y3 = 0 then none else (ifk b0 K S 5 y0 (b1 (x_P_put N b0 K y0 (((48 + ((y1 / y3) - (y1 / y3) / 10 * 10)).toUInt32 % 65536).toInt32) S) (fun S3 => K37 y0 y1 (y3 / 10) S3))))
def x_P_putDigits_37 (N b0 : Nat) (K : cS) : Nat → Nat → Int32 → Int32 → cS → Option cS
  | 0, _, _, _, _ => none
  | k + 1, y0, y1, y3, S => x_P_putDigits_37F N b0 K  (x_P_putDigits_37 N b0 K  k) y0 y1 y3 S
set_option maxRecDepth 100000 in
set_option maxHeartbeats 4000000 in
theorem w_P_putDigits_37F {K37 : Nat → Int32 → Int32 → cS → Option cS} {y0 : Nat} {y1 : Int32} {y3 : Int32} {S : cS} (hK37 : ∀ (y0 : Nat) (y1 : Int32) (y3 : Int32) (S : cS) (ls : Array Slot) (H : Heap) (locs : List Loc), lx ls [some (.ref y0), some (.int y1), none, some (.int y3), none] → AI D vwCl b0 (cH dA b0 S hp0) sz s.heap H locs → K37 y0 y1 y3 S = some S' → W p l e { frames := 1, cells := 0, slots := 0, locals := 21 } s m args below meth c H locs 0 0 (MQ below (CQ D vwCl b0 none (cH dA b0 S' hp0) sz) args s 0 0 (fun q => b0 ≤ q)) (F0 m 37 ls [])) (B : BX p m c cb_P_putDigits 5 s args (.code y_P_putDigits cb_P_putDigits 5 none :: wsA) RZ5 meth none D vwCl (tyL dA) b0 Z) (hR : CR b0 K Z) (hl : lx ls [some (.ref y0), some (.int y1), none, some (.int y3), none]) (I : AI D vwCl b0 (cH dA b0 S hp0) sz s.heap H locs)  (hm : x_P_putDigits_37F N b0 K  K37 y0 y1 y3 S = some S') : W p l e { frames := 1, cells := 0, slots := 0, locals := 21 } s m args below meth c H locs 0 0 (MQ below (CQ D vwCl b0 none (cH dA b0 S' hp0) sz) args s 0 0 (fun q => b0 ≤ q)) (F0 m 37 ls []) := by
  obtain ⟨hx, hb, -⟩ := B.1
  unfold x_P_putDigits_37F at hm
  refine lv_iload_n (pc := 37) (i := 3) hx hb d_P_putDigits_37 rfl (lx_get hl rfl) ?_
  refine lv_if_le (pc := 38) (tgt := 63) hx hb d_P_putDigits_38 (by decide) (fun hc => ?_) (fun hc => ?_)
  · have hm := ift hc hm
    cases hm
    exact q_vret (pc := 63) B I rfl d_P_putDigits_63
  · have hm := iff' hc hm
    refine q_aload_n (pc := 41) (i := 0) (v := .ref y0) hx hb d_P_putDigits_41 rfl rfl (lx_get hl rfl) ?_
    refine lv_bipush (pc := 42) (v := 48) hx hb d_P_putDigits_42 (by decide) ?_
    refine lv_iload_n (pc := 44) (i := 1) hx hb d_P_putDigits_44 rfl (lx_get hl rfl) ?_
    refine lv_iload_n (pc := 45) (i := 3) hx hb d_P_putDigits_45 rfl (lx_get hl rfl) ?_
    have hz1 : ¬ y3 = 0 := fun hc => by have hm := ift hc hm; cases hm
    have hm := iff' hz1 hm
    refine lv_idiv (pc := 46) hx hb d_P_putDigits_46 hz1 ?_
    refine lv_bipush (pc := 47) (v := 10) hx hb d_P_putDigits_47 (by decide) ?_
    refine lv_irem (pc := 49) hx hb d_P_putDigits_49 (by decide) ?_
    refine lv_iadd (pc := 50) hx hb d_P_putDigits_50 ?_
    refine lv_i2c (pc := 51) hx hb d_P_putDigits_51 rfl ?_
    refine oifk hm (fun hk hm => ?_)
    refine ob1 hm (fun S3 e2 hm => ?_)
    refine k_callV (pc := 52) (As := [.int (((48 + ((y1 / y3) - (y1 / y3) / 10 * 10)).toUInt32 % 65536).toInt32)]) (rest := []) (b := y0) B hR hl rfl I (c_P_put hR e2) kw_P_50 (by decide) hk rfl (Nat.le_of_ble_eq_true rfl) (Nat.le_of_ble_eq_true rfl) rfl (by simp [cat_i, cat_r, cat_l, va_rf_cat]) d_P_putDigits_52 (Nat.le_refl _) (Nat.le_refl _) (fun H locs I => ?_)
    refine lv_iload_n (pc := 55) (i := 3) hx hb d_P_putDigits_55 rfl (lx_get hl rfl) ?_
    refine lv_bipush (pc := 56) (v := 10) hx hb d_P_putDigits_56 (by decide) ?_
    refine lv_idiv (pc := 58) hx hb d_P_putDigits_58 (by decide) ?_
    refine q_istore_n (pc := 59) (i := 3) (lo' := [some (.ref y0), some (.int y1), none, some (.int (y3 / 10)), none]) hx hb d_P_putDigits_59 rfl hl (Nat.le_of_ble_eq_true rfl) (lx_cn rfl) rfl (fun ls hl => ?_)
    refine lv_goto (pc := 60) (tgt := 37) hx hb d_P_putDigits_60 (by decide) ?_
    exact hK37 _ _ _ _ _ _ _ hl I hm
set_option maxRecDepth 100000 in
set_option maxHeartbeats 4000000 in
theorem w_P_putDigits_37i (B : BX p m c cb_P_putDigits 5 s args (.code y_P_putDigits cb_P_putDigits 5 none :: wsA) RZ5 meth none D vwCl (tyL dA) b0 Z) (hR : CR b0 K Z) (k : Nat) (y0 : Nat) (y1 : Int32) (y3 : Int32) (S : cS) (ls : Array Slot) (H : Heap) (locs : List Loc) (hl : lx ls [some (.ref y0), some (.int y1), none, some (.int y3), none]) (I : AI D vwCl b0 (cH dA b0 S hp0) sz s.heap H locs)  (hm : x_P_putDigits_37 N b0 K  k y0 y1 y3 S = some S') : W p l e { frames := 1, cells := 0, slots := 0, locals := 21 } s m args below meth c H locs 0 0 (MQ below (CQ D vwCl b0 none (cH dA b0 S' hp0) sz) args s 0 0 (fun q => b0 ≤ q)) (F0 m 37 ls []) := by
  induction k generalizing y0 y1 y3 S ls H locs with
  | zero => cases hm
  | succ k ih => exact w_P_putDigits_37F  (fun y0 y1 y3 S ls H locs hl I hm => ih y0 y1 y3 S ls H locs hl I hm) B hR hl I hm
theorem w_P_putDigits_37 {y0 : Nat} {y1 : Int32} {y3 : Int32} {S : cS} (B : BX p m c cb_P_putDigits 5 s args (.code y_P_putDigits cb_P_putDigits 5 none :: wsA) RZ5 meth none D vwCl (tyL dA) b0 Z) (hR : CR b0 K Z) (hl : lx ls [some (.ref y0), some (.int y1), none, some (.int y3), none]) (I : AI D vwCl b0 (cH dA b0 S hp0) sz s.heap H locs)  {k : Nat} (hm : x_P_putDigits_37 N b0 K  k y0 y1 y3 S = some S') : W p l e { frames := 1, cells := 0, slots := 0, locals := 21 } s m args below meth c H locs 0 0 (MQ below (CQ D vwCl b0 none (cH dA b0 S' hp0) sz) args s 0 0 (fun q => b0 ≤ q)) (F0 m 37 ls []) := w_P_putDigits_37i  B hR k _ _ _ S ls H locs hl I hm
def x_P_putDigits_5F (N b0 : Nat) (K : cS) (K5 : Nat → Int32 → Int32 → Int32 → Int32 → cS → Option cS) (y0 : Nat) (y1 : Int32) (y2 : Int32) (y3 : Int32) (y4 : Int32) (S : cS) : Option cS :=
  if 9 ≤ y4 then (x_P_putDigits_37 N b0 K  N y0 y1 y3 S) else (if y4 < y2 then (x_P_putDigits_26 N b0 K K5 y0 y1 y2 y3 y4 S) else (if y1 / 10 < y3 then (x_P_putDigits_37 N b0 K  N y0 y1 y3 S) else (x_P_putDigits_26 N b0 K K5 y0 y1 y2 y3 y4 S)))
def x_P_putDigits_5 (N b0 : Nat) (K : cS) : Nat → Nat → Int32 → Int32 → Int32 → Int32 → cS → Option cS
  | 0, _, _, _, _, _, _ => none
  | k + 1, y0, y1, y2, y3, y4, S => x_P_putDigits_5F N b0 K  (x_P_putDigits_5 N b0 K  k) y0 y1 y2 y3 y4 S
set_option maxRecDepth 100000 in
set_option maxHeartbeats 4000000 in
theorem w_P_putDigits_5F {K5 : Nat → Int32 → Int32 → Int32 → Int32 → cS → Option cS} {y0 : Nat} {y1 : Int32} {y2 : Int32} {y3 : Int32} {y4 : Int32} {S : cS} (hK5 : ∀ (y0 : Nat) (y1 : Int32) (y2 : Int32) (y3 : Int32) (y4 : Int32) (S : cS) (ls : Array Slot) (H : Heap) (locs : List Loc), lx ls [some (.ref y0), some (.int y1), some (.int y2), some (.int y3), some (.int y4)] → AI D vwCl b0 (cH dA b0 S hp0) sz s.heap H locs → K5 y0 y1 y2 y3 y4 S = some S' → W p l e { frames := 1, cells := 0, slots := 0, locals := 21 } s m args below meth c H locs 0 0 (MQ below (CQ D vwCl b0 none (cH dA b0 S' hp0) sz) args s 0 0 (fun q => b0 ≤ q)) (F0 m 5 ls [])) (B : BX p m c cb_P_putDigits 5 s args (.code y_P_putDigits cb_P_putDigits 5 none :: wsA) RZ5 meth none D vwCl (tyL dA) b0 Z) (hR : CR b0 K Z) (hl : lx ls [some (.ref y0), some (.int y1), some (.int y2), some (.int y3), some (.int y4)]) (I : AI D vwCl b0 (cH dA b0 S hp0) sz s.heap H locs)  (hm : x_P_putDigits_5F N b0 K  K5 y0 y1 y2 y3 y4 S = some S') : W p l e { frames := 1, cells := 0, slots := 0, locals := 21 } s m args below meth c H locs 0 0 (MQ below (CQ D vwCl b0 none (cH dA b0 S' hp0) sz) args s 0 0 (fun q => b0 ≤ q)) (F0 m 5 ls []) := by
  obtain ⟨hx, hb, -⟩ := B.1
  unfold x_P_putDigits_5F at hm
  refine lv_iload (pc := 5) (i := 4) hx hb d_P_putDigits_5 (lx_get hl rfl) ?_
  refine lv_bipush (pc := 7) (v := 9) hx hb d_P_putDigits_7 (by decide) ?_
  refine lv_icmp_ge (pc := 9) (tgt := 37) hx hb d_P_putDigits_9 (by decide) (fun hc => ?_) (fun hc => ?_)
  · have hm := ift hc hm
    exact w_P_putDigits_37  B hR (lx_sub (lo' := [some (.ref y0), some (.int y1), none, some (.int y3), none]) hl (by simp [lx_le])) I hm
  · have hm := iff' hc hm
    refine lv_iload (pc := 12) (i := 4) hx hb d_P_putDigits_12 (lx_get hl rfl) ?_
    refine lv_iload_n (pc := 14) (i := 2) hx hb d_P_putDigits_14 rfl (lx_get hl rfl) ?_
    refine lv_icmp_lt (pc := 15) (tgt := 26) hx hb d_P_putDigits_15 (by decide) (fun hc => ?_) (fun hc => ?_)
    · have hm := ift hc hm
      exact w_P_putDigits_26 hK5 B hR hl I hm
    · have hm := iff' hc hm
      refine lv_iload_n (pc := 18) (i := 1) hx hb d_P_putDigits_18 rfl (lx_get hl rfl) ?_
      refine lv_bipush (pc := 19) (v := 10) hx hb d_P_putDigits_19 (by decide) ?_
      refine lv_idiv (pc := 21) hx hb d_P_putDigits_21 (by decide) ?_
      refine lv_iload_n (pc := 22) (i := 3) hx hb d_P_putDigits_22 rfl (lx_get hl rfl) ?_
      refine lv_icmp_lt (pc := 23) (tgt := 37) hx hb d_P_putDigits_23 (by decide) (fun hc => ?_) (fun hc => ?_)
      · have hm := ift hc hm
        exact w_P_putDigits_37  B hR (lx_sub (lo' := [some (.ref y0), some (.int y1), none, some (.int y3), none]) hl (by simp [lx_le])) I hm
      · have hm := iff' hc hm
        exact w_P_putDigits_26 hK5 B hR hl I hm
set_option maxRecDepth 100000 in
set_option maxHeartbeats 4000000 in
theorem w_P_putDigits_5i (B : BX p m c cb_P_putDigits 5 s args (.code y_P_putDigits cb_P_putDigits 5 none :: wsA) RZ5 meth none D vwCl (tyL dA) b0 Z) (hR : CR b0 K Z) (k : Nat) (y0 : Nat) (y1 : Int32) (y2 : Int32) (y3 : Int32) (y4 : Int32) (S : cS) (ls : Array Slot) (H : Heap) (locs : List Loc) (hl : lx ls [some (.ref y0), some (.int y1), some (.int y2), some (.int y3), some (.int y4)]) (I : AI D vwCl b0 (cH dA b0 S hp0) sz s.heap H locs)  (hm : x_P_putDigits_5 N b0 K  k y0 y1 y2 y3 y4 S = some S') : W p l e { frames := 1, cells := 0, slots := 0, locals := 21 } s m args below meth c H locs 0 0 (MQ below (CQ D vwCl b0 none (cH dA b0 S' hp0) sz) args s 0 0 (fun q => b0 ≤ q)) (F0 m 5 ls []) := by
  induction k generalizing y0 y1 y2 y3 y4 S ls H locs with
  | zero => cases hm
  | succ k ih => exact w_P_putDigits_5F  (fun y0 y1 y2 y3 y4 S ls H locs hl I hm => ih y0 y1 y2 y3 y4 S ls H locs hl I hm) B hR hl I hm
theorem w_P_putDigits_5 {y0 : Nat} {y1 : Int32} {y2 : Int32} {y3 : Int32} {y4 : Int32} {S : cS} (B : BX p m c cb_P_putDigits 5 s args (.code y_P_putDigits cb_P_putDigits 5 none :: wsA) RZ5 meth none D vwCl (tyL dA) b0 Z) (hR : CR b0 K Z) (hl : lx ls [some (.ref y0), some (.int y1), some (.int y2), some (.int y3), some (.int y4)]) (I : AI D vwCl b0 (cH dA b0 S hp0) sz s.heap H locs)  {k : Nat} (hm : x_P_putDigits_5 N b0 K  k y0 y1 y2 y3 y4 S = some S') : W p l e { frames := 1, cells := 0, slots := 0, locals := 21 } s m args below meth c H locs 0 0 (MQ below (CQ D vwCl b0 none (cH dA b0 S' hp0) sz) args s 0 0 (fun q => b0 ≤ q)) (F0 m 5 ls []) := w_P_putDigits_5i  B hR k _ _ _ _ _ S ls H locs hl I hm
def x_P_putDigits (N b0 : Nat) (K : cS) (p0 : Nat) (p1 : Int32) (p2 : Int32) (S : cS) : Option cS :=
  x_P_putDigits_5 N b0 K  N p0 p1 p2 1 1 S
set_option maxRecDepth 100000 in
set_option maxHeartbeats 4000000 in
theorem c_P_putDigits {p0 : Nat} {p1 : Int32} {p2 : Int32} {S S' : cS} (hR : CR b0 K Z) (hm : x_P_putDigits N b0 K p0 p1 p2 S = some S') : Ct l D vwCl (tyL dA) b0 Z y_P_putDigits (.code y_P_putDigits cb_P_putDigits 5 none :: wsA) 1 21 [.ref p0, .int p1, .int p2] (cH dA b0 S hp0) sz none (cH dA b0 S' hp0) 0 0 := by
  refine ct_ofF (cc := cb_P_putDigits) (maxL := 5) (ret := none) (lo0 := [some (.ref p0), some (.int p1), some (.int p2), none, none]) hR.1 (by decide) rfl (by simp [lg_sl, cat_i, cat_r, cat_l, va_rf_cat]) rfl (by simp [lx_all, lv_args, cat_i, cat_r, cat_l, va_rf_cat]) ?_
  intro p e s m args below meth c ls B hnm hl I
  obtain ⟨hx, hb, -⟩ := B.1
  unfold x_P_putDigits at hm
  refine lv_iconst (pc := 0) (v := 1) hx hb d_P_putDigits_0 (by decide) ?_
  refine q_istore_n (pc := 1) (i := 3) (lo' := [some (.ref p0), some (.int p1), some (.int p2), some (.int 1), none]) hx hb d_P_putDigits_1 rfl hl (Nat.le_of_ble_eq_true rfl) (lx_ci rfl) rfl (fun ls hl => ?_)
  refine lv_iconst (pc := 2) (v := 1) hx hb d_P_putDigits_2 (by decide) ?_
  refine q_istore (pc := 3) (i := 4) (lo' := [some (.ref p0), some (.int p1), some (.int p2), some (.int 1), some (.int 1)]) hx hb d_P_putDigits_3 hl (Nat.le_of_ble_eq_true rfl) (lx_ci rfl) rfl (fun ls hl => ?_)
  exact w_P_putDigits_5  B hR hl I hm
def x_P_putDate (N b0 : Nat) (K : cS) (p0 : Nat) (p1 : Int32) (S : cS) : Option cS :=
  ifk b0 K S 5 p0 (b1 (x_P_putDigits N b0 K p0 (p1 / 10000) 4 S) (fun S2 => ifk b0 K S2 5 p0 (b1 (x_P_put N b0 K p0 45 S2) (fun S4 => ifk b0 K S4 5 p0 (b1 (x_P_putDigits N b0 K p0 ((p1 / 100) - (p1 / 100) / 100 * 100) 2 S4) (fun S6 => ifk b0 K S6 5 p0 (b1 (x_P_put N b0 K p0 45 S6) (fun S8 => ifk b0 K S8 5 p0 (b1 (x_P_putDigits N b0 K p0 (p1 - p1 / 100 * 100) 2 S8) (fun S10 => some S10))))))))))
set_option maxRecDepth 100000 in
set_option maxHeartbeats 4000000 in
theorem c_P_putDate {p0 : Nat} {p1 : Int32} {S S' : cS} (hR : CR b0 K Z) (hm : x_P_putDate N b0 K p0 p1 S = some S') : Ct l D vwCl (tyL dA) b0 Z y_P_putDate (.code y_P_putDate cb_P_putDate 2 none :: wsA) 2 45 [.ref p0, .int p1] (cH dA b0 S hp0) sz none (cH dA b0 S' hp0) 0 0 := by
  refine ct_ofF (cc := cb_P_putDate) (maxL := 2) (ret := none) (lo0 := [some (.ref p0), some (.int p1)]) hR.1 (by decide) rfl (by simp [lg_sl, cat_i, cat_r, cat_l, va_rf_cat]) rfl (by simp [lx_all, lv_args, cat_i, cat_r, cat_l, va_rf_cat]) ?_
  intro p e s m args below meth c ls B hnm hl I
  obtain ⟨hx, hb, -⟩ := B.1
  unfold x_P_putDate at hm
  refine q_aload_n (pc := 0) (i := 0) (v := .ref p0) hx hb d_P_putDate_0 rfl rfl (lx_get hl rfl) ?_
  refine lv_iload_n (pc := 1) (i := 1) hx hb d_P_putDate_1 rfl (lx_get hl rfl) ?_
  refine lv_sipush (pc := 2) (v := 10000) hx hb d_P_putDate_2 (by decide) ?_
  refine lv_idiv (pc := 5) hx hb d_P_putDate_5 (by decide) ?_
  refine lv_iconst (pc := 6) (v := 4) hx hb d_P_putDate_6 (by decide) ?_
  refine oifk hm (fun hk hm => ?_)
  refine ob1 hm (fun S2 e1 hm => ?_)
  refine k_callV (pc := 7) (As := [.int (p1 / 10000), .int 4]) (rest := []) (b := p0) B hR hl rfl I (c_P_putDigits hR e1) kw_P_118 (by decide) hk rfl (Nat.le_of_ble_eq_true rfl) (Nat.le_of_ble_eq_true rfl) rfl (by simp [cat_i, cat_r, cat_l, va_rf_cat]) d_P_putDate_7 (Nat.le_refl _) (Nat.le_refl _) (fun H locs I => ?_)
  refine q_aload_n (pc := 10) (i := 0) (v := .ref p0) hx hb d_P_putDate_10 rfl rfl (lx_get hl rfl) ?_
  refine lv_bipush (pc := 11) (v := 45) hx hb d_P_putDate_11 (by decide) ?_
  refine oifk hm (fun hk hm => ?_)
  refine ob1 hm (fun S4 e3 hm => ?_)
  refine k_callV (pc := 13) (As := [.int 45]) (rest := []) (b := p0) B hR hl rfl I (c_P_put hR e3) kw_P_50 (by decide) hk rfl (Nat.le_of_ble_eq_true rfl) (Nat.le_of_ble_eq_true rfl) rfl (by simp [cat_i, cat_r, cat_l, va_rf_cat]) d_P_putDate_13 (Nat.le_refl _) (Nat.le_refl _) (fun H locs I => ?_)
  refine q_aload_n (pc := 16) (i := 0) (v := .ref p0) hx hb d_P_putDate_16 rfl rfl (lx_get hl rfl) ?_
  refine lv_iload_n (pc := 17) (i := 1) hx hb d_P_putDate_17 rfl (lx_get hl rfl) ?_
  refine lv_bipush (pc := 18) (v := 100) hx hb d_P_putDate_18 (by decide) ?_
  refine lv_idiv (pc := 20) hx hb d_P_putDate_20 (by decide) ?_
  refine lv_bipush (pc := 21) (v := 100) hx hb d_P_putDate_21 (by decide) ?_
  refine lv_irem (pc := 23) hx hb d_P_putDate_23 (by decide) ?_
  refine lv_iconst (pc := 24) (v := 2) hx hb d_P_putDate_24 (by decide) ?_
  refine oifk hm (fun hk hm => ?_)
  refine ob1 hm (fun S6 e5 hm => ?_)
  refine k_callV (pc := 25) (As := [.int ((p1 / 100) - (p1 / 100) / 100 * 100), .int 2]) (rest := []) (b := p0) B hR hl rfl I (c_P_putDigits hR e5) kw_P_118 (by decide) hk rfl (Nat.le_of_ble_eq_true rfl) (Nat.le_of_ble_eq_true rfl) rfl (by simp [cat_i, cat_r, cat_l, va_rf_cat]) d_P_putDate_25 (Nat.le_refl _) (Nat.le_refl _) (fun H locs I => ?_)
  refine q_aload_n (pc := 28) (i := 0) (v := .ref p0) hx hb d_P_putDate_28 rfl rfl (lx_get hl rfl) ?_
  refine lv_bipush (pc := 29) (v := 45) hx hb d_P_putDate_29 (by decide) ?_
  refine oifk hm (fun hk hm => ?_)
  refine ob1 hm (fun S8 e7 hm => ?_)
  refine k_callV (pc := 31) (As := [.int 45]) (rest := []) (b := p0) B hR hl rfl I (c_P_put hR e7) kw_P_50 (by decide) hk rfl (Nat.le_of_ble_eq_true rfl) (Nat.le_of_ble_eq_true rfl) rfl (by simp [cat_i, cat_r, cat_l, va_rf_cat]) d_P_putDate_31 (Nat.le_refl _) (Nat.le_refl _) (fun H locs I => ?_)
  refine q_aload_n (pc := 34) (i := 0) (v := .ref p0) hx hb d_P_putDate_34 rfl rfl (lx_get hl rfl) ?_
  refine lv_iload_n (pc := 35) (i := 1) hx hb d_P_putDate_35 rfl (lx_get hl rfl) ?_
  refine lv_bipush (pc := 36) (v := 100) hx hb d_P_putDate_36 (by decide) ?_
  refine lv_irem (pc := 38) hx hb d_P_putDate_38 (by decide) ?_
  refine lv_iconst (pc := 39) (v := 2) hx hb d_P_putDate_39 (by decide) ?_
  refine oifk hm (fun hk hm => ?_)
  refine ob1 hm (fun S10 e9 hm => ?_)
  refine k_callV (pc := 40) (As := [.int (p1 - p1 / 100 * 100), .int 2]) (rest := []) (b := p0) B hR hl rfl I (c_P_putDigits hR e9) kw_P_118 (by decide) hk rfl (Nat.le_of_ble_eq_true rfl) (Nat.le_of_ble_eq_true rfl) rfl (by simp [cat_i, cat_r, cat_l, va_rf_cat]) d_P_putDate_40 (Nat.le_refl _) (Nat.le_refl _) (fun H locs I => ?_)
  cases hm
  exact q_vret (pc := 43) B I rfl d_P_putDate_43
def x_P_putEnd (N b0 : Nat) (K : cS) (p0 : Nat) (p1 : Option Nat) (S : cS) : Option cS :=
  b1 p1 (fun a1 => ifk b0 K S 2 a1 (b1 (x_N_isTable N b0 K a1 S) (fun x5 => if x5 = 0 then (ifk b0 K S 2 a1 (b1 (x_N_isList N b0 K a1 S) (fun x7 => if x7 = 0 then (some S) else (ifk b0 K S 5 p0 (b1 (x_P_put N b0 K p0 93 S) (fun S9 => some S9)))))) else (ifk b0 K S 5 p0 (b1 (x_P_put N b0 K p0 125 S) (fun S11 => some S11))))))
set_option maxRecDepth 100000 in
set_option maxHeartbeats 4000000 in
theorem c_P_putEnd {p0 : Nat} {p1 : Option Nat} {S S' : cS} (hR : CR b0 K Z) (hm : x_P_putEnd N b0 K p0 p1 S = some S') : Ct l D vwCl (tyL dA) b0 Z y_P_putEnd (.code y_P_putEnd cb_P_putEnd 2 none :: wsA) 1 21 [.ref p0, va_rf p1] (cH dA b0 S hp0) sz none (cH dA b0 S' hp0) 0 0 := by
  refine ct_ofF (cc := cb_P_putEnd) (maxL := 2) (ret := none) (lo0 := [some (.ref p0), some (va_rf p1)]) hR.1 (by decide) rfl (by simp [lg_sl, cat_i, cat_r, cat_l, va_rf_cat]) rfl (by simp [lx_all, lv_args, cat_i, cat_r, cat_l, va_rf_cat]) ?_
  intro p e s m args below meth c ls B hnm hl I
  obtain ⟨hx, hb, -⟩ := B.1
  unfold x_P_putEnd at hm
  refine q_aload_n (pc := 0) (i := 1) (v := va_rf p1) hx hb d_P_putEnd_0 rfl (va_rf_isRef _) (lx_get hl rfl) ?_
  refine ob1 hm (fun a1 e2 hm => ?_)
  have hm_3 := hm; have hl_3 := hl; have I_3 := I
  subst e2
  have hm := hm_3; have hl := hl_3; have I := I_3
  refine oifk hm (fun hk hm => ?_)
  refine ob1 hm (fun x5 e4 hm => ?_)
  refine k_callVN (pc := 1) (As := []) (rest := []) (b := a1) B hR hl rfl I (c_N_isTable hR e4) kw_P_46 (by decide) hk rfl (Nat.le_of_ble_eq_true rfl) (Nat.le_of_ble_eq_true rfl) rfl (by simp [cat_i, cat_r, cat_l, va_rf_cat]) d_P_putEnd_1 (Nat.le_refl _) (Nat.le_refl _) (fun H locs I => ?_)
  refine lv_if_eq (pc := 4) (tgt := 16) hx hb d_P_putEnd_4 (by decide) (fun hc => ?_) (fun hc => ?_)
  · have hm := ift hc hm
    refine q_aload_n (pc := 16) (i := 1) (v := .ref a1) hx hb d_P_putEnd_16 rfl rfl (lx_get hl rfl) ?_
    refine oifk hm (fun hk hm => ?_)
    refine ob1 hm (fun x7 e6 hm => ?_)
    refine k_callVN (pc := 17) (As := []) (rest := []) (b := a1) B hR hl rfl I (c_N_isList hR e6) kw_P_54 (by decide) hk rfl (Nat.le_of_ble_eq_true rfl) (Nat.le_of_ble_eq_true rfl) rfl (by simp [cat_i, cat_r, cat_l, va_rf_cat]) d_P_putEnd_17 (Nat.le_refl _) (Nat.le_refl _) (fun H locs I => ?_)
    refine lv_if_eq (pc := 20) (tgt := 29) hx hb d_P_putEnd_20 (by decide) (fun hc => ?_) (fun hc => ?_)
    · have hm := ift hc hm
      cases hm
      exact q_vret (pc := 29) B I rfl d_P_putEnd_29
    · have hm := iff' hc hm
      refine q_aload_n (pc := 23) (i := 0) (v := .ref p0) hx hb d_P_putEnd_23 rfl rfl (lx_get hl rfl) ?_
      refine lv_bipush (pc := 24) (v := 93) hx hb d_P_putEnd_24 (by decide) ?_
      refine oifk hm (fun hk hm => ?_)
      refine ob1 hm (fun S9 e8 hm => ?_)
      refine k_callV (pc := 26) (As := [.int 93]) (rest := []) (b := p0) B hR hl rfl I (c_P_put hR e8) kw_P_50 (by decide) hk rfl (Nat.le_of_ble_eq_true rfl) (Nat.le_of_ble_eq_true rfl) rfl (by simp [cat_i, cat_r, cat_l, va_rf_cat]) d_P_putEnd_26 (Nat.le_refl _) (Nat.le_refl _) (fun H locs I => ?_)
      cases hm
      exact q_vret (pc := 29) B I rfl d_P_putEnd_29
  · have hm := iff' hc hm
    refine q_aload_n (pc := 7) (i := 0) (v := .ref p0) hx hb d_P_putEnd_7 rfl rfl (lx_get hl rfl) ?_
    refine lv_bipush (pc := 8) (v := 125) hx hb d_P_putEnd_8 (by decide) ?_
    refine oifk hm (fun hk hm => ?_)
    refine ob1 hm (fun S11 e10 hm => ?_)
    refine k_callV (pc := 10) (As := [.int 125]) (rest := []) (b := p0) B hR hl rfl I (c_P_put hR e10) kw_P_50 (by decide) hk rfl (Nat.le_of_ble_eq_true rfl) (Nat.le_of_ble_eq_true rfl) rfl (by simp [cat_i, cat_r, cat_l, va_rf_cat]) d_P_putEnd_10 (Nat.le_refl _) (Nat.le_refl _) (fun H locs I => ?_)
    refine lv_goto (pc := 13) (tgt := 29) hx hb d_P_putEnd_13 (by decide) ?_
    cases hm
    exact q_vret (pc := 29) B I rfl d_P_putEnd_29
def x_P_isLine (N b0 : Nat) (K : cS) (p1 : Option Nat) (S : cS) : Option Int32 :=
  b1 p1 (fun a1 => b1 (gR b0 K S 2 4 a1) (fun q4 => om q4 (some 1) (fun a7 => b1 (gR b0 K S 2 4 a1) (fun q8 => b1 q8 (fun a10 => b1 (gR b0 K S 2 4 a10) (fun q13 => om q13 (some 1) (fun a16 => some 0)))))))
set_option maxRecDepth 100000 in
set_option maxHeartbeats 4000000 in
theorem c_P_isLine {p1 : Option Nat} {S : cS} {r : Int32} (hR : CR b0 K Z) (hm : x_P_isLine N b0 K p1 S = some r) : Ct l D vwCl (tyL dA) b0 Z y_P_isLine (.code y_P_isLine cb_P_isLine 1 (some .boolean) :: wsA) 0 0 [va_rf p1] (cH dA b0 S hp0) sz (some (.int r)) (cH dA b0 S hp0) 0 0 := by
  refine ct_ofF (cc := cb_P_isLine) (maxL := 1) (ret := (some .boolean)) (lo0 := [some (va_rf p1)]) hR.1 (by decide) rfl (by simp [lg_sl, cat_i, cat_r, cat_l, va_rf_cat]) rfl (by simp [lx_all, lv_args, cat_i, cat_r, cat_l, va_rf_cat]) ?_
  intro p e s m args below meth c ls B hnm hl I
  obtain ⟨hx, hb, -⟩ := B.1
  unfold x_P_isLine at hm
  refine q_aload_n (pc := 0) (i := 0) (v := va_rf p1) hx hb d_P_isLine_0 rfl (va_rf_isRef _) (lx_get hl rfl) ?_
  refine ob1 hm (fun a1 e2 hm => ?_)
  have hm_3 := hm; have hl_3 := hl; have I_3 := I
  subst e2
  have hm := hm_3; have hl := hl_3; have I := I_3
  refine ob1 hm (fun q4 e5 hm => ?_)
  refine k_getRN (pc := 1) (z := 2) (k := 4) (index := 90) B hR I (by decide) (by decide) nF_P_90 rfl (fun _ _ => rfl) e5 d_P_isLine_1 ?_
  refine oom hm (fun e6 hm => ?_) (fun a7 e6 hm => ?_)
  · have hm_18 := hm; have hl_18 := hl; have I_18 := I
    subst e6
    have hm := hm_18; have hl := hl_18; have I := I_18
    refine lv_ifnullN (pc := 4) (tgt := 17) hx hb d_P_isLine_4 (by decide) ?_
    refine lv_iconst (pc := 17) (v := 1) hx hb d_P_isLine_17 (by decide) ?_
    refine lv_goto (pc := 18) (tgt := 22) hx hb d_P_isLine_18 (by decide) ?_
    cases hm
    exact q_zret (pc := 22) B I rfl (by decide) d_P_isLine_22
  · have hm_18 := hm; have hl_18 := hl; have I_18 := I
    subst e6
    have hm := hm_18; have hl := hl_18; have I := I_18
    refine lv_ifnull (pc := 4) hx hb d_P_isLine_4 ?_
    refine q_aload_n (pc := 7) (i := 0) (v := .ref a1) hx hb d_P_isLine_7 rfl rfl (lx_get hl rfl) ?_
    refine ob1 hm (fun q8 e9 hm => ?_)
    refine k_getRN (pc := 8) (z := 2) (k := 4) (index := 90) B hR I (by decide) (by decide) nF_P_90 rfl (fun _ _ => rfl) e9 d_P_isLine_8 ?_
    refine ob1 hm (fun a10 e11 hm => ?_)
    have hm_12 := hm; have hl_12 := hl; have I_12 := I
    subst e11
    have hm := hm_12; have hl := hl_12; have I := I_12
    refine ob1 hm (fun q13 e14 hm => ?_)
    refine k_getRN (pc := 11) (z := 2) (k := 4) (index := 90) B hR I (by decide) (by decide) nF_P_90 rfl (fun _ _ => rfl) e14 d_P_isLine_11 ?_
    refine oom hm (fun e15 hm => ?_) (fun a16 e15 hm => ?_)
    · have hm_17 := hm; have hl_17 := hl; have I_17 := I
      subst e15
      have hm := hm_17; have hl := hl_17; have I := I_17
      refine lv_ifnonnullN (pc := 14) hx hb d_P_isLine_14 ?_
      refine lv_iconst (pc := 17) (v := 1) hx hb d_P_isLine_17 (by decide) ?_
      refine lv_goto (pc := 18) (tgt := 22) hx hb d_P_isLine_18 (by decide) ?_
      cases hm
      exact q_zret (pc := 22) B I rfl (by decide) d_P_isLine_22
    · have hm_17 := hm; have hl_17 := hl; have I_17 := I
      subst e15
      have hm := hm_17; have hl := hl_17; have I := I_17
      refine lv_ifnonnull (pc := 14) (tgt := 21) hx hb d_P_isLine_14 (by decide) ?_
      refine lv_iconst (pc := 21) (v := 0) hx hb d_P_isLine_21 (by decide) ?_
      cases hm
      exact q_zret (pc := 22) B I rfl (by decide) d_P_isLine_22
def x_T_top (N b0 : Nat) (K : cS) (p0 : Nat) (S : cS) : Option (Int32 × cS) :=
  b1 (gR b0 K S 1 3 p0) (fun q1 => b1 (pR b0 S 1 4 p0 q1) (fun S3 => b1 (gR b0 K S3 1 3 p0) (fun q5 => b1 q5 (fun a7 => b1 (gI b0 K S3 2 1 a7) (fun x10 => some (x10, S3))))))
set_option maxRecDepth 100000 in
set_option maxHeartbeats 4000000 in
theorem c_T_top {p0 : Nat} {S S' : cS} {r : Int32} (hR : CR b0 K Z) (hm : x_T_top N b0 K p0 S = some (r, S')) : Ct l D vwCl (tyL dA) b0 Z y_T_top (.code y_T_top cb_T_top 1 (some .int) :: wsA) 0 0 [.ref p0] (cH dA b0 S hp0) sz (some (.int r)) (cH dA b0 S' hp0) 0 0 := by
  refine ct_ofF (cc := cb_T_top) (maxL := 1) (ret := (some .int)) (lo0 := [some (.ref p0)]) hR.1 (by decide) rfl (by simp [lg_sl, cat_i, cat_r, cat_l, va_rf_cat]) rfl (by simp [lx_all, lv_args, cat_i, cat_r, cat_l, va_rf_cat]) ?_
  intro p e s m args below meth c ls B hnm hl I
  obtain ⟨hx, hb, -⟩ := B.1
  unfold x_T_top at hm
  refine q_aload_n (pc := 0) (i := 0) (v := .ref p0) hx hb d_T_top_0 rfl rfl (lx_get hl rfl) ?_
  refine q_aload_n (pc := 1) (i := 0) (v := .ref p0) hx hb d_T_top_1 rfl rfl (lx_get hl rfl) ?_
  refine ob1 hm (fun q1 e2 hm => ?_)
  refine k_getR (pc := 2) (z := 1) (k := 3) (index := 29) B hR I (by decide) (by decide) mF_T_29 rfl (fun _ _ => rfl) e2 d_T_top_2 ?_
  refine ob1 hm (fun S3 e4 hm => ?_)
  refine k_putR (pc := 5) (z := 1) (k := 4) (index := 33) (v := q1) B I (by decide) (by decide) mF_T_33 rfl rfl (Or.inl ⟨_, rfl⟩) cset_1_4 e4 d_T_top_5 (fun H locs I => ?_)
  refine q_aload_n (pc := 8) (i := 0) (v := .ref p0) hx hb d_T_top_8 rfl rfl (lx_get hl rfl) ?_
  refine ob1 hm (fun q5 e6 hm => ?_)
  refine k_getR (pc := 9) (z := 1) (k := 3) (index := 29) B hR I (by decide) (by decide) mF_T_29 rfl (fun _ _ => rfl) e6 d_T_top_9 ?_
  refine ob1 hm (fun a7 e8 hm => ?_)
  have hm_9 := hm; have hl_9 := hl; have I_9 := I
  subst e8
  have hm := hm_9; have hl := hl_9; have I := I_9
  refine ob1 hm (fun x10 e11 hm => ?_)
  refine k_getIN (pc := 12) (z := 2) (k := 1) (index := 75) B hR I (by decide) (by decide) nF_T_75 rfl (fun _ _ => rfl) e11 d_T_top_12 ?_
  cases hm
  exact q_iret (pc := 15) B I rfl d_T_top_15
def x_T_kind (N b0 : Nat) (K : cS) (p0 : Nat) (S : cS) : Option Int32 :=
  b1 (gR b0 K S 1 4 p0) (fun q1 => b1 q1 (fun a3 => b1 (gI b0 K S 2 0 a3) (fun x6 => some x6)))
set_option maxRecDepth 100000 in
set_option maxHeartbeats 4000000 in
theorem c_T_kind {p0 : Nat} {S : cS} {r : Int32} (hR : CR b0 K Z) (hm : x_T_kind N b0 K p0 S = some r) : Ct l D vwCl (tyL dA) b0 Z y_T_kind (.code y_T_kind cb_T_kind 1 (some .int) :: wsA) 0 0 [.ref p0] (cH dA b0 S hp0) sz (some (.int r)) (cH dA b0 S hp0) 0 0 := by
  refine ct_ofF (cc := cb_T_kind) (maxL := 1) (ret := (some .int)) (lo0 := [some (.ref p0)]) hR.1 (by decide) rfl (by simp [lg_sl, cat_i, cat_r, cat_l, va_rf_cat]) rfl (by simp [lx_all, lv_args, cat_i, cat_r, cat_l, va_rf_cat]) ?_
  intro p e s m args below meth c ls B hnm hl I
  obtain ⟨hx, hb, -⟩ := B.1
  unfold x_T_kind at hm
  refine q_aload_n (pc := 0) (i := 0) (v := .ref p0) hx hb d_T_kind_0 rfl rfl (lx_get hl rfl) ?_
  refine ob1 hm (fun q1 e2 hm => ?_)
  refine k_getR (pc := 1) (z := 1) (k := 4) (index := 33) B hR I (by decide) (by decide) mF_T_33 rfl (fun _ _ => rfl) e2 d_T_kind_1 ?_
  refine ob1 hm (fun a3 e4 hm => ?_)
  have hm_5 := hm; have hl_5 := hl; have I_5 := I
  subst e4
  have hm := hm_5; have hl := hl_5; have I := I_5
  refine ob1 hm (fun x6 e7 hm => ?_)
  refine k_getIN (pc := 4) (z := 2) (k := 0) (index := 82) B hR I (by decide) (by decide) nF_T_82 rfl (fun _ _ => rfl) e7 d_T_kind_4 ?_
  cases hm
  exact q_iret (pc := 7) B I rfl d_T_kind_7
def x_T_value (N b0 : Nat) (K : cS) (p0 : Nat) (S : cS) : Option Int32 :=
  b1 (gR b0 K S 1 4 p0) (fun q1 => b1 q1 (fun a3 => b1 (gI b0 K S 2 1 a3) (fun x6 => some x6)))
set_option maxRecDepth 100000 in
set_option maxHeartbeats 4000000 in
theorem c_T_value {p0 : Nat} {S : cS} {r : Int32} (hR : CR b0 K Z) (hm : x_T_value N b0 K p0 S = some r) : Ct l D vwCl (tyL dA) b0 Z y_T_value (.code y_T_value cb_T_value 1 (some .int) :: wsA) 0 0 [.ref p0] (cH dA b0 S hp0) sz (some (.int r)) (cH dA b0 S hp0) 0 0 := by
  refine ct_ofF (cc := cb_T_value) (maxL := 1) (ret := (some .int)) (lo0 := [some (.ref p0)]) hR.1 (by decide) rfl (by simp [lg_sl, cat_i, cat_r, cat_l, va_rf_cat]) rfl (by simp [lx_all, lv_args, cat_i, cat_r, cat_l, va_rf_cat]) ?_
  intro p e s m args below meth c ls B hnm hl I
  obtain ⟨hx, hb, -⟩ := B.1
  unfold x_T_value at hm
  refine q_aload_n (pc := 0) (i := 0) (v := .ref p0) hx hb d_T_value_0 rfl rfl (lx_get hl rfl) ?_
  refine ob1 hm (fun q1 e2 hm => ?_)
  refine k_getR (pc := 1) (z := 1) (k := 4) (index := 33) B hR I (by decide) (by decide) mF_T_33 rfl (fun _ _ => rfl) e2 d_T_value_1 ?_
  refine ob1 hm (fun a3 e4 hm => ?_)
  have hm_5 := hm; have hl_5 := hl; have I_5 := I
  subst e4
  have hm := hm_5; have hl := hl_5; have I := I_5
  refine ob1 hm (fun x6 e7 hm => ?_)
  refine k_getIN (pc := 4) (z := 2) (k := 1) (index := 75) B hR I (by decide) (by decide) nF_T_75 rfl (fun _ _ => rfl) e7 d_T_value_4 ?_
  cases hm
  exact q_iret (pc := 7) B I rfl d_T_value_7
end CW
