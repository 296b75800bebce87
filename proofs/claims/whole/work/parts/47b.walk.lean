section CW
variable {p : Program} {l : Launch} {e : Env} {s : State} {m : MethodId} {args : Array Value} {below : List Frame} {meth : Method} {c : Code} {H : Heap} {locs : List Loc}
variable {ls : Array Slot} {D : va_G} {dA : Nat → ClassId} {hp0 : aH} {sz sz0 b0 N : Nat} {cells slots dc ds mc ms : Nat} {S' K : cS} {r : Int32} {q : Option Nat} {Z : State → Prop}
def x_R_init (N b0 : Nat) (K : cS) (p0 : Nat) (p1 : Option Nat) (p2 : Int32) (sz : Nat) (S : cS) : Option (cS × Nat × Nat) :=
  b1 (pR b0 S 4 0 p0 p1) (fun S1 => b1 (pI b0 S1 4 1 p0 p2) (fun S3 => wr3 1 4 (b1 (nOo b0 S3 7 sz) (fun S5 => b3 (x_SB_init N b0 K sz (sz + 1) S5) (fun S8 c9 d10 => wr3 c9 d10 (b1 (pR b0 S8 4 2 p0 (some sz)) (fun S11 => wr3 1 3 (b1 (nOo b0 S11 8 ((sz + 1) + c9)) (fun S13 => b1 (x_AL_init N b0 K ((sz + 1) + c9) S13) (fun S16 => b1 (pR b0 S16 4 3 p0 (some ((sz + 1) + c9))) (fun S17 => wr3 1 8 (b1 (nOo b0 S17 2 (((sz + 1) + c9) + 1)) (fun S19 => b1 (x_N_init N b0 K (((sz + 1) + c9) + 1) 7 0 S19) (fun S22 => b1 (pR b0 S22 4 4 p0 (some (((sz + 1) + c9) + 1))) (fun S23 => b1 (gR b0 K S23 4 4 p0) (fun q25 => b1 (pR b0 S23 4 5 p0 q25) (fun S27 => b1 (pI b0 S27 4 6 p0 0) (fun S29 => b1 (pI b0 S29 4 7 p0 (-1)) (fun S31 => some (S31, 0, 0))))))))))))))))))))
set_option maxRecDepth 100000 in
set_option maxHeartbeats 4000000 in
theorem c_R_init {p0 : Nat} {p1 : Option Nat} {p2 : Int32} {S S' : cS} {dc ds : Nat} (hR : CR b0 K Z) (hm : x_R_init N b0 K p0 p1 p2 sz S = some (S', dc, ds)) : Ct l D vwCl (tyL dA) b0 Z y_R_init (.code y_R_init cb_R_init 3 none :: wsA) 5 161 [.ref p0, va_rf p1, .int p2] (cH dA b0 S hp0) sz none (cH dA b0 S' hp0) dc ds := by
  refine ct_ofF (cc := cb_R_init) (maxL := 3) (ret := none) (lo0 := [some (.ref p0), some (va_rf p1), some (.int p2)]) hR.1 (by decide +kernel) rfl (by simp [lg_sl, cat_i, cat_r, cat_l, va_rf_cat]) rfl (by simp [lx_all, lv_args, cat_i, cat_r, cat_l, va_rf_cat]) ?_
  intro p e s m args below meth c ls B hnm hl I
  obtain ⟨hx, hb, -⟩ := B.1
  have hz : sz = sz + 0 := rfl
  have hc : 0 + dc = dc := Nat.zero_add _
  have hs : 0 + ds = ds := Nat.zero_add _
  unfold x_R_init at hm
  refine q_aload_n (pc := 0) (i := 0) (v := .ref p0) hx hb d_R_init_0 rfl rfl (lx_get hl rfl) ?_
  refine k_obj (pc := 1) (index := 3) B hl rfl mO_R_3 mA_oI mA_oC (Nat.le_of_ble_eq_true rfl) (Nat.le_of_ble_eq_true rfl) d_R_init_1 ?_
  refine q_aload_n (pc := 4) (i := 0) (v := .ref p0) hx hb d_R_init_4 rfl rfl (lx_get hl rfl) ?_
  refine q_aload_n (pc := 5) (i := 1) (v := va_rf p1) hx hb d_R_init_5 rfl (va_rf_isRef _) (lx_get hl rfl) ?_
  refine ob1 hm (fun S1 e2 hm => ?_)
  refine k_putRF (pc := 6) (z := 4) (k := 0) (index := 9) (v := p1) B I (by decide) (by decide) mF_R_9 rfl rfl hnm rfl (Or.inr ⟨_, rfl⟩) cset_4_0 e2 d_R_init_6 (fun H locs I => ?_)
  refine q_aload_n (pc := 9) (i := 0) (v := .ref p0) hx hb d_R_init_9 rfl rfl (lx_get hl rfl) ?_
  refine lv_iload_n (pc := 10) (i := 2) hx hb d_R_init_10 rfl (lx_get hl rfl) ?_
  refine ob1 hm (fun S3 e4 hm => ?_)
  refine k_putIF (pc := 11) (z := 4) (k := 1) (index := 15) (v := p2) B I (by decide) (by decide) mF_R_15 rfl rfl hnm rfl rfl rfl cset_4_1 e4 d_R_init_11 (fun H locs I => ?_)
  refine q_aload_n (pc := 14) (i := 0) (v := .ref p0) hx hb d_R_init_14 rfl rfl (lx_get hl rfl) ?_
  refine owr3 hm hc hs (fun dc ds hm hc hs => ?_)
  refine ob1 hm (fun S5 e6 hm => ?_)
  refine k_new (pc := 15) (z := 7) (index := 19) (n := 4) B I (by decide) mC_R_19 mI_7 mN_7 nf_7 (hr_ hc) (hr_ hs) e6 d_R_init_15 (fun H I => ?_)
  have hz := hzn (n := 1) hz
  refine lv_dup (pc := 18) hx hb d_R_init_18 rfl ?_
  refine ob3 hm (fun S8 c9 d10 e7 hm => ?_)
  refine owr3 hm hc hs (fun dc ds hm hc hs => ?_)
  refine k_callI (pc := 19) (As := []) (rest := [.ref sz, .ref p0]) (b := sz) B hl rfl I (c_SB_init hR e7) kw_R_21 rfl (Nat.le_of_ble_eq_true rfl) (Nat.le_of_ble_eq_true rfl) rfl (by simp [cat_i, cat_r, cat_l, va_rf_cat]) d_R_init_19 (hr_ hc) (hr_ hs) (fun H locs I => ?_)
  have hz := hzn (n := c9) hz
  refine ob1 hm (fun S11 e12 hm => ?_)
  refine k_putRF (pc := 22) (z := 4) (k := 2) (index := 22) (v := (some sz)) B I (by decide) (by decide) mF_R_22 rfl rfl hnm rfl (Or.inl ⟨_, rfl⟩) cset_4_2 e12 d_R_init_22 (fun H locs I => ?_)
  refine q_aload_n (pc := 25) (i := 0) (v := .ref p0) hx hb d_R_init_25 rfl rfl (lx_get hl rfl) ?_
  refine owr3 hm hc hs (fun dc ds hm hc hs => ?_)
  refine ob1 hm (fun S13 e14 hm => ?_)
  refine k_new (pc := 26) (z := 8) (index := 26) (n := 3) B I (by decide) mC_R_26 mI_8 mN_8 nf_8 (hr_ hc) (hr_ hs) e14 d_R_init_26 (fun H I => ?_)
  have hz := hzn (n := 1) hz
  refine lv_dup (pc := 29) hx hb d_R_init_29 rfl ?_
  refine ob1 hm (fun S16 e15 hm => ?_)
  refine k_callI (pc := 30) (As := []) (rest := [.ref ((sz + 1) + c9), .ref p0]) (b := ((sz + 1) + c9)) B hl rfl I (c_AL_init hR e15) kw_R_28 rfl (Nat.le_of_ble_eq_true rfl) (Nat.le_of_ble_eq_true rfl) rfl (by simp [cat_i, cat_r, cat_l, va_rf_cat]) d_R_init_30 (hr0 hc) (hr0 hs) (fun H locs I => ?_)
  refine ob1 hm (fun S17 e18 hm => ?_)
  refine k_putRF (pc := 33) (z := 4) (k := 3) (index := 29) (v := (some ((sz + 1) + c9))) B I (by decide) (by decide) mF_R_29 rfl rfl hnm rfl (Or.inl ⟨_, rfl⟩) cset_4_3 e18 d_R_init_33 (fun H locs I => ?_)
  refine q_aload_n (pc := 36) (i := 0) (v := .ref p0) hx hb d_R_init_36 rfl rfl (lx_get hl rfl) ?_
  refine owr3 hm hc hs (fun dc ds hm hc hs => ?_)
  refine ob1 hm (fun S19 e20 hm => ?_)
  refine k_new (pc := 37) (z := 2) (index := 33) (n := 8) B I (by decide) mC_R_33 mI_2 mN_2 nf_2 (hr_ hc) (hr_ hs) e20 d_R_init_37 (fun H I => ?_)
  have hz := hzn (n := 1) hz
  refine lv_dup (pc := 40) hx hb d_R_init_40 rfl ?_
  refine lv_bipush (pc := 41) (v := 7) hx hb d_R_init_41 (by decide) ?_
  refine lv_iconst (pc := 43) (v := 0) hx hb d_R_init_43 (by decide) ?_
  refine ob1 hm (fun S22 e21 hm => ?_)
  refine k_callIN (pc := 44) (As := [.int 7, .int 0]) (rest := [.ref (((sz + 1) + c9) + 1), .ref p0]) (b := (((sz + 1) + c9) + 1)) B hR hl rfl I (c_N_init hR e21) kw_R_35 rfl (Nat.le_of_ble_eq_true rfl) (Nat.le_of_ble_eq_true rfl) rfl (by simp [cat_i, cat_r, cat_l, va_rf_cat]) d_R_init_44 (hr0 hc) (hr0 hs) (fun H locs I => ?_)
  refine ob1 hm (fun S23 e24 hm => ?_)
  refine k_putRF (pc := 47) (z := 4) (k := 4) (index := 38) (v := (some (((sz + 1) + c9) + 1))) B I (by decide) (by decide) mF_R_38 rfl rfl hnm rfl (Or.inl ⟨_, rfl⟩) cset_4_4 e24 d_R_init_47 (fun H locs I => ?_)
  refine q_aload_n (pc := 50) (i := 0) (v := .ref p0) hx hb d_R_init_50 rfl rfl (lx_get hl rfl) ?_
  refine q_aload_n (pc := 51) (i := 0) (v := .ref p0) hx hb d_R_init_51 rfl rfl (lx_get hl rfl) ?_
  refine ob1 hm (fun q25 e26 hm => ?_)
  refine k_getR (pc := 52) (z := 4) (k := 4) (index := 38) B hR I (by decide) (by decide) mF_R_38 rfl (fun _ _ => rfl) e26 d_R_init_52 ?_
  refine ob1 hm (fun S27 e28 hm => ?_)
  refine k_putR (pc := 55) (z := 4) (k := 5) (index := 42) (v := q25) B I (by decide) (by decide) mF_R_42 rfl rfl (Or.inl ⟨_, rfl⟩) cset_4_5 e28 d_R_init_55 (fun H locs I => ?_)
  refine q_aload_n (pc := 58) (i := 0) (v := .ref p0) hx hb d_R_init_58 rfl rfl (lx_get hl rfl) ?_
  refine lv_iconst (pc := 59) (v := 0) hx hb d_R_init_59 (by decide) ?_
  refine ob1 hm (fun S29 e30 hm => ?_)
  refine k_putI (pc := 60) (z := 4) (k := 6) (index := 45) (v := 0) B I (by decide) (by decide) mF_R_45 rfl rfl rfl rfl cset_4_6 e30 d_R_init_60 (fun H locs I => ?_)
  refine q_aload_n (pc := 63) (i := 0) (v := .ref p0) hx hb d_R_init_63 rfl rfl (lx_get hl rfl) ?_
  refine lv_iconst (pc := 64) (v := (-1)) hx hb d_R_init_64 (by decide) ?_
  refine ob1 hm (fun S31 e32 hm => ?_)
  refine k_putI (pc := 65) (z := 4) (k := 7) (index := 48) (v := (-1)) B I (by decide) (by decide) mF_R_48 rfl rfl rfl rfl cset_4_7 e32 d_R_init_65 (fun H locs I => ?_)
  cases hm
  exact q_vretA (pc := 68) B I hz hc hs rfl d_R_init_68
def x_R_readQuoted_112 (N b0 : Nat) (K : cS) (K20 : Nat → Int32 → Nat → cS → Option (Option Nat × cS × Nat × Nat)) (y0 : Nat) (y1 : Int32) (sz : Nat) (S : cS) : Option (Option Nat × cS × Nat × Nat) :=
  K20 y0 y1 sz S
set_option maxRecDepth 100000 in
set_option maxHeartbeats 4000000 in
theorem w_R_readQuoted_112 {K20 : Nat → Int32 → Nat → cS → Option (Option Nat × cS × Nat × Nat)} {y0 : Nat} {y1 : Int32} {sz : Nat} {S : cS} (hK20 : ∀ (y0 : Nat) (y1 : Int32) (sz : Nat) (S : cS) (ls : Array Slot) (H : Heap) (locs : List Loc) (cells slots dc ds : Nat), lx ls [some (.ref y0), some (.int y1), none] → AI D vwCl b0 (cH dA b0 S hp0) sz s.heap H locs → sz = sz0 + cells → cells + dc = mc → slots + ds = ms → K20 y0 y1 sz S = some (q, S', dc, ds) → W p l e { frames := 11, cells := mc, slots := ms, locals := 293 } s m args below meth c H locs cells slots (MQ below (CQ D vwCl b0 (some (va_rf q)) (cH dA b0 S' hp0) (sz0 + mc)) args s mc ms (fun q => b0 ≤ q)) (F0 m 20 ls [])) (B : BX p m c cb_R_readQuoted 3 s args (.code y_R_readQuoted cb_R_readQuoted 3 (some (.object "java/lang/String")) :: wsA) RZ4 meth (some (.object "java/lang/String")) D vwCl (tyL dA) b0 Z) (hR : CR b0 K Z) (hl : lx ls [some (.ref y0), some (.int y1), none]) (I : AI D vwCl b0 (cH dA b0 S hp0) sz s.heap H locs) (hz : sz = sz0 + cells) (hc : cells + dc = mc) (hs : slots + ds = ms) (hm : x_R_readQuoted_112 N b0 K K20 y0 y1 sz S = some (q, S', dc, ds)) : W p l e { frames := 11, cells := mc, slots := ms, locals := 293 } s m args below meth c H locs cells slots (MQ below (CQ D vwCl b0 (some (va_rf q)) (cH dA b0 S' hp0) (sz0 + mc)) args s mc ms (fun q => b0 ≤ q)) (F0 m 112 ls []) := by
  obtain ⟨hx, hb, -⟩ := B.1
  unfold x_R_readQuoted_112 at hm
  refine lv_goto (pc := 112) (tgt := 20) hx hb d_R_readQuoted_112 (by decide) ?_
  exact hK20 y0 y1 sz S _ _ _ _ _ _ _ hl I hz hc hs hm
def x_R_readQuoted_88 (N b0 : Nat) (K : cS) (K20 : Nat → Int32 → Nat → cS → Option (Option Nat × cS × Nat × Nat)) (y0 : Nat) (y2 : Int32) (z0 : Int32) (sz : Nat) (S : cS) : Option (Option Nat × cS × Nat × Nat) :=
  if z0 = 0 then (x_R_readQuoted_112 N b0 K K20 y0 z0 sz S) else (b1 (gR b0 K S 4 2 y0) (fun q1 => b1 q1 (fun a3 => ifk b0 K S 7 a3 (b4 (x_SB_append N b0 K a3 y2 sz S) (fun q7 S8 c9 d10 => wr4 c9 d10 (b1 (gI b0 K S8 4 6 y0) (fun x11 => b1 (pI b0 S8 4 6 y0 (x11 + 1)) (fun S13 => x_R_readQuoted_112 N b0 K K20 y0 z0 (sz + c9) S13))))))))
set_option maxRecDepth 100000 in
set_option maxHeartbeats 4000000 in
theorem w_R_readQuoted_88 {K20 : Nat → Int32 → Nat → cS → Option (Option Nat × cS × Nat × Nat)} {y0 : Nat} {y2 : Int32} {z0 : Int32} {sz : Nat} {S : cS} (hK20 : ∀ (y0 : Nat) (y1 : Int32) (sz : Nat) (S : cS) (ls : Array Slot) (H : Heap) (locs : List Loc) (cells slots dc ds : Nat), lx ls [some (.ref y0), some (.int y1), none] → AI D vwCl b0 (cH dA b0 S hp0) sz s.heap H locs → sz = sz0 + cells → cells + dc = mc → slots + ds = ms → K20 y0 y1 sz S = some (q, S', dc, ds) → W p l e { frames := 11, cells := mc, slots := ms, locals := 293 } s m args below meth c H locs cells slots (MQ below (CQ D vwCl b0 (some (va_rf q)) (cH dA b0 S' hp0) (sz0 + mc)) args s mc ms (fun q => b0 ≤ q)) (F0 m 20 ls [])) (B : BX p m c cb_R_readQuoted 3 s args (.code y_R_readQuoted cb_R_readQuoted 3 (some (.object "java/lang/String")) :: wsA) RZ4 meth (some (.object "java/lang/String")) D vwCl (tyL dA) b0 Z) (hR : CR b0 K Z) (hl : lx ls [some (.ref y0), none, some (.int y2)]) (I : AI D vwCl b0 (cH dA b0 S hp0) sz s.heap H locs) (hz : sz = sz0 + cells) (hc : cells + dc = mc) (hs : slots + ds = ms) (hm : x_R_readQuoted_88 N b0 K K20 y0 y2 z0 sz S = some (q, S', dc, ds)) : W p l e { frames := 11, cells := mc, slots := ms, locals := 293 } s m args below meth c H locs cells slots (MQ below (CQ D vwCl b0 (some (va_rf q)) (cH dA b0 S' hp0) (sz0 + mc)) args s mc ms (fun q => b0 ≤ q)) (F0 m 88 ls [.int z0]) := by
  obtain ⟨hx, hb, -⟩ := B.1
  unfold x_R_readQuoted_88 at hm
  refine q_istore_n (pc := 88) (i := 1) (lo' := [some (.ref y0), some (.int z0), some (.int y2)]) hx hb d_R_readQuoted_88 rfl hl (Nat.le_of_ble_eq_true rfl) (lx_cr rfl) rfl (fun ls hl => ?_)
  refine lv_iload_n (pc := 89) (i := 1) hx hb d_R_readQuoted_89 rfl (lx_get hl rfl) ?_
  refine lv_if_eq (pc := 90) (tgt := 112) hx hb d_R_readQuoted_90 (by decide) (fun hcc => ?_) (fun hcc => ?_)
  · have hm := ift hcc hm
    exact w_R_readQuoted_112 (y0 := y0) (y1 := z0) hK20 B hR (lx_sub (lo' := [some (.ref y0), some (.int z0), none]) hl (by simp [lx_le])) I hz hc hs hm
  · have hm := iff' hcc hm
    refine q_aload_n (pc := 93) (i := 0) (v := .ref y0) hx hb d_R_readQuoted_93 rfl rfl (lx_get hl rfl) ?_
    refine ob1 hm (fun q1 e2 hm => ?_)
    refine k_getR (pc := 94) (z := 4) (k := 2) (index := 22) B hR I (by decide) (by decide) mF_R_22 rfl (fun _ _ => rfl) e2 d_R_readQuoted_94 ?_
    refine lv_iload_n (pc := 97) (i := 2) hx hb d_R_readQuoted_97 rfl (lx_get hl rfl) ?_
    refine ob1 hm (fun a3 e4 hm => ?_)
    have hm_5 := hm; have hl_5 := hl; have I_5 := I
    subst e4
    have hm := hm_5; have hl := hl_5; have I := I_5
    refine oifk hm (fun hk hm => ?_)
    refine ob4 hm (fun q7 S8 c9 d10 e6 hm => ?_)
    refine owr4 hm hc hs (fun dc ds hm hc hs => ?_)
    refine k_callV (pc := 98) (As := [.int y2]) (rest := []) (b := a3) B hR hl rfl I (c_SB_append hR e6) kw_R_209 (by decide) hk rfl (Nat.le_of_ble_eq_true rfl) (Nat.le_of_ble_eq_true rfl) rfl (by simp [cat_i, cat_r, cat_l, va_rf_cat]) d_R_readQuoted_98 (hr_ hc) (hr_ hs) (fun H locs I => ?_)
    have hz := hzn (n := c9) hz
    refine lv_pop (pc := 101) hx hb d_R_readQuoted_101 (va_rf_cat _) ?_
    refine q_aload_n (pc := 102) (i := 0) (v := .ref y0) hx hb d_R_readQuoted_102 rfl rfl (lx_get hl rfl) ?_
    refine lv_dup (pc := 103) hx hb d_R_readQuoted_103 rfl ?_
    refine ob1 hm (fun x11 e12 hm => ?_)
    refine k_getI (pc := 104) (z := 4) (k := 6) (index := 45) B hR I (by decide) (by decide) mF_R_45 rfl (fun _ _ => rfl) e12 d_R_readQuoted_104 ?_
    refine lv_iconst (pc := 107) (v := 1) hx hb d_R_readQuoted_107 (by decide) ?_
    refine lv_iadd (pc := 108) hx hb d_R_readQuoted_108 ?_
    refine ob1 hm (fun S13 e14 hm => ?_)
    refine k_putI (pc := 109) (z := 4) (k := 6) (index := 45) (v := (x11 + 1)) B I (by decide) (by decide) mF_R_45 rfl rfl rfl rfl cset_4_6 e14 d_R_readQuoted_109 (fun H locs I => ?_)
    exact w_R_readQuoted_112 (y0 := y0) (y1 := z0) hK20 B hR (lx_sub (lo' := [some (.ref y0), some (.int z0), none]) hl (by simp [lx_le])) I hz hc hs hm
def x_R_readQuoted_79 (N b0 : Nat) (K : cS) (K20 : Nat → Int32 → Nat → cS → Option (Option Nat × cS × Nat × Nat)) (y0 : Nat) (y2 : Int32) (sz : Nat) (S : cS) : Option (Option Nat × cS × Nat × Nat) :=
  if y2 = 0 then (x_R_readQuoted_88 N b0 K K20 y0 y2 0 sz S) else (x_R_readQuoted_88 N b0 K K20 y0 y2 1 sz S)
set_option maxRecDepth 100000 in
set_option maxHeartbeats 4000000 in
theorem w_R_readQuoted_79 {K20 : Nat → Int32 → Nat → cS → Option (Option Nat × cS × Nat × Nat)} {y0 : Nat} {y2 : Int32} {sz : Nat} {S : cS} (hK20 : ∀ (y0 : Nat) (y1 : Int32) (sz : Nat) (S : cS) (ls : Array Slot) (H : Heap) (locs : List Loc) (cells slots dc ds : Nat), lx ls [some (.ref y0), some (.int y1), none] → AI D vwCl b0 (cH dA b0 S hp0) sz s.heap H locs → sz = sz0 + cells → cells + dc = mc → slots + ds = ms → K20 y0 y1 sz S = some (q, S', dc, ds) → W p l e { frames := 11, cells := mc, slots := ms, locals := 293 } s m args below meth c H locs cells slots (MQ below (CQ D vwCl b0 (some (va_rf q)) (cH dA b0 S' hp0) (sz0 + mc)) args s mc ms (fun q => b0 ≤ q)) (F0 m 20 ls [])) (B : BX p m c cb_R_readQuoted 3 s args (.code y_R_readQuoted cb_R_readQuoted 3 (some (.object "java/lang/String")) :: wsA) RZ4 meth (some (.object "java/lang/String")) D vwCl (tyL dA) b0 Z) (hR : CR b0 K Z) (hl : lx ls [some (.ref y0), none, some (.int y2)]) (I : AI D vwCl b0 (cH dA b0 S hp0) sz s.heap H locs) (hz : sz = sz0 + cells) (hc : cells + dc = mc) (hs : slots + ds = ms) (hm : x_R_readQuoted_79 N b0 K K20 y0 y2 sz S = some (q, S', dc, ds)) : W p l e { frames := 11, cells := mc, slots := ms, locals := 293 } s m args below meth c H locs cells slots (MQ below (CQ D vwCl b0 (some (va_rf q)) (cH dA b0 S' hp0) (sz0 + mc)) args s mc ms (fun q => b0 ≤ q)) (F0 m 79 ls []) := by
  obtain ⟨hx, hb, -⟩ := B.1
  unfold x_R_readQuoted_79 at hm
  refine lv_iload_n (pc := 79) (i := 2) hx hb d_R_readQuoted_79 rfl (lx_get hl rfl) ?_
  refine lv_if_eq (pc := 80) (tgt := 87) hx hb d_R_readQuoted_80 (by decide) (fun hcc => ?_) (fun hcc => ?_)
  · have hm := ift hcc hm
    refine lv_iconst (pc := 87) (v := 0) hx hb d_R_readQuoted_87 (by decide) ?_
    exact w_R_readQuoted_88 (y0 := y0) (y2 := y2) (z0 := 0) hK20 B hR hl I hz hc hs hm
  · have hm := iff' hcc hm
    refine lv_iconst (pc := 83) (v := 1) hx hb d_R_readQuoted_83 (by decide) ?_
    refine lv_goto (pc := 84) (tgt := 88) hx hb d_R_readQuoted_84 (by decide) ?_
    exact w_R_readQuoted_88 (y0 := y0) (y2 := y2) (z0 := 1) hK20 B hR hl I hz hc hs hm
def x_R_readQuoted_115 (N b0 : Nat) (K : cS) (y0 : Nat) (sz : Nat) (S : cS) : Option (Option Nat × cS × Nat × Nat) :=
  ifk b0 K S 4 y0 (b2 (x_R_take N b0 K y0 34 S) (fun x2 S3 => if x2 = 0 then (some (none, S3, 0, 0)) else (b1 (gR b0 K S3 4 2 y0) (fun q4 => b1 q4 (fun a6 => ifk b0 K S3 7 a6 (b4 (x_SB_toString N b0 K a6 sz S3) (fun q10 S11 c12 d13 => wr4 c12 d13 (some (q10, S11, 0, 0)))))))))
set_option maxRecDepth 100000 in
set_option maxHeartbeats 4000000 in
theorem w_R_readQuoted_115 {y0 : Nat} {sz : Nat} {S : cS} (B : BX p m c cb_R_readQuoted 3 s args (.code y_R_readQuoted cb_R_readQuoted 3 (some (.object "java/lang/String")) :: wsA) RZ4 meth (some (.object "java/lang/String")) D vwCl (tyL dA) b0 Z) (hR : CR b0 K Z) (hl : lx ls [some (.ref y0), none, none]) (I : AI D vwCl b0 (cH dA b0 S hp0) sz s.heap H locs) (hz : sz = sz0 + cells) (hc : cells + dc = mc) (hs : slots + ds = ms) (hm : x_R_readQuoted_115 N b0 K  y0 sz S = some (q, S', dc, ds)) : W p l e { frames := 11, cells := mc, slots := ms, locals := 293 } s m args below meth c H locs cells slots (MQ below (CQ D vwCl b0 (some (va_rf q)) (cH dA b0 S' hp0) (sz0 + mc)) args s mc ms (fun q => b0 ≤ q)) (F0 m 115 ls []) := by
  obtain ⟨hx, hb, -⟩ := B.1
  unfold x_R_readQuoted_115 at hm
  refine q_aload_n (pc := 115) (i := 0) (v := .ref y0) hx hb d_R_readQuoted_115 rfl rfl (lx_get hl rfl) ?_
  refine lv_bipush (pc := 116) (v := 34) hx hb d_R_readQuoted_116 (by decide) ?_
  refine oifk hm (fun hk hm => ?_)
  refine ob2 hm (fun x2 S3 e1 hm => ?_)
  refine k_callV (pc := 118) (As := [.int 34]) (rest := []) (b := y0) B hR hl rfl I (c_R_take hR e1) kw_R_73 (by decide) hk rfl (Nat.le_of_ble_eq_true rfl) (Nat.le_of_ble_eq_true rfl) rfl (by simp [cat_i, cat_r, cat_l, va_rf_cat]) d_R_readQuoted_118 (hr0 hc) (hr0 hs) (fun H locs I => ?_)
  refine lv_if_eq (pc := 121) (tgt := 134) hx hb d_R_readQuoted_121 (by decide) (fun hcc => ?_) (fun hcc => ?_)
  · have hm := ift hcc hm
    refine lv_null (pc := 134) hx hb d_R_readQuoted_134 ?_
    cases hm
    exact q_aretA (pc := 135) B I hz hc hs rfl (Or.inl ⟨_, rfl⟩) d_R_readQuoted_135
  · have hm := iff' hcc hm
    refine q_aload_n (pc := 124) (i := 0) (v := .ref y0) hx hb d_R_readQuoted_124 rfl rfl (lx_get hl rfl) ?_
    refine ob1 hm (fun q4 e5 hm => ?_)
    refine k_getR (pc := 125) (z := 4) (k := 2) (index := 22) B hR I (by decide) (by decide) mF_R_22 rfl (fun _ _ => rfl) e5 d_R_readQuoted_125 ?_
    refine ob1 hm (fun a6 e7 hm => ?_)
    have hm_8 := hm; have hl_8 := hl; have I_8 := I
    subst e7
    have hm := hm_8; have hl := hl_8; have I := I_8
    refine oifk hm (fun hk hm => ?_)
    refine ob4 hm (fun q10 S11 c12 d13 e9 hm => ?_)
    refine owr4 hm hc hs (fun dc ds hm hc hs => ?_)
    refine k_callV (pc := 128) (As := []) (rest := []) (b := a6) B hR hl rfl I (c_SB_toString hR e9) kw_R_213 (by decide) hk rfl (Nat.le_of_ble_eq_true rfl) (Nat.le_of_ble_eq_true rfl) rfl (by simp [cat_i, cat_r, cat_l, va_rf_cat]) d_R_readQuoted_128 (hr_ hc) (hr_ hs) (fun H locs I => ?_)
    have hz := hzn (n := c12) hz
    refine lv_goto (pc := 131) (tgt := 135) hx hb d_R_readQuoted_131 (by decide) ?_
    cases hm
    exact q_aretA (pc := 135) B I hz hc hs rfl (Or.inl ⟨_, rfl⟩) d_R_readQuoted_135
def x_R_readQuoted_20F (N b0 : Nat) (K : cS) (K20 : Nat → Int32 → Nat → cS → Option (Option Nat × cS × Nat × Nat)) (y0 : Nat) (y1 : Int32) (sz : Nat) (S : cS) : Option (Option Nat × cS × Nat × Nat) :=
  if y1 = 0 then (x_R_readQuoted_115 N b0 K  y0 sz S) else (b1 (gR b0 K S 4 2 y0) (fun q1 => b1 q1 (fun a3 => ifk b0 K S 7 a3 (b1 (x_SB_length N b0 K a3 S) (fun x7 => if 30 ≤ x7 then (x_R_readQuoted_115 N b0 K  y0 sz S) else (ifk b0 K S 4 y0 (b1 (x_R_goesOnInString N b0 K y0 34 S) (fun x9 => if x9 = 0 then (x_R_readQuoted_115 N b0 K  y0 sz S) else (b1 (gR b0 K S 4 0 y0) (fun q10 => b1 (gI b0 K S 4 6 y0) (fun x12 => b1 q10 (fun a14 => b1 (aL b0 K S 11 a14 x12) (fun x17 => if x17 = 92 then (b1 (gI b0 K S 4 6 y0) (fun x19 => b1 (pI b0 S 4 6 y0 (x19 + 1)) (fun S21 => ifk b0 K S21 4 y0 (b1 (x_R_peek N b0 K y0 S21) (fun x24 => b1 (x_R_escaped N b0 K x24 S21) (fun x26 => x_R_readQuoted_79 N b0 K K20 y0 x26 sz S21)))))) else (x_R_readQuoted_79 N b0 K K20 y0 x17 sz S))))))))))))))
def x_R_readQuoted_20 (N b0 : Nat) (K : cS) : Nat → Nat → Int32 → Nat → cS → Option (Option Nat × cS × Nat × Nat)
  | 0, _, _, _, _ => none
  | k + 1, y0, y1, sz, S => x_R_readQuoted_20F N b0 K  (x_R_readQuoted_20 N b0 K  k) y0 y1 sz S
set_option maxRecDepth 100000 in
set_option maxHeartbeats 4000000 in
theorem w_R_readQuoted_20F {K20 : Nat → Int32 → Nat → cS → Option (Option Nat × cS × Nat × Nat)} {y0 : Nat} {y1 : Int32} {sz : Nat} {S : cS} (hK20 : ∀ (y0 : Nat) (y1 : Int32) (sz : Nat) (S : cS) (ls : Array Slot) (H : Heap) (locs : List Loc) (cells slots dc ds : Nat), lx ls [some (.ref y0), some (.int y1), none] → AI D vwCl b0 (cH dA b0 S hp0) sz s.heap H locs → sz = sz0 + cells → cells + dc = mc → slots + ds = ms → K20 y0 y1 sz S = some (q, S', dc, ds) → W p l e { frames := 11, cells := mc, slots := ms, locals := 293 } s m args below meth c H locs cells slots (MQ below (CQ D vwCl b0 (some (va_rf q)) (cH dA b0 S' hp0) (sz0 + mc)) args s mc ms (fun q => b0 ≤ q)) (F0 m 20 ls [])) (B : BX p m c cb_R_readQuoted 3 s args (.code y_R_readQuoted cb_R_readQuoted 3 (some (.object "java/lang/String")) :: wsA) RZ4 meth (some (.object "java/lang/String")) D vwCl (tyL dA) b0 Z) (hR : CR b0 K Z) (hl : lx ls [some (.ref y0), some (.int y1), none]) (I : AI D vwCl b0 (cH dA b0 S hp0) sz s.heap H locs) (hz : sz = sz0 + cells) (hc : cells + dc = mc) (hs : slots + ds = ms) (hm : x_R_readQuoted_20F N b0 K  K20 y0 y1 sz S = some (q, S', dc, ds)) : W p l e { frames := 11, cells := mc, slots := ms, locals := 293 } s m args below meth c H locs cells slots (MQ below (CQ D vwCl b0 (some (va_rf q)) (cH dA b0 S' hp0) (sz0 + mc)) args s mc ms (fun q => b0 ≤ q)) (F0 m 20 ls []) := by
  obtain ⟨hx, hb, -⟩ := B.1
  unfold x_R_readQuoted_20F at hm
  refine lv_iload_n (pc := 20) (i := 1) hx hb d_R_readQuoted_20 rfl (lx_get hl rfl) ?_
  refine lv_if_eq (pc := 21) (tgt := 115) hx hb d_R_readQuoted_21 (by decide) (fun hcc => ?_) (fun hcc => ?_)
  · have hm := ift hcc hm
    exact w_R_readQuoted_115 (y0 := y0)  B hR (lx_sub (lo' := [some (.ref y0), none, none]) hl (by simp [lx_le])) I hz hc hs hm
  · have hm := iff' hcc hm
    refine q_aload_n (pc := 24) (i := 0) (v := .ref y0) hx hb d_R_readQuoted_24 rfl rfl (lx_get hl rfl) ?_
    refine ob1 hm (fun q1 e2 hm => ?_)
    refine k_getR (pc := 25) (z := 4) (k := 2) (index := 22) B hR I (by decide) (by decide) mF_R_22 rfl (fun _ _ => rfl) e2 d_R_readQuoted_25 ?_
    refine ob1 hm (fun a3 e4 hm => ?_)
    have hm_5 := hm; have hl_5 := hl; have I_5 := I
    subst e4
    have hm := hm_5; have hl := hl_5; have I := I_5
    refine oifk hm (fun hk hm => ?_)
    refine ob1 hm (fun x7 e6 hm => ?_)
    refine k_callV (pc := 28) (As := []) (rest := []) (b := a3) B hR hl rfl I (c_SB_length hR e6) kw_R_201 (by decide) hk rfl (Nat.le_of_ble_eq_true rfl) (Nat.le_of_ble_eq_true rfl) rfl (by simp [cat_i, cat_r, cat_l, va_rf_cat]) d_R_readQuoted_28 (hr0 hc) (hr0 hs) (fun H locs I => ?_)
    refine lv_bipush (pc := 31) (v := 30) hx hb d_R_readQuoted_31 (by decide) ?_
    refine lv_icmp_ge (pc := 33) (tgt := 115) hx hb d_R_readQuoted_33 (by decide) (fun hcc => ?_) (fun hcc => ?_)
    · have hm := ift hcc hm
      exact w_R_readQuoted_115 (y0 := y0)  B hR (lx_sub (lo' := [some (.ref y0), none, none]) hl (by simp [lx_le])) I hz hc hs hm
    · have hm := iff' hcc hm
      refine q_aload_n (pc := 36) (i := 0) (v := .ref y0) hx hb d_R_readQuoted_36 rfl rfl (lx_get hl rfl) ?_
      refine lv_bipush (pc := 37) (v := 34) hx hb d_R_readQuoted_37 (by decide) ?_
      refine oifk hm (fun hk hm => ?_)
      refine ob1 hm (fun x9 e8 hm => ?_)
      refine k_callV (pc := 39) (As := [.int 34]) (rest := []) (b := y0) B hR hl rfl I (c_R_goesOnInString hR e8) kw_R_202 (by decide) hk rfl (Nat.le_of_ble_eq_true rfl) (Nat.le_of_ble_eq_true rfl) rfl (by simp [cat_i, cat_r, cat_l, va_rf_cat]) d_R_readQuoted_39 (hr0 hc) (hr0 hs) (fun H locs I => ?_)
      refine lv_if_eq (pc := 42) (tgt := 115) hx hb d_R_readQuoted_42 (by decide) (fun hcc => ?_) (fun hcc => ?_)
      · have hm := ift hcc hm
        exact w_R_readQuoted_115 (y0 := y0)  B hR (lx_sub (lo' := [some (.ref y0), none, none]) hl (by simp [lx_le])) I hz hc hs hm
      · have hm := iff' hcc hm
        refine q_aload_n (pc := 45) (i := 0) (v := .ref y0) hx hb d_R_readQuoted_45 rfl rfl (lx_get hl rfl) ?_
        refine ob1 hm (fun q10 e11 hm => ?_)
        refine k_getR (pc := 46) (z := 4) (k := 0) (index := 9) B hR I (by decide) (by decide) mF_R_9 rfl (fun _ _ => rfl) e11 d_R_readQuoted_46 ?_
        refine q_aload_n (pc := 49) (i := 0) (v := .ref y0) hx hb d_R_readQuoted_49 rfl rfl (lx_get hl rfl) ?_
        refine ob1 hm (fun x12 e13 hm => ?_)
        refine k_getI (pc := 50) (z := 4) (k := 6) (index := 45) B hR I (by decide) (by decide) mF_R_45 rfl (fun _ _ => rfl) e13 d_R_readQuoted_50 ?_
        refine ob1 hm (fun a14 e15 hm => ?_)
        have hm_16 := hm; have hl_16 := hl; have I_16 := I
        subst e15
        have hm := hm_16; have hl := hl_16; have I := I_16
        refine ob1 hm (fun x17 e18 hm => ?_)
        refine k_cald (pc := 53) B hR I e18 d_R_readQuoted_53 ?_
        refine q_istore_n (pc := 54) (i := 2) (lo' := [some (.ref y0), some (.int y1), some (.int x17)]) hx hb d_R_readQuoted_54 rfl hl (Nat.le_of_ble_eq_true rfl) (lx_ci rfl) rfl (fun ls hl => ?_)
        refine lv_iload_n (pc := 55) (i := 2) hx hb d_R_readQuoted_55 rfl (lx_get hl rfl) ?_
        refine lv_bipush (pc := 56) (v := 92) hx hb d_R_readQuoted_56 (by decide) ?_
        refine lv_icmp_ne (pc := 58) (tgt := 79) hx hb d_R_readQuoted_58 (by decide) (fun hcc => ?_) (fun hcc => ?_)
        · have hm := iff' hcc hm
          exact w_R_readQuoted_79 (y0 := y0) (y2 := x17) hK20 B hR (lx_sub (lo' := [some (.ref y0), none, some (.int x17)]) hl (by simp [lx_le])) I hz hc hs hm
        · have hm := ift hcc hm
          refine q_aload_n (pc := 61) (i := 0) (v := .ref y0) hx hb d_R_readQuoted_61 rfl rfl (lx_get hl rfl) ?_
          refine lv_dup (pc := 62) hx hb d_R_readQuoted_62 rfl ?_
          refine ob1 hm (fun x19 e20 hm => ?_)
          refine k_getI (pc := 63) (z := 4) (k := 6) (index := 45) B hR I (by decide) (by decide) mF_R_45 rfl (fun _ _ => rfl) e20 d_R_readQuoted_63 ?_
          refine lv_iconst (pc := 66) (v := 1) hx hb d_R_readQuoted_66 (by decide) ?_
          refine lv_iadd (pc := 67) hx hb d_R_readQuoted_67 ?_
          refine ob1 hm (fun S21 e22 hm => ?_)
          refine k_putI (pc := 68) (z := 4) (k := 6) (index := 45) (v := (x19 + 1)) B I (by decide) (by decide) mF_R_45 rfl rfl rfl rfl cset_4_6 e22 d_R_readQuoted_68 (fun H locs I => ?_)
          refine q_aload_n (pc := 71) (i := 0) (v := .ref y0) hx hb d_R_readQuoted_71 rfl rfl (lx_get hl rfl) ?_
          refine oifk hm (fun hk hm => ?_)
          refine ob1 hm (fun x24 e23 hm => ?_)
          refine k_callV (pc := 72) (As := []) (rest := []) (b := y0) B hR hl rfl I (c_R_peek hR e23) kw_R_54 (by decide) hk rfl (Nat.le_of_ble_eq_true rfl) (Nat.le_of_ble_eq_true rfl) rfl (by simp [cat_i, cat_r, cat_l, va_rf_cat]) d_R_readQuoted_72 (hr0 hc) (hr0 hs) (fun H locs I => ?_)
          refine ob1 hm (fun x26 e25 hm => ?_)
          refine k_callS (pc := 75) (As := [.int x24]) (rest := []) B hl rfl I (c_R_escaped hR e25) kw_R_205 rfl (Nat.le_of_ble_eq_true rfl) (Nat.le_of_ble_eq_true rfl) rfl (by simp [cat_i, cat_r, cat_l, va_rf_cat]) d_R_readQuoted_75 (hr0 hc) (hr0 hs) (fun H locs I => ?_)
          refine q_istore_n (pc := 78) (i := 2) (lo' := [some (.ref y0), some (.int y1), some (.int x26)]) hx hb d_R_readQuoted_78 rfl hl (Nat.le_of_ble_eq_true rfl) (lx_ci rfl) rfl (fun ls hl => ?_)
          exact w_R_readQuoted_79 (y0 := y0) (y2 := x26) hK20 B hR (lx_sub (lo' := [some (.ref y0), none, some (.int x26)]) hl (by simp [lx_le])) I hz hc hs hm
set_option maxRecDepth 100000 in
set_option maxHeartbeats 4000000 in
theorem w_R_readQuoted_20i (B : BX p m c cb_R_readQuoted 3 s args (.code y_R_readQuoted cb_R_readQuoted 3 (some (.object "java/lang/String")) :: wsA) RZ4 meth (some (.object "java/lang/String")) D vwCl (tyL dA) b0 Z) (hR : CR b0 K Z) (k : Nat) (y0 : Nat) (y1 : Int32) (sz : Nat) (S : cS) (ls : Array Slot) (H : Heap) (locs : List Loc) (cells slots dc ds : Nat) (hl : lx ls [some (.ref y0), some (.int y1), none]) (I : AI D vwCl b0 (cH dA b0 S hp0) sz s.heap H locs) (hz : sz = sz0 + cells) (hc : cells + dc = mc) (hs : slots + ds = ms) (hm : x_R_readQuoted_20 N b0 K  k y0 y1 sz S = some (q, S', dc, ds)) : W p l e { frames := 11, cells := mc, slots := ms, locals := 293 } s m args below meth c H locs cells slots (MQ below (CQ D vwCl b0 (some (va_rf q)) (cH dA b0 S' hp0) (sz0 + mc)) args s mc ms (fun q => b0 ≤ q)) (F0 m 20 ls []) := by
  induction k generalizing y0 y1 sz S ls H locs cells slots dc ds with
  | zero => cases hm
  | succ k ih => exact w_R_readQuoted_20F  (fun y0 y1 sz S ls H locs cells slots dc ds hl I hz hc hs hm => ih y0 y1 sz S ls H locs cells slots dc ds hl I hz hc hs hm) B hR hl I hz hc hs hm
theorem w_R_readQuoted_20 {y0 : Nat} {y1 : Int32} {sz : Nat} {S : cS} (B : BX p m c cb_R_readQuoted 3 s args (.code y_R_readQuoted cb_R_readQuoted 3 (some (.object "java/lang/String")) :: wsA) RZ4 meth (some (.object "java/lang/String")) D vwCl (tyL dA) b0 Z) (hR : CR b0 K Z) (hl : lx ls [some (.ref y0), some (.int y1), none]) (I : AI D vwCl b0 (cH dA b0 S hp0) sz s.heap H locs) (hz : sz = sz0 + cells) (hc : cells + dc = mc) (hs : slots + ds = ms) {k : Nat} (hm : x_R_readQuoted_20 N b0 K  k y0 y1 sz S = some (q, S', dc, ds)) : W p l e { frames := 11, cells := mc, slots := ms, locals := 293 } s m args below meth c H locs cells slots (MQ below (CQ D vwCl b0 (some (va_rf q)) (cH dA b0 S' hp0) (sz0 + mc)) args s mc ms (fun q => b0 ≤ q)) (F0 m 20 ls []) := w_R_readQuoted_20i  B hR k _ _ sz S ls H locs _ _ _ _ hl I hz hc hs hm
def x_R_readQuoted (N b0 : Nat) (K : cS) (p0 : Nat) (sz : Nat) (S : cS) : Option (Option Nat × cS × Nat × Nat) :=
  b1 (gR b0 K S 4 2 p0) (fun q1 => b1 q1 (fun a3 => ifk b0 K S 7 a3 (b3 (x_SB_setLength N b0 K a3 0 sz S) (fun S7 c8 d9 => wr4 c8 d9 (b1 (gI b0 K S7 4 6 p0) (fun x10 => b1 (pI b0 S7 4 6 p0 (x10 + 1)) (fun S12 => x_R_readQuoted_20 N b0 K  N p0 1 (sz + c8) S12)))))))
set_option maxRecDepth 100000 in
set_option maxHeartbeats 4000000 in
theorem c_R_readQuoted {p0 : Nat} {S S' : cS} {q : Option Nat} {dc ds : Nat} (hR : CR b0 K Z) (hm : x_R_readQuoted N b0 K p0 sz S = some (q, S', dc, ds)) : Ct l D vwCl (tyL dA) b0 Z y_R_readQuoted (.code y_R_readQuoted cb_R_readQuoted 3 (some (.object "java/lang/String")) :: wsA) 11 293 [.ref p0] (cH dA b0 S hp0) sz (some (va_rf q)) (cH dA b0 S' hp0) dc ds := by
  refine ct_ofF (cc := cb_R_readQuoted) (maxL := 3) (ret := (some (.object "java/lang/String"))) (lo0 := [some (.ref p0), none, none]) hR.1 (by decide +kernel) rfl (by simp [lg_sl, cat_i, cat_r, cat_l, va_rf_cat]) rfl (by simp [lx_all, lv_args, cat_i, cat_r, cat_l, va_rf_cat]) ?_
  intro p e s m args below meth c ls B hnm hl I
  obtain ⟨hx, hb, -⟩ := B.1
  have hz : sz = sz + 0 := rfl
  have hc : 0 + dc = dc := Nat.zero_add _
  have hs : 0 + ds = ds := Nat.zero_add _
  unfold x_R_readQuoted at hm
  refine q_aload_n (pc := 0) (i := 0) (v := .ref p0) hx hb d_R_readQuoted_0 rfl rfl (lx_get hl rfl) ?_
  refine ob1 hm (fun q1 e2 hm => ?_)
  refine k_getR (pc := 1) (z := 4) (k := 2) (index := 22) B hR I (by decide) (by decide) mF_R_22 rfl (fun _ _ => rfl) e2 d_R_readQuoted_1 ?_
  refine lv_iconst (pc := 4) (v := 0) hx hb d_R_readQuoted_4 (by decide) ?_
  refine ob1 hm (fun a3 e4 hm => ?_)
  have hm_5 := hm; have hl_5 := hl; have I_5 := I
  subst e4
  have hm := hm_5; have hl := hl_5; have I := I_5
  refine oifk hm (fun hk hm => ?_)
  refine ob3 hm (fun S7 c8 d9 e6 hm => ?_)
  refine owr4 hm hc hs (fun dc ds hm hc hs => ?_)
  refine k_callV (pc := 5) (As := [.int 0]) (rest := []) (b := a3) B hR hl rfl I (c_SB_setLength hR e6) kw_R_197 (by decide) hk rfl (Nat.le_of_ble_eq_true rfl) (Nat.le_of_ble_eq_true rfl) rfl (by simp [cat_i, cat_r, cat_l, va_rf_cat]) d_R_readQuoted_5 (hr_ hc) (hr_ hs) (fun H locs I => ?_)
  have hz := hzn (n := c8) hz
  refine q_aload_n (pc := 8) (i := 0) (v := .ref p0) hx hb d_R_readQuoted_8 rfl rfl (lx_get hl rfl) ?_
  refine lv_dup (pc := 9) hx hb d_R_readQuoted_9 rfl ?_
  refine ob1 hm (fun x10 e11 hm => ?_)
  refine k_getI (pc := 10) (z := 4) (k := 6) (index := 45) B hR I (by decide) (by decide) mF_R_45 rfl (fun _ _ => rfl) e11 d_R_readQuoted_10 ?_
  refine lv_iconst (pc := 13) (v := 1) hx hb d_R_readQuoted_13 (by decide) ?_
  refine lv_iadd (pc := 14) hx hb d_R_readQuoted_14 ?_
  refine ob1 hm (fun S12 e13 hm => ?_)
  refine k_putI (pc := 15) (z := 4) (k := 6) (index := 45) (v := (x10 + 1)) B I (by decide) (by decide) mF_R_45 rfl rfl rfl rfl cset_4_6 e13 d_R_readQuoted_15 (fun H locs I => ?_)
  refine lv_iconst (pc := 18) (v := 1) hx hb d_R_readQuoted_18 (by decide) ?_
  refine q_istore_n (pc := 19) (i := 1) (lo' := [some (.ref p0), some (.int 1), none]) hx hb d_R_readQuoted_19 rfl hl (Nat.le_of_ble_eq_true rfl) (lx_cr rfl) rfl (fun ls hl => ?_)
  exact w_R_readQuoted_20 (y0 := p0) (y1 := 1)  B hR hl I hz hc hs hm
def x_R_readPlainlyQuoted_69 (N b0 : Nat) (K : cS) (y0 : Nat) (sz : Nat) (S : cS) : Option (Option Nat × cS × Nat × Nat) :=
  ifk b0 K S 4 y0 (b2 (x_R_take N b0 K y0 39 S) (fun x2 S3 => if x2 = 0 then (some (none, S3, 0, 0)) else (b1 (gR b0 K S3 4 2 y0) (fun q4 => b1 q4 (fun a6 => ifk b0 K S3 7 a6 (b4 (x_SB_toString N b0 K a6 sz S3) (fun q10 S11 c12 d13 => wr4 c12 d13 (some (q10, S11, 0, 0)))))))))
set_option maxRecDepth 100000 in
set_option maxHeartbeats 4000000 in
theorem w_R_readPlainlyQuoted_69 {y0 : Nat} {sz : Nat} {S : cS} (B : BX p m c cb_R_readPlainlyQuoted 1 s args (.code y_R_readPlainlyQuoted cb_R_readPlainlyQuoted 1 (some (.object "java/lang/String")) :: wsA) RZ4 meth (some (.object "java/lang/String")) D vwCl (tyL dA) b0 Z) (hR : CR b0 K Z) (hl : lx ls [some (.ref y0)]) (I : AI D vwCl b0 (cH dA b0 S hp0) sz s.heap H locs) (hz : sz = sz0 + cells) (hc : cells + dc = mc) (hs : slots + ds = ms) (hm : x_R_readPlainlyQuoted_69 N b0 K  y0 sz S = some (q, S', dc, ds)) : W p l e { frames := 11, cells := mc, slots := ms, locals := 293 } s m args below meth c H locs cells slots (MQ below (CQ D vwCl b0 (some (va_rf q)) (cH dA b0 S' hp0) (sz0 + mc)) args s mc ms (fun q => b0 ≤ q)) (F0 m 69 ls []) := by
  obtain ⟨hx, hb, -⟩ := B.1
  unfold x_R_readPlainlyQuoted_69 at hm
  refine q_aload_n (pc := 69) (i := 0) (v := .ref y0) hx hb d_R_readPlainlyQuoted_69 rfl rfl (lx_get hl rfl) ?_
  refine lv_bipush (pc := 70) (v := 39) hx hb d_R_readPlainlyQuoted_70 (by decide) ?_
  refine oifk hm (fun hk hm => ?_)
  refine ob2 hm (fun x2 S3 e1 hm => ?_)
  refine k_callV (pc := 72) (As := [.int 39]) (rest := []) (b := y0) B hR hl rfl I (c_R_take hR e1) kw_R_73 (by decide) hk rfl (Nat.le_of_ble_eq_true rfl) (Nat.le_of_ble_eq_true rfl) rfl (by simp [cat_i, cat_r, cat_l, va_rf_cat]) d_R_readPlainlyQuoted_72 (hr0 hc) (hr0 hs) (fun H locs I => ?_)
  refine lv_if_eq (pc := 75) (tgt := 88) hx hb d_R_readPlainlyQuoted_75 (by decide) (fun hcc => ?_) (fun hcc => ?_)
  · have hm := ift hcc hm
    refine lv_null (pc := 88) hx hb d_R_readPlainlyQuoted_88 ?_
    cases hm
    exact q_aretA (pc := 89) B I hz hc hs rfl (Or.inl ⟨_, rfl⟩) d_R_readPlainlyQuoted_89
  · have hm := iff' hcc hm
    refine q_aload_n (pc := 78) (i := 0) (v := .ref y0) hx hb d_R_readPlainlyQuoted_78 rfl rfl (lx_get hl rfl) ?_
    refine ob1 hm (fun q4 e5 hm => ?_)
    refine k_getR (pc := 79) (z := 4) (k := 2) (index := 22) B hR I (by decide) (by decide) mF_R_22 rfl (fun _ _ => rfl) e5 d_R_readPlainlyQuoted_79 ?_
    refine ob1 hm (fun a6 e7 hm => ?_)
    have hm_8 := hm; have hl_8 := hl; have I_8 := I
    subst e7
    have hm := hm_8; have hl := hl_8; have I := I_8
    refine oifk hm (fun hk hm => ?_)
    refine ob4 hm (fun q10 S11 c12 d13 e9 hm => ?_)
    refine owr4 hm hc hs (fun dc ds hm hc hs => ?_)
    refine k_callV (pc := 82) (As := []) (rest := []) (b := a6) B hR hl rfl I (c_SB_toString hR e9) kw_R_213 (by decide) hk rfl (Nat.le_of_ble_eq_true rfl) (Nat.le_of_ble_eq_true rfl) rfl (by simp [cat_i, cat_r, cat_l, va_rf_cat]) d_R_readPlainlyQuoted_82 (hr_ hc) (hr_ hs) (fun H locs I => ?_)
    have hz := hzn (n := c12) hz
    refine lv_goto (pc := 85) (tgt := 89) hx hb d_R_readPlainlyQuoted_85 (by decide) ?_
    cases hm
    exact q_aretA (pc := 89) B I hz hc hs rfl (Or.inl ⟨_, rfl⟩) d_R_readPlainlyQuoted_89
def x_R_readPlainlyQuoted_18F (N b0 : Nat) (K : cS) (K18 : Nat → Nat → cS → Option (Option Nat × cS × Nat × Nat)) (y0 : Nat) (sz : Nat) (S : cS) : Option (Option Nat × cS × Nat × Nat) :=
  b1 (gR b0 K S 4 2 y0) (fun q1 => b1 q1 (fun a3 => ifk b0 K S 7 a3 (b1 (x_SB_length N b0 K a3 S) (fun x7 => if 30 ≤ x7 then (x_R_readPlainlyQuoted_69 N b0 K  y0 sz S) else (ifk b0 K S 4 y0 (b1 (x_R_goesOnInString N b0 K y0 39 S) (fun x9 => if x9 = 0 then (x_R_readPlainlyQuoted_69 N b0 K  y0 sz S) else (b1 (gR b0 K S 4 2 y0) (fun q10 => b1 (gR b0 K S 4 0 y0) (fun q12 => b1 (gI b0 K S 4 6 y0) (fun x14 => b1 q12 (fun a16 => b1 (aL b0 K S 11 a16 x14) (fun x19 => b1 q10 (fun a21 => ifk b0 K S 7 a21 (b4 (x_SB_append N b0 K a21 x19 sz S) (fun q25 S26 c27 d28 => wr4 c27 d28 (b1 (gI b0 K S26 4 6 y0) (fun x29 => b1 (pI b0 S26 4 6 y0 (x29 + 1)) (fun S31 => K18 y0 (sz + c27) S31)))))))))))))))))))
def x_R_readPlainlyQuoted_18 (N b0 : Nat) (K : cS) : Nat → Nat → Nat → cS → Option (Option Nat × cS × Nat × Nat)
  | 0, _, _, _ => none
  | k + 1, y0, sz, S => x_R_readPlainlyQuoted_18F N b0 K  (x_R_readPlainlyQuoted_18 N b0 K  k) y0 sz S
set_option maxRecDepth 100000 in
set_option maxHeartbeats 4000000 in
theorem w_R_readPlainlyQuoted_18F {K18 : Nat → Nat → cS → Option (Option Nat × cS × Nat × Nat)} {y0 : Nat} {sz : Nat} {S : cS} (hK18 : ∀ (y0 : Nat) (sz : Nat) (S : cS) (ls : Array Slot) (H : Heap) (locs : List Loc) (cells slots dc ds : Nat), lx ls [some (.ref y0)] → AI D vwCl b0 (cH dA b0 S hp0) sz s.heap H locs → sz = sz0 + cells → cells + dc = mc → slots + ds = ms → K18 y0 sz S = some (q, S', dc, ds) → W p l e { frames := 11, cells := mc, slots := ms, locals := 293 } s m args below meth c H locs cells slots (MQ below (CQ D vwCl b0 (some (va_rf q)) (cH dA b0 S' hp0) (sz0 + mc)) args s mc ms (fun q => b0 ≤ q)) (F0 m 18 ls [])) (B : BX p m c cb_R_readPlainlyQuoted 1 s args (.code y_R_readPlainlyQuoted cb_R_readPlainlyQuoted 1 (some (.object "java/lang/String")) :: wsA) RZ4 meth (some (.object "java/lang/String")) D vwCl (tyL dA) b0 Z) (hR : CR b0 K Z) (hl : lx ls [some (.ref y0)]) (I : AI D vwCl b0 (cH dA b0 S hp0) sz s.heap H locs) (hz : sz = sz0 + cells) (hc : cells + dc = mc) (hs : slots + ds = ms) (hm : x_R_readPlainlyQuoted_18F N b0 K  K18 y0 sz S = some (q, S', dc, ds)) : W p l e { frames := 11, cells := mc, slots := ms, locals := 293 } s m args below meth c H locs cells slots (MQ below (CQ D vwCl b0 (some (va_rf q)) (cH dA b0 S' hp0) (sz0 + mc)) args s mc ms (fun q => b0 ≤ q)) (F0 m 18 ls []) := by
  obtain ⟨hx, hb, -⟩ := B.1
  unfold x_R_readPlainlyQuoted_18F at hm
  refine q_aload_n (pc := 18) (i := 0) (v := .ref y0) hx hb d_R_readPlainlyQuoted_18 rfl rfl (lx_get hl rfl) ?_
  refine ob1 hm (fun q1 e2 hm => ?_)
  refine k_getR (pc := 19) (z := 4) (k := 2) (index := 22) B hR I (by decide) (by decide) mF_R_22 rfl (fun _ _ => rfl) e2 d_R_readPlainlyQuoted_19 ?_
  refine ob1 hm (fun a3 e4 hm => ?_)
  have hm_5 := hm; have hl_5 := hl; have I_5 := I
  subst e4
  have hm := hm_5; have hl := hl_5; have I := I_5
  refine oifk hm (fun hk hm => ?_)
  refine ob1 hm (fun x7 e6 hm => ?_)
  refine k_callV (pc := 22) (As := []) (rest := []) (b := a3) B hR hl rfl I (c_SB_length hR e6) kw_R_201 (by decide) hk rfl (Nat.le_of_ble_eq_true rfl) (Nat.le_of_ble_eq_true rfl) rfl (by simp [cat_i, cat_r, cat_l, va_rf_cat]) d_R_readPlainlyQuoted_22 (hr0 hc) (hr0 hs) (fun H locs I => ?_)
  refine lv_bipush (pc := 25) (v := 30) hx hb d_R_readPlainlyQuoted_25 (by decide) ?_
  refine lv_icmp_ge (pc := 27) (tgt := 69) hx hb d_R_readPlainlyQuoted_27 (by decide) (fun hcc => ?_) (fun hcc => ?_)
  · have hm := ift hcc hm
    exact w_R_readPlainlyQuoted_69 (y0 := y0)  B hR hl I hz hc hs hm
  · have hm := iff' hcc hm
    refine q_aload_n (pc := 30) (i := 0) (v := .ref y0) hx hb d_R_readPlainlyQuoted_30 rfl rfl (lx_get hl rfl) ?_
    refine lv_bipush (pc := 31) (v := 39) hx hb d_R_readPlainlyQuoted_31 (by decide) ?_
    refine oifk hm (fun hk hm => ?_)
    refine ob1 hm (fun x9 e8 hm => ?_)
    refine k_callV (pc := 33) (As := [.int 39]) (rest := []) (b := y0) B hR hl rfl I (c_R_goesOnInString hR e8) kw_R_202 (by decide) hk rfl (Nat.le_of_ble_eq_true rfl) (Nat.le_of_ble_eq_true rfl) rfl (by simp [cat_i, cat_r, cat_l, va_rf_cat]) d_R_readPlainlyQuoted_33 (hr0 hc) (hr0 hs) (fun H locs I => ?_)
    refine lv_if_eq (pc := 36) (tgt := 69) hx hb d_R_readPlainlyQuoted_36 (by decide) (fun hcc => ?_) (fun hcc => ?_)
    · have hm := ift hcc hm
      exact w_R_readPlainlyQuoted_69 (y0 := y0)  B hR hl I hz hc hs hm
    · have hm := iff' hcc hm
      refine q_aload_n (pc := 39) (i := 0) (v := .ref y0) hx hb d_R_readPlainlyQuoted_39 rfl rfl (lx_get hl rfl) ?_
      refine ob1 hm (fun q10 e11 hm => ?_)
      refine k_getR (pc := 40) (z := 4) (k := 2) (index := 22) B hR I (by decide) (by decide) mF_R_22 rfl (fun _ _ => rfl) e11 d_R_readPlainlyQuoted_40 ?_
      refine q_aload_n (pc := 43) (i := 0) (v := .ref y0) hx hb d_R_readPlainlyQuoted_43 rfl rfl (lx_get hl rfl) ?_
      refine ob1 hm (fun q12 e13 hm => ?_)
      refine k_getR (pc := 44) (z := 4) (k := 0) (index := 9) B hR I (by decide) (by decide) mF_R_9 rfl (fun _ _ => rfl) e13 d_R_readPlainlyQuoted_44 ?_
      refine q_aload_n (pc := 47) (i := 0) (v := .ref y0) hx hb d_R_readPlainlyQuoted_47 rfl rfl (lx_get hl rfl) ?_
      refine ob1 hm (fun x14 e15 hm => ?_)
      refine k_getI (pc := 48) (z := 4) (k := 6) (index := 45) B hR I (by decide) (by decide) mF_R_45 rfl (fun _ _ => rfl) e15 d_R_readPlainlyQuoted_48 ?_
      refine ob1 hm (fun a16 e17 hm => ?_)
      have hm_18 := hm; have hl_18 := hl; have I_18 := I
      subst e17
      have hm := hm_18; have hl := hl_18; have I := I_18
      refine ob1 hm (fun x19 e20 hm => ?_)
      refine k_cald (pc := 51) B hR I e20 d_R_readPlainlyQuoted_51 ?_
      refine ob1 hm (fun a21 e22 hm => ?_)
      have hm_23 := hm; have hl_23 := hl; have I_23 := I
      subst e22
      have hm := hm_23; have hl := hl_23; have I := I_23
      refine oifk hm (fun hk hm => ?_)
      refine ob4 hm (fun q25 S26 c27 d28 e24 hm => ?_)
      refine owr4 hm hc hs (fun dc ds hm hc hs => ?_)
      refine k_callV (pc := 52) (As := [.int x19]) (rest := []) (b := a21) B hR hl rfl I (c_SB_append hR e24) kw_R_209 (by decide) hk rfl (Nat.le_of_ble_eq_true rfl) (Nat.le_of_ble_eq_true rfl) rfl (by simp [cat_i, cat_r, cat_l, va_rf_cat]) d_R_readPlainlyQuoted_52 (hr_ hc) (hr_ hs) (fun H locs I => ?_)
      have hz := hzn (n := c27) hz
      refine lv_pop (pc := 55) hx hb d_R_readPlainlyQuoted_55 (va_rf_cat _) ?_
      refine q_aload_n (pc := 56) (i := 0) (v := .ref y0) hx hb d_R_readPlainlyQuoted_56 rfl rfl (lx_get hl rfl) ?_
      refine lv_dup (pc := 57) hx hb d_R_readPlainlyQuoted_57 rfl ?_
      refine ob1 hm (fun x29 e30 hm => ?_)
      refine k_getI (pc := 58) (z := 4) (k := 6) (index := 45) B hR I (by decide) (by decide) mF_R_45 rfl (fun _ _ => rfl) e30 d_R_readPlainlyQuoted_58 ?_
      refine lv_iconst (pc := 61) (v := 1) hx hb d_R_readPlainlyQuoted_61 (by decide) ?_
      refine lv_iadd (pc := 62) hx hb d_R_readPlainlyQuoted_62 ?_
      refine ob1 hm (fun S31 e32 hm => ?_)
      refine k_putI (pc := 63) (z := 4) (k := 6) (index := 45) (v := (x29 + 1)) B I (by decide) (by decide) mF_R_45 rfl rfl rfl rfl cset_4_6 e32 d_R_readPlainlyQuoted_63 (fun H locs I => ?_)
      refine lv_goto (pc := 66) (tgt := 18) hx hb d_R_readPlainlyQuoted_66 (by decide) ?_
      exact hK18 y0 (sz + c27) S31 _ _ _ _ _ _ _ hl I hz hc hs hm
set_option maxRecDepth 100000 in
set_option maxHeartbeats 4000000 in
theorem w_R_readPlainlyQuoted_18i (B : BX p m c cb_R_readPlainlyQuoted 1 s args (.code y_R_readPlainlyQuoted cb_R_readPlainlyQuoted 1 (some (.object "java/lang/String")) :: wsA) RZ4 meth (some (.object "java/lang/String")) D vwCl (tyL dA) b0 Z) (hR : CR b0 K Z) (k : Nat) (y0 : Nat) (sz : Nat) (S : cS) (ls : Array Slot) (H : Heap) (locs : List Loc) (cells slots dc ds : Nat) (hl : lx ls [some (.ref y0)]) (I : AI D vwCl b0 (cH dA b0 S hp0) sz s.heap H locs) (hz : sz = sz0 + cells) (hc : cells + dc = mc) (hs : slots + ds = ms) (hm : x_R_readPlainlyQuoted_18 N b0 K  k y0 sz S = some (q, S', dc, ds)) : W p l e { frames := 11, cells := mc, slots := ms, locals := 293 } s m args below meth c H locs cells slots (MQ below (CQ D vwCl b0 (some (va_rf q)) (cH dA b0 S' hp0) (sz0 + mc)) args s mc ms (fun q => b0 ≤ q)) (F0 m 18 ls []) := by
  induction k generalizing y0 sz S ls H locs cells slots dc ds with
  | zero => cases hm
  | succ k ih => exact w_R_readPlainlyQuoted_18F  (fun y0 sz S ls H locs cells slots dc ds hl I hz hc hs hm => ih y0 sz S ls H locs cells slots dc ds hl I hz hc hs hm) B hR hl I hz hc hs hm
theorem w_R_readPlainlyQuoted_18 {y0 : Nat} {sz : Nat} {S : cS} (B : BX p m c cb_R_readPlainlyQuoted 1 s args (.code y_R_readPlainlyQuoted cb_R_readPlainlyQuoted 1 (some (.object "java/lang/String")) :: wsA) RZ4 meth (some (.object "java/lang/String")) D vwCl (tyL dA) b0 Z) (hR : CR b0 K Z) (hl : lx ls [some (.ref y0)]) (I : AI D vwCl b0 (cH dA b0 S hp0) sz s.heap H locs) (hz : sz = sz0 + cells) (hc : cells + dc = mc) (hs : slots + ds = ms) {k : Nat} (hm : x_R_readPlainlyQuoted_18 N b0 K  k y0 sz S = some (q, S', dc, ds)) : W p l e { frames := 11, cells := mc, slots := ms, locals := 293 } s m args below meth c H locs cells slots (MQ below (CQ D vwCl b0 (some (va_rf q)) (cH dA b0 S' hp0) (sz0 + mc)) args s mc ms (fun q => b0 ≤ q)) (F0 m 18 ls []) := w_R_readPlainlyQuoted_18i  B hR k _ sz S ls H locs _ _ _ _ hl I hz hc hs hm
def x_R_readPlainlyQuoted (N b0 : Nat) (K : cS) (p0 : Nat) (sz : Nat) (S : cS) : Option (Option Nat × cS × Nat × Nat) :=
  b1 (gR b0 K S 4 2 p0) (fun q1 => b1 q1 (fun a3 => ifk b0 K S 7 a3 (b3 (x_SB_setLength N b0 K a3 0 sz S) (fun S7 c8 d9 => wr4 c8 d9 (b1 (gI b0 K S7 4 6 p0) (fun x10 => b1 (pI b0 S7 4 6 p0 (x10 + 1)) (fun S12 => x_R_readPlainlyQuoted_18 N b0 K  N p0 (sz + c8) S12)))))))
set_option maxRecDepth 100000 in
set_option maxHeartbeats 4000000 in
theorem c_R_readPlainlyQuoted {p0 : Nat} {S S' : cS} {q : Option Nat} {dc ds : Nat} (hR : CR b0 K Z) (hm : x_R_readPlainlyQuoted N b0 K p0 sz S = some (q, S', dc, ds)) : Ct l D vwCl (tyL dA) b0 Z y_R_readPlainlyQuoted (.code y_R_readPlainlyQuoted cb_R_readPlainlyQuoted 1 (some (.object "java/lang/String")) :: wsA) 11 293 [.ref p0] (cH dA b0 S hp0) sz (some (va_rf q)) (cH dA b0 S' hp0) dc ds := by
  refine ct_ofF (cc := cb_R_readPlainlyQuoted) (maxL := 1) (ret := (some (.object "java/lang/String"))) (lo0 := [some (.ref p0)]) hR.1 (by decide +kernel) rfl (by simp [lg_sl, cat_i, cat_r, cat_l, va_rf_cat]) rfl (by simp [lx_all, lv_args, cat_i, cat_r, cat_l, va_rf_cat]) ?_
  intro p e s m args below meth c ls B hnm hl I
  obtain ⟨hx, hb, -⟩ := B.1
  have hz : sz = sz + 0 := rfl
  have hc : 0 + dc = dc := Nat.zero_add _
  have hs : 0 + ds = ds := Nat.zero_add _
  unfold x_R_readPlainlyQuoted at hm
  refine q_aload_n (pc := 0) (i := 0) (v := .ref p0) hx hb d_R_readPlainlyQuoted_0 rfl rfl (lx_get hl rfl) ?_
  refine ob1 hm (fun q1 e2 hm => ?_)
  refine k_getR (pc := 1) (z := 4) (k := 2) (index := 22) B hR I (by decide) (by decide) mF_R_22 rfl (fun _ _ => rfl) e2 d_R_readPlainlyQuoted_1 ?_
  refine lv_iconst (pc := 4) (v := 0) hx hb d_R_readPlainlyQuoted_4 (by decide) ?_
  refine ob1 hm (fun a3 e4 hm => ?_)
  have hm_5 := hm; have hl_5 := hl; have I_5 := I
  subst e4
  have hm := hm_5; have hl := hl_5; have I := I_5
  refine oifk hm (fun hk hm => ?_)
  refine ob3 hm (fun S7 c8 d9 e6 hm => ?_)
  refine owr4 hm hc hs (fun dc ds hm hc hs => ?_)
  refine k_callV (pc := 5) (As := [.int 0]) (rest := []) (b := a3) B hR hl rfl I (c_SB_setLength hR e6) kw_R_197 (by decide) hk rfl (Nat.le_of_ble_eq_true rfl) (Nat.le_of_ble_eq_true rfl) rfl (by simp [cat_i, cat_r, cat_l, va_rf_cat]) d_R_readPlainlyQuoted_5 (hr_ hc) (hr_ hs) (fun H locs I => ?_)
  have hz := hzn (n := c8) hz
  refine q_aload_n (pc := 8) (i := 0) (v := .ref p0) hx hb d_R_readPlainlyQuoted_8 rfl rfl (lx_get hl rfl) ?_
  refine lv_dup (pc := 9) hx hb d_R_readPlainlyQuoted_9 rfl ?_
  refine ob1 hm (fun x10 e11 hm => ?_)
  refine k_getI (pc := 10) (z := 4) (k := 6) (index := 45) B hR I (by decide) (by decide) mF_R_45 rfl (fun _ _ => rfl) e11 d_R_readPlainlyQuoted_10 ?_
  refine lv_iconst (pc := 13) (v := 1) hx hb d_R_readPlainlyQuoted_13 (by decide) ?_
  refine lv_iadd (pc := 14) hx hb d_R_readPlainlyQuoted_14 ?_
  refine ob1 hm (fun S12 e13 hm => ?_)
  refine k_putI (pc := 15) (z := 4) (k := 6) (index := 45) (v := (x10 + 1)) B I (by decide) (by decide) mF_R_45 rfl rfl rfl rfl cset_4_6 e13 d_R_readPlainlyQuoted_15 (fun H locs I => ?_)
  exact w_R_readPlainlyQuoted_18 (y0 := p0)  B hR hl I hz hc hs hm
def x_R_readBare_96 (N b0 : Nat) (K : cS) (y0 : Nat) (sz : Nat) (S : cS) : Option (Option Nat × cS × Nat × Nat) :=
  b1 (gI b0 K S 4 6 y0) (fun x1 => ifk b0 K S 4 y0 (b2 (x_R_wrong N b0 K y0 x1 S) (fun q4 S5 => some (none, S5, 0, 0))))
set_option maxRecDepth 100000 in
set_option maxHeartbeats 4000000 in
theorem w_R_readBare_96 {y0 : Nat} {sz : Nat} {S : cS} (B : BX p m c cb_R_readBare 1 s args (.code y_R_readBare cb_R_readBare 1 (some (.object "java/lang/String")) :: wsA) RZ4 meth (some (.object "java/lang/String")) D vwCl (tyL dA) b0 Z) (hR : CR b0 K Z) (hl : lx ls [some (.ref y0)]) (I : AI D vwCl b0 (cH dA b0 S hp0) sz s.heap H locs) (hz : sz = sz0 + cells) (hc : cells + dc = mc) (hs : slots + ds = ms) (hm : x_R_readBare_96 N b0 K  y0 sz S = some (q, S', dc, ds)) : W p l e { frames := 11, cells := mc, slots := ms, locals := 293 } s m args below meth c H locs cells slots (MQ below (CQ D vwCl b0 (some (va_rf q)) (cH dA b0 S' hp0) (sz0 + mc)) args s mc ms (fun q => b0 ≤ q)) (F0 m 96 ls []) := by
  obtain ⟨hx, hb, -⟩ := B.1
  unfold x_R_readBare_96 at hm
  refine q_aload_n (pc := 96) (i := 0) (v := .ref y0) hx hb d_R_readBare_96 rfl rfl (lx_get hl rfl) ?_
  refine q_aload_n (pc := 97) (i := 0) (v := .ref y0) hx hb d_R_readBare_97 rfl rfl (lx_get hl rfl) ?_
  refine ob1 hm (fun x1 e2 hm => ?_)
  refine k_getI (pc := 98) (z := 4) (k := 6) (index := 45) B hR I (by decide) (by decide) mF_R_45 rfl (fun _ _ => rfl) e2 d_R_readBare_98 ?_
  refine oifk hm (fun hk hm => ?_)
  refine ob2 hm (fun q4 S5 e3 hm => ?_)
  refine k_callV (pc := 101) (As := [.int x1]) (rest := []) (b := y0) B hR hl rfl I (c_R_wrong hR e3) kw_R_105 (by decide) hk rfl (Nat.le_of_ble_eq_true rfl) (Nat.le_of_ble_eq_true rfl) rfl (by simp [cat_i, cat_r, cat_l, va_rf_cat]) d_R_readBare_101 (hr0 hc) (hr0 hs) (fun H locs I => ?_)
  refine lv_pop (pc := 104) hx hb d_R_readBare_104 (va_rf_cat _) ?_
  refine lv_null (pc := 105) hx hb d_R_readBare_105 ?_
  cases hm
  exact q_aretA (pc := 106) B I hz hc hs rfl (Or.inl ⟨_, rfl⟩) d_R_readBare_106
def x_R_readBare_76 (N b0 : Nat) (K : cS) (y0 : Nat) (sz : Nat) (S : cS) : Option (Option Nat × cS × Nat × Nat) :=
  b1 (gR b0 K S 4 2 y0) (fun q1 => b1 q1 (fun a3 => ifk b0 K S 7 a3 (b1 (x_SB_length N b0 K a3 S) (fun x7 => if x7 = 0 then (x_R_readBare_96 N b0 K  y0 sz S) else (ifk b0 K S 4 y0 (b1 (x_R_peek N b0 K y0 S) (fun x9 => b1 (x_T_isBareLetter N b0 K x9 S) (fun x11 => if x11 = 0 then (b1 (gR b0 K S 4 2 y0) (fun q12 => b1 q12 (fun a14 => ifk b0 K S 7 a14 (b4 (x_SB_toString N b0 K a14 sz S) (fun q18 S19 c20 d21 => wr4 c20 d21 (some (q18, S19, 0, 0))))))) else (x_R_readBare_96 N b0 K  y0 sz S)))))))))
set_option maxRecDepth 100000 in
set_option maxHeartbeats 4000000 in
theorem w_R_readBare_76 {y0 : Nat} {sz : Nat} {S : cS} (B : BX p m c cb_R_readBare 1 s args (.code y_R_readBare cb_R_readBare 1 (some (.object "java/lang/String")) :: wsA) RZ4 meth (some (.object "java/lang/String")) D vwCl (tyL dA) b0 Z) (hR : CR b0 K Z) (hl : lx ls [some (.ref y0)]) (I : AI D vwCl b0 (cH dA b0 S hp0) sz s.heap H locs) (hz : sz = sz0 + cells) (hc : cells + dc = mc) (hs : slots + ds = ms) (hm : x_R_readBare_76 N b0 K  y0 sz S = some (q, S', dc, ds)) : W p l e { frames := 11, cells := mc, slots := ms, locals := 293 } s m args below meth c H locs cells slots (MQ below (CQ D vwCl b0 (some (va_rf q)) (cH dA b0 S' hp0) (sz0 + mc)) args s mc ms (fun q => b0 ≤ q)) (F0 m 76 ls []) := by
  obtain ⟨hx, hb, -⟩ := B.1
  unfold x_R_readBare_76 at hm
  refine q_aload_n (pc := 76) (i := 0) (v := .ref y0) hx hb d_R_readBare_76 rfl rfl (lx_get hl rfl) ?_
  refine ob1 hm (fun q1 e2 hm => ?_)
  refine k_getR (pc := 77) (z := 4) (k := 2) (index := 22) B hR I (by decide) (by decide) mF_R_22 rfl (fun _ _ => rfl) e2 d_R_readBare_77 ?_
  refine ob1 hm (fun a3 e4 hm => ?_)
  have hm_5 := hm; have hl_5 := hl; have I_5 := I
  subst e4
  have hm := hm_5; have hl := hl_5; have I := I_5
  refine oifk hm (fun hk hm => ?_)
  refine ob1 hm (fun x7 e6 hm => ?_)
  refine k_callV (pc := 80) (As := []) (rest := []) (b := a3) B hR hl rfl I (c_SB_length hR e6) kw_R_201 (by decide) hk rfl (Nat.le_of_ble_eq_true rfl) (Nat.le_of_ble_eq_true rfl) rfl (by simp [cat_i, cat_r, cat_l, va_rf_cat]) d_R_readBare_80 (hr0 hc) (hr0 hs) (fun H locs I => ?_)
  refine lv_if_eq (pc := 83) (tgt := 96) hx hb d_R_readBare_83 (by decide) (fun hcc => ?_) (fun hcc => ?_)
  · have hm := ift hcc hm
    exact w_R_readBare_96 (y0 := y0)  B hR hl I hz hc hs hm
  · have hm := iff' hcc hm
    refine q_aload_n (pc := 86) (i := 0) (v := .ref y0) hx hb d_R_readBare_86 rfl rfl (lx_get hl rfl) ?_
    refine oifk hm (fun hk hm => ?_)
    refine ob1 hm (fun x9 e8 hm => ?_)
    refine k_callV (pc := 87) (As := []) (rest := []) (b := y0) B hR hl rfl I (c_R_peek hR e8) kw_R_54 (by decide) hk rfl (Nat.le_of_ble_eq_true rfl) (Nat.le_of_ble_eq_true rfl) rfl (by simp [cat_i, cat_r, cat_l, va_rf_cat]) d_R_readBare_87 (hr0 hc) (hr0 hs) (fun H locs I => ?_)
    refine ob1 hm (fun x11 e10 hm => ?_)
    refine k_callSN (pc := 90) (As := [.int x9]) (rest := []) B hR hl rfl I (c_T_isBareLetter hR e10) kw_R_216 rfl (Nat.le_of_ble_eq_true rfl) (Nat.le_of_ble_eq_true rfl) rfl (by simp [cat_i, cat_r, cat_l, va_rf_cat]) d_R_readBare_90 (hr0 hc) (hr0 hs) (fun H locs I => ?_)
    refine lv_if_eq (pc := 93) (tgt := 107) hx hb d_R_readBare_93 (by decide) (fun hcc => ?_) (fun hcc => ?_)
    · have hm := ift hcc hm
      refine q_aload_n (pc := 107) (i := 0) (v := .ref y0) hx hb d_R_readBare_107 rfl rfl (lx_get hl rfl) ?_
      refine ob1 hm (fun q12 e13 hm => ?_)
      refine k_getR (pc := 108) (z := 4) (k := 2) (index := 22) B hR I (by decide) (by decide) mF_R_22 rfl (fun _ _ => rfl) e13 d_R_readBare_108 ?_
      refine ob1 hm (fun a14 e15 hm => ?_)
      have hm_16 := hm; have hl_16 := hl; have I_16 := I
      subst e15
      have hm := hm_16; have hl := hl_16; have I := I_16
      refine oifk hm (fun hk hm => ?_)
      refine ob4 hm (fun q18 S19 c20 d21 e17 hm => ?_)
      refine owr4 hm hc hs (fun dc ds hm hc hs => ?_)
      refine k_callV (pc := 111) (As := []) (rest := []) (b := a14) B hR hl rfl I (c_SB_toString hR e17) kw_R_213 (by decide) hk rfl (Nat.le_of_ble_eq_true rfl) (Nat.le_of_ble_eq_true rfl) rfl (by simp [cat_i, cat_r, cat_l, va_rf_cat]) d_R_readBare_111 (hr_ hc) (hr_ hs) (fun H locs I => ?_)
      have hz := hzn (n := c20) hz
      cases hm
      exact q_aretA (pc := 114) B I hz hc hs rfl (Or.inl ⟨_, rfl⟩) d_R_readBare_114
    · have hm := iff' hcc hm
      exact w_R_readBare_96 (y0 := y0)  B hR hl I hz hc hs hm
def x_R_readBare_8F (N b0 : Nat) (K : cS) (K8 : Nat → Nat → cS → Option (Option Nat × cS × Nat × Nat)) (y0 : Nat) (sz : Nat) (S : cS) : Option (Option Nat × cS × Nat × Nat) :=
  b1 (gR b0 K S 4 2 y0) (fun q1 => b1 q1 (fun a3 => ifk b0 K S 7 a3 (b1 (x_SB_length N b0 K a3 S) (fun x7 => if 30 ≤ x7 then (x_R_readBare_76 N b0 K  y0 sz S) else (b1 (gI b0 K S 4 6 y0) (fun x8 => b1 (gI b0 K S 4 1 y0) (fun x10 => if x10 ≤ x8 then (x_R_readBare_76 N b0 K  y0 sz S) else (b1 (gR b0 K S 4 0 y0) (fun q12 => b1 (gI b0 K S 4 6 y0) (fun x14 => b1 q12 (fun a16 => b1 (aL b0 K S 11 a16 x14) (fun x19 => b1 (x_T_isBareLetter N b0 K x19 S) (fun x22 => if x22 = 0 then (x_R_readBare_76 N b0 K  y0 sz S) else (b1 (gR b0 K S 4 2 y0) (fun q23 => b1 (gR b0 K S 4 0 y0) (fun q25 => b1 (gI b0 K S 4 6 y0) (fun x27 => b1 q25 (fun a29 => b1 (aL b0 K S 11 a29 x27) (fun x32 => b1 q23 (fun a34 => ifk b0 K S 7 a34 (b4 (x_SB_append N b0 K a34 x32 sz S) (fun q38 S39 c40 d41 => wr4 c40 d41 (b1 (gI b0 K S39 4 6 y0) (fun x42 => b1 (pI b0 S39 4 6 y0 (x42 + 1)) (fun S44 => K8 y0 (sz + c40) S44)))))))))))))))))))))))))
def x_R_readBare_8 (N b0 : Nat) (K : cS) : Nat → Nat → Nat → cS → Option (Option Nat × cS × Nat × Nat)
  | 0, _, _, _ => none
  | k + 1, y0, sz, S => x_R_readBare_8F N b0 K  (x_R_readBare_8 N b0 K  k) y0 sz S
set_option maxRecDepth 100000 in
set_option maxHeartbeats 4000000 in
theorem w_R_readBare_8F {K8 : Nat → Nat → cS → Option (Option Nat × cS × Nat × Nat)} {y0 : Nat} {sz : Nat} {S : cS} (hK8 : ∀ (y0 : Nat) (sz : Nat) (S : cS) (ls : Array Slot) (H : Heap) (locs : List Loc) (cells slots dc ds : Nat), lx ls [some (.ref y0)] → AI D vwCl b0 (cH dA b0 S hp0) sz s.heap H locs → sz = sz0 + cells → cells + dc = mc → slots + ds = ms → K8 y0 sz S = some (q, S', dc, ds) → W p l e { frames := 11, cells := mc, slots := ms, locals := 293 } s m args below meth c H locs cells slots (MQ below (CQ D vwCl b0 (some (va_rf q)) (cH dA b0 S' hp0) (sz0 + mc)) args s mc ms (fun q => b0 ≤ q)) (F0 m 8 ls [])) (B : BX p m c cb_R_readBare 1 s args (.code y_R_readBare cb_R_readBare 1 (some (.object "java/lang/String")) :: wsA) RZ4 meth (some (.object "java/lang/String")) D vwCl (tyL dA) b0 Z) (hR : CR b0 K Z) (hl : lx ls [some (.ref y0)]) (I : AI D vwCl b0 (cH dA b0 S hp0) sz s.heap H locs) (hz : sz = sz0 + cells) (hc : cells + dc = mc) (hs : slots + ds = ms) (hm : x_R_readBare_8F N b0 K  K8 y0 sz S = some (q, S', dc, ds)) : W p l e { frames := 11, cells := mc, slots := ms, locals := 293 } s m args below meth c H locs cells slots (MQ below (CQ D vwCl b0 (some (va_rf q)) (cH dA b0 S' hp0) (sz0 + mc)) args s mc ms (fun q => b0 ≤ q)) (F0 m 8 ls []) := by
  obtain ⟨hx, hb, -⟩ := B.1
  unfold x_R_readBare_8F at hm
  refine q_aload_n (pc := 8) (i := 0) (v := .ref y0) hx hb d_R_readBare_8 rfl rfl (lx_get hl rfl) ?_
  refine ob1 hm (fun q1 e2 hm => ?_)
  refine k_getR (pc := 9) (z := 4) (k := 2) (index := 22) B hR I (by decide) (by decide) mF_R_22 rfl (fun _ _ => rfl) e2 d_R_readBare_9 ?_
  refine ob1 hm (fun a3 e4 hm => ?_)
  have hm_5 := hm; have hl_5 := hl; have I_5 := I
  subst e4
  have hm := hm_5; have hl := hl_5; have I := I_5
  refine oifk hm (fun hk hm => ?_)
  refine ob1 hm (fun x7 e6 hm => ?_)
  refine k_callV (pc := 12) (As := []) (rest := []) (b := a3) B hR hl rfl I (c_SB_length hR e6) kw_R_201 (by decide) hk rfl (Nat.le_of_ble_eq_true rfl) (Nat.le_of_ble_eq_true rfl) rfl (by simp [cat_i, cat_r, cat_l, va_rf_cat]) d_R_readBare_12 (hr0 hc) (hr0 hs) (fun H locs I => ?_)
  refine lv_bipush (pc := 15) (v := 30) hx hb d_R_readBare_15 (by decide) ?_
  refine lv_icmp_ge (pc := 17) (tgt := 76) hx hb d_R_readBare_17 (by decide) (fun hcc => ?_) (fun hcc => ?_)
  · have hm := ift hcc hm
    exact w_R_readBare_76 (y0 := y0)  B hR hl I hz hc hs hm
  · have hm := iff' hcc hm
    refine q_aload_n (pc := 20) (i := 0) (v := .ref y0) hx hb d_R_readBare_20 rfl rfl (lx_get hl rfl) ?_
    refine ob1 hm (fun x8 e9 hm => ?_)
    refine k_getI (pc := 21) (z := 4) (k := 6) (index := 45) B hR I (by decide) (by decide) mF_R_45 rfl (fun _ _ => rfl) e9 d_R_readBare_21 ?_
    refine q_aload_n (pc := 24) (i := 0) (v := .ref y0) hx hb d_R_readBare_24 rfl rfl (lx_get hl rfl) ?_
    refine ob1 hm (fun x10 e11 hm => ?_)
    refine k_getI (pc := 25) (z := 4) (k := 1) (index := 15) B hR I (by decide) (by decide) mF_R_15 rfl (fun _ _ => rfl) e11 d_R_readBare_25 ?_
    refine lv_icmp_ge (pc := 28) (tgt := 76) hx hb d_R_readBare_28 (by decide) (fun hcc => ?_) (fun hcc => ?_)
    · have hm := ift hcc hm
      exact w_R_readBare_76 (y0 := y0)  B hR hl I hz hc hs hm
    · have hm := iff' hcc hm
      refine q_aload_n (pc := 31) (i := 0) (v := .ref y0) hx hb d_R_readBare_31 rfl rfl (lx_get hl rfl) ?_
      refine ob1 hm (fun q12 e13 hm => ?_)
      refine k_getR (pc := 32) (z := 4) (k := 0) (index := 9) B hR I (by decide) (by decide) mF_R_9 rfl (fun _ _ => rfl) e13 d_R_readBare_32 ?_
      refine q_aload_n (pc := 35) (i := 0) (v := .ref y0) hx hb d_R_readBare_35 rfl rfl (lx_get hl rfl) ?_
      refine ob1 hm (fun x14 e15 hm => ?_)
      refine k_getI (pc := 36) (z := 4) (k := 6) (index := 45) B hR I (by decide) (by decide) mF_R_45 rfl (fun _ _ => rfl) e15 d_R_readBare_36 ?_
      refine ob1 hm (fun a16 e17 hm => ?_)
      have hm_18 := hm; have hl_18 := hl; have I_18 := I
      subst e17
      have hm := hm_18; have hl := hl_18; have I := I_18
      refine ob1 hm (fun x19 e20 hm => ?_)
      refine k_cald (pc := 39) B hR I e20 d_R_readBare_39 ?_
      refine ob1 hm (fun x22 e21 hm => ?_)
      refine k_callSN (pc := 40) (As := [.int x19]) (rest := []) B hR hl rfl I (c_T_isBareLetter hR e21) kw_R_216 rfl (Nat.le_of_ble_eq_true rfl) (Nat.le_of_ble_eq_true rfl) rfl (by simp [cat_i, cat_r, cat_l, va_rf_cat]) d_R_readBare_40 (hr0 hc) (hr0 hs) (fun H locs I => ?_)
      refine lv_if_eq (pc := 43) (tgt := 76) hx hb d_R_readBare_43 (by decide) (fun hcc => ?_) (fun hcc => ?_)
      · have hm := ift hcc hm
        exact w_R_readBare_76 (y0 := y0)  B hR hl I hz hc hs hm
      · have hm := iff' hcc hm
        refine q_aload_n (pc := 46) (i := 0) (v := .ref y0) hx hb d_R_readBare_46 rfl rfl (lx_get hl rfl) ?_
        refine ob1 hm (fun q23 e24 hm => ?_)
        refine k_getR (pc := 47) (z := 4) (k := 2) (index := 22) B hR I (by decide) (by decide) mF_R_22 rfl (fun _ _ => rfl) e24 d_R_readBare_47 ?_
        refine q_aload_n (pc := 50) (i := 0) (v := .ref y0) hx hb d_R_readBare_50 rfl rfl (lx_get hl rfl) ?_
        refine ob1 hm (fun q25 e26 hm => ?_)
        refine k_getR (pc := 51) (z := 4) (k := 0) (index := 9) B hR I (by decide) (by decide) mF_R_9 rfl (fun _ _ => rfl) e26 d_R_readBare_51 ?_
        refine q_aload_n (pc := 54) (i := 0) (v := .ref y0) hx hb d_R_readBare_54 rfl rfl (lx_get hl rfl) ?_
        refine ob1 hm (fun x27 e28 hm => ?_)
        refine k_getI (pc := 55) (z := 4) (k := 6) (index := 45) B hR I (by decide) (by decide) mF_R_45 rfl (fun _ _ => rfl) e28 d_R_readBare_55 ?_
        refine ob1 hm (fun a29 e30 hm => ?_)
        have hm_31 := hm; have hl_31 := hl; have I_31 := I
        subst e30
        have hm := hm_31; have hl := hl_31; have I := I_31
        refine ob1 hm (fun x32 e33 hm => ?_)
        refine k_cald (pc := 58) B hR I e33 d_R_readBare_58 ?_
        refine ob1 hm (fun a34 e35 hm => ?_)
        have hm_36 := hm; have hl_36 := hl; have I_36 := I
        subst e35
        have hm := hm_36; have hl := hl_36; have I := I_36
        refine oifk hm (fun hk hm => ?_)
        refine ob4 hm (fun q38 S39 c40 d41 e37 hm => ?_)
        refine owr4 hm hc hs (fun dc ds hm hc hs => ?_)
        refine k_callV (pc := 59) (As := [.int x32]) (rest := []) (b := a34) B hR hl rfl I (c_SB_append hR e37) kw_R_209 (by decide) hk rfl (Nat.le_of_ble_eq_true rfl) (Nat.le_of_ble_eq_true rfl) rfl (by simp [cat_i, cat_r, cat_l, va_rf_cat]) d_R_readBare_59 (hr_ hc) (hr_ hs) (fun H locs I => ?_)
        have hz := hzn (n := c40) hz
        refine lv_pop (pc := 62) hx hb d_R_readBare_62 (va_rf_cat _) ?_
        refine q_aload_n (pc := 63) (i := 0) (v := .ref y0) hx hb d_R_readBare_63 rfl rfl (lx_get hl rfl) ?_
        refine lv_dup (pc := 64) hx hb d_R_readBare_64 rfl ?_
        refine ob1 hm (fun x42 e43 hm => ?_)
        refine k_getI (pc := 65) (z := 4) (k := 6) (index := 45) B hR I (by decide) (by decide) mF_R_45 rfl (fun _ _ => rfl) e43 d_R_readBare_65 ?_
        refine lv_iconst (pc := 68) (v := 1) hx hb d_R_readBare_68 (by decide) ?_
        refine lv_iadd (pc := 69) hx hb d_R_readBare_69 ?_
        refine ob1 hm (fun S44 e45 hm => ?_)
        refine k_putI (pc := 70) (z := 4) (k := 6) (index := 45) (v := (x42 + 1)) B I (by decide) (by decide) mF_R_45 rfl rfl rfl rfl cset_4_6 e45 d_R_readBare_70 (fun H locs I => ?_)
        refine lv_goto (pc := 73) (tgt := 8) hx hb d_R_readBare_73 (by decide) ?_
        exact hK8 y0 (sz + c40) S44 _ _ _ _ _ _ _ hl I hz hc hs hm
set_option maxRecDepth 100000 in
set_option maxHeartbeats 4000000 in
theorem w_R_readBare_8i (B : BX p m c cb_R_readBare 1 s args (.code y_R_readBare cb_R_readBare 1 (some (.object "java/lang/String")) :: wsA) RZ4 meth (some (.object "java/lang/String")) D vwCl (tyL dA) b0 Z) (hR : CR b0 K Z) (k : Nat) (y0 : Nat) (sz : Nat) (S : cS) (ls : Array Slot) (H : Heap) (locs : List Loc) (cells slots dc ds : Nat) (hl : lx ls [some (.ref y0)]) (I : AI D vwCl b0 (cH dA b0 S hp0) sz s.heap H locs) (hz : sz = sz0 + cells) (hc : cells + dc = mc) (hs : slots + ds = ms) (hm : x_R_readBare_8 N b0 K  k y0 sz S = some (q, S', dc, ds)) : W p l e { frames := 11, cells := mc, slots := ms, locals := 293 } s m args below meth c H locs cells slots (MQ below (CQ D vwCl b0 (some (va_rf q)) (cH dA b0 S' hp0) (sz0 + mc)) args s mc ms (fun q => b0 ≤ q)) (F0 m 8 ls []) := by
  induction k generalizing y0 sz S ls H locs cells slots dc ds with
  | zero => cases hm
  | succ k ih => exact w_R_readBare_8F  (fun y0 sz S ls H locs cells slots dc ds hl I hz hc hs hm => ih y0 sz S ls H locs cells slots dc ds hl I hz hc hs hm) B hR hl I hz hc hs hm
theorem w_R_readBare_8 {y0 : Nat} {sz : Nat} {S : cS} (B : BX p m c cb_R_readBare 1 s args (.code y_R_readBare cb_R_readBare 1 (some (.object "java/lang/String")) :: wsA) RZ4 meth (some (.object "java/lang/String")) D vwCl (tyL dA) b0 Z) (hR : CR b0 K Z) (hl : lx ls [some (.ref y0)]) (I : AI D vwCl b0 (cH dA b0 S hp0) sz s.heap H locs) (hz : sz = sz0 + cells) (hc : cells + dc = mc) (hs : slots + ds = ms) {k : Nat} (hm : x_R_readBare_8 N b0 K  k y0 sz S = some (q, S', dc, ds)) : W p l e { frames := 11, cells := mc, slots := ms, locals := 293 } s m args below meth c H locs cells slots (MQ below (CQ D vwCl b0 (some (va_rf q)) (cH dA b0 S' hp0) (sz0 + mc)) args s mc ms (fun q => b0 ≤ q)) (F0 m 8 ls []) := w_R_readBare_8i  B hR k _ sz S ls H locs _ _ _ _ hl I hz hc hs hm
def x_R_readBare (N b0 : Nat) (K : cS) (p0 : Nat) (sz : Nat) (S : cS) : Option (Option Nat × cS × Nat × Nat) :=
  b1 (gR b0 K S 4 2 p0) (fun q1 => b1 q1 (fun a3 => ifk b0 K S 7 a3 (b3 (x_SB_setLength N b0 K a3 0 sz S) (fun S7 c8 d9 => wr4 c8 d9 (x_R_readBare_8 N b0 K  N p0 (sz + c8) S7)))))
set_option maxRecDepth 100000 in
set_option maxHeartbeats 4000000 in
theorem c_R_readBare {p0 : Nat} {S S' : cS} {q : Option Nat} {dc ds : Nat} (hR : CR b0 K Z) (hm : x_R_readBare N b0 K p0 sz S = some (q, S', dc, ds)) : Ct l D vwCl (tyL dA) b0 Z y_R_readBare (.code y_R_readBare cb_R_readBare 1 (some (.object "java/lang/String")) :: wsA) 11 293 [.ref p0] (cH dA b0 S hp0) sz (some (va_rf q)) (cH dA b0 S' hp0) dc ds := by
  refine ct_ofF (cc := cb_R_readBare) (maxL := 1) (ret := (some (.object "java/lang/String"))) (lo0 := [some (.ref p0)]) hR.1 (by decide +kernel) rfl (by simp [lg_sl, cat_i, cat_r, cat_l, va_rf_cat]) rfl (by simp [lx_all, lv_args, cat_i, cat_r, cat_l, va_rf_cat]) ?_
  intro p e s m args below meth c ls B hnm hl I
  obtain ⟨hx, hb, -⟩ := B.1
  have hz : sz = sz + 0 := rfl
  have hc : 0 + dc = dc := Nat.zero_add _
  have hs : 0 + ds = ds := Nat.zero_add _
  unfold x_R_readBare at hm
  refine q_aload_n (pc := 0) (i := 0) (v := .ref p0) hx hb d_R_readBare_0 rfl rfl (lx_get hl rfl) ?_
  refine ob1 hm (fun q1 e2 hm => ?_)
  refine k_getR (pc := 1) (z := 4) (k := 2) (index := 22) B hR I (by decide) (by decide) mF_R_22 rfl (fun _ _ => rfl) e2 d_R_readBare_1 ?_
  refine lv_iconst (pc := 4) (v := 0) hx hb d_R_readBare_4 (by decide) ?_
  refine ob1 hm (fun a3 e4 hm => ?_)
  have hm_5 := hm; have hl_5 := hl; have I_5 := I
  subst e4
  have hm := hm_5; have hl := hl_5; have I := I_5
  refine oifk hm (fun hk hm => ?_)
  refine ob3 hm (fun S7 c8 d9 e6 hm => ?_)
  refine owr4 hm hc hs (fun dc ds hm hc hs => ?_)
  refine k_callV (pc := 5) (As := [.int 0]) (rest := []) (b := a3) B hR hl rfl I (c_SB_setLength hR e6) kw_R_197 (by decide) hk rfl (Nat.le_of_ble_eq_true rfl) (Nat.le_of_ble_eq_true rfl) rfl (by simp [cat_i, cat_r, cat_l, va_rf_cat]) d_R_readBare_5 (hr_ hc) (hr_ hs) (fun H locs I => ?_)
  have hz := hzn (n := c8) hz
  exact w_R_readBare_8 (y0 := p0)  B hR hl I hz hc hs hm
def x_R_readString_20 (N b0 : Nat) (K : cS) (z0 : Option Nat) (sz : Nat) (S : cS) : Option (Option Nat × cS × Nat × Nat) :=
  om z0 (some (none, S, 0, 0)) (fun a2 => wr4 1 8 (b1 (nOo b0 S 2 sz) (fun S3 => ifk b0 K S3 6 a2 (b1 (x_Str_length N b0 K a2 S3) (fun x6 => b1 (x_N_init N b0 K sz 3 x6 S3) (fun S8 => b1 (pR b0 S8 2 2 sz (some a2)) (fun S9 => some (some sz, S9, 0, 0))))))))
set_option maxRecDepth 100000 in
set_option maxHeartbeats 4000000 in
theorem w_R_readString_20 {z0 : Option Nat} {sz : Nat} {S : cS} (B : BX p m c cb_R_readString 3 s args (.code y_R_readString cb_R_readString 3 (some (.object "TableText$Node")) :: wsA) RZ4 meth (some (.object "TableText$Node")) D vwCl (tyL dA) b0 Z) (hR : CR b0 K Z) (hl : lx ls [none, none, none]) (I : AI D vwCl b0 (cH dA b0 S hp0) sz s.heap H locs) (hz : sz = sz0 + cells) (hc : cells + dc = mc) (hs : slots + ds = ms) (hm : x_R_readString_20 N b0 K  z0 sz S = some (q, S', dc, ds)) : W p l e { frames := 12, cells := mc, slots := ms, locals := 315 } s m args below meth c H locs cells slots (MQ below (CQ D vwCl b0 (some (va_rf q)) (cH dA b0 S' hp0) (sz0 + mc)) args s mc ms (fun q => b0 ≤ q)) (F0 m 20 ls [va_rf z0]) := by
  obtain ⟨hx, hb, -⟩ := B.1
  unfold x_R_readString_20 at hm
  refine q_astore_n (pc := 20) (i := 1) (v := va_rf z0) (lo' := [none, some (va_rf z0), none]) hx hb d_R_readString_20 rfl (va_rf_isRef _) hl (Nat.le_of_ble_eq_true rfl) (lx_cn rfl) rfl (fun ls hl => ?_)
  refine q_aload_n (pc := 21) (i := 1) (v := va_rf z0) hx hb d_R_readString_21 rfl (va_rf_isRef _) (lx_get hl rfl) ?_
  refine oom hm (fun e1 hm => ?_) (fun a2 e1 hm => ?_)
  · have hm_11 := hm; have hl_11 := hl; have I_11 := I
    subst e1
    have hm := hm_11; have hl := hl_11; have I := I_11
    refine lv_ifnonnullN (pc := 22) hx hb d_R_readString_22 ?_
    refine lv_null (pc := 25) hx hb d_R_readString_25 ?_
    cases hm
    exact q_aretA (pc := 26) B I hz hc hs rfl (Or.inl ⟨_, rfl⟩) d_R_readString_26
  · have hm_11 := hm; have hl_11 := hl; have I_11 := I
    subst e1
    have hm := hm_11; have hl := hl_11; have I := I_11
    refine lv_ifnonnull (pc := 22) (tgt := 27) hx hb d_R_readString_22 (by decide) ?_
    refine owr4 hm hc hs (fun dc ds hm hc hs => ?_)
    refine ob1 hm (fun S3 e4 hm => ?_)
    refine k_new (pc := 27) (z := 2) (index := 33) (n := 8) B I (by decide) mC_R_33 mI_2 mN_2 nf_2 (hr_ hc) (hr_ hs) e4 d_R_readString_27 (fun H I => ?_)
    have hz := hzn (n := 1) hz
    refine lv_dup (pc := 30) hx hb d_R_readString_30 rfl ?_
    refine lv_iconst (pc := 31) (v := 3) hx hb d_R_readString_31 (by decide) ?_
    refine q_aload_n (pc := 32) (i := 1) (v := .ref a2) hx hb d_R_readString_32 rfl rfl (lx_get hl rfl) ?_
    refine oifk hm (fun hk hm => ?_)
    refine ob1 hm (fun x6 e5 hm => ?_)
    refine k_callV (pc := 33) (As := []) (rest := [.int 3, .ref sz, .ref sz]) (b := a2) B hR hl rfl I (c_Str_length hR e5) kw_R_191 (by decide) hk rfl (Nat.le_of_ble_eq_true rfl) (Nat.le_of_ble_eq_true rfl) rfl (by simp [cat_i, cat_r, cat_l, va_rf_cat]) d_R_readString_33 (hr0 hc) (hr0 hs) (fun H locs I => ?_)
    refine ob1 hm (fun S8 e7 hm => ?_)
    refine k_callIN (pc := 36) (As := [.int 3, .int x6]) (rest := [.ref sz]) (b := sz) B hR hl rfl I (c_N_init hR e7) kw_R_35 rfl (Nat.le_of_ble_eq_true rfl) (Nat.le_of_ble_eq_true rfl) rfl (by simp [cat_i, cat_r, cat_l, va_rf_cat]) d_R_readString_36 (hr0 hc) (hr0 hs) (fun H locs I => ?_)
    refine q_astore_n (pc := 39) (i := 2) (v := .ref sz) (lo' := [none, some (.ref a2), some (.ref sz)]) hx hb d_R_readString_39 rfl rfl hl (Nat.le_of_ble_eq_true rfl) (lx_cr rfl) rfl (fun ls hl => ?_)
    refine q_aload_n (pc := 40) (i := 2) (v := .ref sz) hx hb d_R_readString_40 rfl rfl (lx_get hl rfl) ?_
    refine q_aload_n (pc := 41) (i := 1) (v := .ref a2) hx hb d_R_readString_41 rfl rfl (lx_get hl rfl) ?_
    refine ob1 hm (fun S9 e10 hm => ?_)
    refine k_putRN (pc := 42) (z := 2) (k := 2) (index := 195) (v := (some a2)) B hR I (by decide) (by decide) nF_R_195 rfl rfl (Or.inl ⟨_, rfl⟩) cset_2_2 e10 d_R_readString_42 (fun H locs I => ?_)
    refine q_aload_n (pc := 45) (i := 2) (v := .ref sz) hx hb d_R_readString_45 rfl rfl (lx_get hl rfl) ?_
    cases hm
    exact q_aretA (pc := 46) B I hz hc hs rfl (Or.inl ⟨_, rfl⟩) d_R_readString_46
def x_R_readString (N b0 : Nat) (K : cS) (p0 : Nat) (sz : Nat) (S : cS) : Option (Option Nat × cS × Nat × Nat) :=
  ifk b0 K S 4 p0 (b1 (x_R_peek N b0 K p0 S) (fun x2 => if x2 = 34 then (ifk b0 K S 4 p0 (b4 (x_R_readQuoted N b0 K p0 sz S) (fun q9 S10 c11 d12 => wr4 c11 d12 (x_R_readString_20 N b0 K  q9 (sz + c11) S10)))) else (ifk b0 K S 4 p0 (b4 (x_R_readPlainlyQuoted N b0 K p0 sz S) (fun q4 S5 c6 d7 => wr4 c6 d7 (x_R_readString_20 N b0 K  q4 (sz + c6) S5))))))
set_option maxRecDepth 100000 in
set_option maxHeartbeats 4000000 in
theorem c_R_readString {p0 : Nat} {S S' : cS} {q : Option Nat} {dc ds : Nat} (hR : CR b0 K Z) (hm : x_R_readString N b0 K p0 sz S = some (q, S', dc, ds)) : Ct l D vwCl (tyL dA) b0 Z y_R_readString (.code y_R_readString cb_R_readString 3 (some (.object "TableText$Node")) :: wsA) 12 315 [.ref p0] (cH dA b0 S hp0) sz (some (va_rf q)) (cH dA b0 S' hp0) dc ds := by
  refine ct_ofF (cc := cb_R_readString) (maxL := 3) (ret := (some (.object "TableText$Node"))) (lo0 := [some (.ref p0), none, none]) hR.1 (by decide +kernel) rfl (by simp [lg_sl, cat_i, cat_r, cat_l, va_rf_cat]) rfl (by simp [lx_all, lv_args, cat_i, cat_r, cat_l, va_rf_cat]) ?_
  intro p e s m args below meth c ls B hnm hl I
  obtain ⟨hx, hb, -⟩ := B.1
  have hz : sz = sz + 0 := rfl
  have hc : 0 + dc = dc := Nat.zero_add _
  have hs : 0 + ds = ds := Nat.zero_add _
  unfold x_R_readString at hm
  refine q_aload_n (pc := 0) (i := 0) (v := .ref p0) hx hb d_R_readString_0 rfl rfl (lx_get hl rfl) ?_
  refine oifk hm (fun hk hm => ?_)
  refine ob1 hm (fun x2 e1 hm => ?_)
  refine k_callV (pc := 1) (As := []) (rest := []) (b := p0) B hR hl rfl I (c_R_peek hR e1) kw_R_54 (by decide) hk rfl (Nat.le_of_ble_eq_true rfl) (Nat.le_of_ble_eq_true rfl) rfl (by simp [cat_i, cat_r, cat_l, va_rf_cat]) d_R_readString_1 (hr0 hc) (hr0 hs) (fun H locs I => ?_)
  refine lv_bipush (pc := 4) (v := 34) hx hb d_R_readString_4 (by decide) ?_
  refine lv_icmp_ne (pc := 6) (tgt := 16) hx hb d_R_readString_6 (by decide) (fun hcc => ?_) (fun hcc => ?_)
  · have hm := iff' hcc hm
    refine q_aload_n (pc := 16) (i := 0) (v := .ref p0) hx hb d_R_readString_16 rfl rfl (lx_get hl rfl) ?_
    refine oifk hm (fun hk hm => ?_)
    refine ob4 hm (fun q4 S5 c6 d7 e3 hm => ?_)
    refine owr4 hm hc hs (fun dc ds hm hc hs => ?_)
    refine k_callV (pc := 17) (As := []) (rest := []) (b := p0) B hR hl rfl I (c_R_readPlainlyQuoted hR e3) kw_R_188 (by decide) hk rfl (Nat.le_of_ble_eq_true rfl) (Nat.le_of_ble_eq_true rfl) rfl (by simp [cat_i, cat_r, cat_l, va_rf_cat]) d_R_readString_17 (hr_ hc) (hr_ hs) (fun H locs I => ?_)
    have hz := hzn (n := c6) hz
    exact w_R_readString_20 (z0 := q4)  B hR (lx_sub (lo' := [none, none, none]) hl (by simp [lx_le])) I hz hc hs hm
  · have hm := ift hcc hm
    refine q_aload_n (pc := 9) (i := 0) (v := .ref p0) hx hb d_R_readString_9 rfl rfl (lx_get hl rfl) ?_
    refine oifk hm (fun hk hm => ?_)
    refine ob4 hm (fun q9 S10 c11 d12 e8 hm => ?_)
    refine owr4 hm hc hs (fun dc ds hm hc hs => ?_)
    refine k_callV (pc := 10) (As := []) (rest := []) (b := p0) B hR hl rfl I (c_R_readQuoted hR e8) kw_R_117 (by decide) hk rfl (Nat.le_of_ble_eq_true rfl) (Nat.le_of_ble_eq_true rfl) rfl (by simp [cat_i, cat_r, cat_l, va_rf_cat]) d_R_readString_10 (hr_ hc) (hr_ hs) (fun H locs I => ?_)
    have hz := hzn (n := c11) hz
    refine lv_goto (pc := 13) (tgt := 20) hx hb d_R_readString_13 (by decide) ?_
    exact w_R_readString_20 (z0 := q9)  B hR (lx_sub (lo' := [none, none, none]) hl (by simp [lx_le])) I hz hc hs hm
def x_R_readPath_125 (N b0 : Nat) (K : cS) (K9 : Nat → Option Nat → Option Nat → Int32 → Int32 → Nat → cS → Option (Option Nat × cS × Nat × Nat)) (y0 : Nat) (y1 : Option Nat) (y2 : Nat) (y3 : Int32) (y4 : Int32) (sz : Nat) (S : cS) : Option (Option Nat × cS × Nat × Nat) :=
  K9 y0 y1 (some y2) y3 (y4 + 1) sz S
set_option maxRecDepth 100000 in
set_option maxHeartbeats 4000000 in
theorem w_R_readPath_125 {K9 : Nat → Option Nat → Option Nat → Int32 → Int32 → Nat → cS → Option (Option Nat × cS × Nat × Nat)} {y0 : Nat} {y1 : Option Nat} {y2 : Nat} {y3 : Int32} {y4 : Int32} {sz : Nat} {S : cS} (hK9 : ∀ (y0 : Nat) (y1 : Option Nat) (y2 : Option Nat) (y3 : Int32) (y4 : Int32) (sz : Nat) (S : cS) (ls : Array Slot) (H : Heap) (locs : List Loc) (cells slots dc ds : Nat), lx ls [some (.ref y0), some (va_rf y1), some (va_rf y2), some (.int y3), some (.int y4), none, none, none] → AI D vwCl b0 (cH dA b0 S hp0) sz s.heap H locs → sz = sz0 + cells → cells + dc = mc → slots + ds = ms → K9 y0 y1 y2 y3 y4 sz S = some (q, S', dc, ds) → W p l e { frames := 12, cells := mc, slots := ms, locals := 315 } s m args below meth c H locs cells slots (MQ below (CQ D vwCl b0 (some (va_rf q)) (cH dA b0 S' hp0) (sz0 + mc)) args s mc ms (fun q => b0 ≤ q)) (F0 m 9 ls [])) (B : BX p m c cb_R_readPath 8 s args (.code y_R_readPath cb_R_readPath 8 (some (.object "TableText$Step")) :: wsA) RZ4 meth (some (.object "TableText$Step")) D vwCl (tyL dA) b0 Z) (hR : CR b0 K Z) (hl : lx ls [some (.ref y0), some (va_rf y1), some (.ref y2), some (.int y3), some (.int y4), none, none, none]) (I : AI D vwCl b0 (cH dA b0 S hp0) sz s.heap H locs) (hz : sz = sz0 + cells) (hc : cells + dc = mc) (hs : slots + ds = ms) (hm : x_R_readPath_125 N b0 K K9 y0 y1 y2 y3 y4 sz S = some (q, S', dc, ds)) : W p l e { frames := 12, cells := mc, slots := ms, locals := 315 } s m args below meth c H locs cells slots (MQ below (CQ D vwCl b0 (some (va_rf q)) (cH dA b0 S' hp0) (sz0 + mc)) args s mc ms (fun q => b0 ≤ q)) (F0 m 125 ls []) := by
  obtain ⟨hx, hb, -⟩ := B.1
  unfold x_R_readPath_125 at hm
  refine q_iinc (pc := 125) (i := 4) (v := y4 + 1) (lo' := [some (.ref y0), some (va_rf y1), some (.ref y2), some (.int y3), some (.int (y4 + 1)), none, none, none]) hx hb d_R_readPath_125 hl rfl rfl (Nat.le_of_ble_eq_true rfl) (lx_ci rfl) rfl (fun ls hl => ?_)
  refine lv_goto (pc := 128) (tgt := 9) hx hb d_R_readPath_128 (by decide) ?_
  exact hK9 y0 y1 (some y2) y3 (y4 + 1) sz S _ _ _ _ _ _ _ hl I hz hc hs hm
def x_R_readPath_106 (N b0 : Nat) (K : cS) (K9 : Nat → Option Nat → Option Nat → Int32 → Int32 → Nat → cS → Option (Option Nat × cS × Nat × Nat)) (y0 : Nat) (y1 : Option Nat) (y2 : Nat) (y4 : Int32) (z0 : Int32) (sz : Nat) (S : cS) : Option (Option Nat × cS × Nat × Nat) :=
  if z0 = 0 then (x_R_readPath_125 N b0 K K9 y0 y1 y2 z0 y4 sz S) else (b1 (gI b0 K S 4 6 y0) (fun x1 => b1 (pI b0 S 4 6 y0 (x1 + 1)) (fun S3 => ifk b0 K S3 4 y0 (b1 (x_R_skipBlanks N b0 K y0 S3) (fun S6 => x_R_readPath_125 N b0 K K9 y0 y1 y2 z0 y4 sz S6)))))
set_option maxRecDepth 100000 in
set_option maxHeartbeats 4000000 in
theorem w_R_readPath_106 {K9 : Nat → Option Nat → Option Nat → Int32 → Int32 → Nat → cS → Option (Option Nat × cS × Nat × Nat)} {y0 : Nat} {y1 : Option Nat} {y2 : Nat} {y4 : Int32} {z0 : Int32} {sz : Nat} {S : cS} (hK9 : ∀ (y0 : Nat) (y1 : Option Nat) (y2 : Option Nat) (y3 : Int32) (y4 : Int32) (sz : Nat) (S : cS) (ls : Array Slot) (H : Heap) (locs : List Loc) (cells slots dc ds : Nat), lx ls [some (.ref y0), some (va_rf y1), some (va_rf y2), some (.int y3), some (.int y4), none, none, none] → AI D vwCl b0 (cH dA b0 S hp0) sz s.heap H locs → sz = sz0 + cells → cells + dc = mc → slots + ds = ms → K9 y0 y1 y2 y3 y4 sz S = some (q, S', dc, ds) → W p l e { frames := 12, cells := mc, slots := ms, locals := 315 } s m args below meth c H locs cells slots (MQ below (CQ D vwCl b0 (some (va_rf q)) (cH dA b0 S' hp0) (sz0 + mc)) args s mc ms (fun q => b0 ≤ q)) (F0 m 9 ls [])) (B : BX p m c cb_R_readPath 8 s args (.code y_R_readPath cb_R_readPath 8 (some (.object "TableText$Step")) :: wsA) RZ4 meth (some (.object "TableText$Step")) D vwCl (tyL dA) b0 Z) (hR : CR b0 K Z) (hl : lx ls [some (.ref y0), some (va_rf y1), some (.ref y2), none, some (.int y4), none, none, none]) (I : AI D vwCl b0 (cH dA b0 S hp0) sz s.heap H locs) (hz : sz = sz0 + cells) (hc : cells + dc = mc) (hs : slots + ds = ms) (hm : x_R_readPath_106 N b0 K K9 y0 y1 y2 y4 z0 sz S = some (q, S', dc, ds)) : W p l e { frames := 12, cells := mc, slots := ms, locals := 315 } s m args below meth c H locs cells slots (MQ below (CQ D vwCl b0 (some (va_rf q)) (cH dA b0 S' hp0) (sz0 + mc)) args s mc ms (fun q => b0 ≤ q)) (F0 m 106 ls [.int z0]) := by
  obtain ⟨hx, hb, -⟩ := B.1
  unfold x_R_readPath_106 at hm
  refine q_istore_n (pc := 106) (i := 3) (lo' := [some (.ref y0), some (va_rf y1), some (.ref y2), some (.int z0), some (.int y4), none, none, none]) hx hb d_R_readPath_106 rfl hl (Nat.le_of_ble_eq_true rfl) (lx_cr rfl) rfl (fun ls hl => ?_)
  refine lv_iload_n (pc := 107) (i := 3) hx hb d_R_readPath_107 rfl (lx_get hl rfl) ?_
  refine lv_if_eq (pc := 108) (tgt := 125) hx hb d_R_readPath_108 (by decide) (fun hcc => ?_) (fun hcc => ?_)
  · have hm := ift hcc hm
    exact w_R_readPath_125 (y0 := y0) (y1 := y1) (y2 := y2) (y3 := z0) (y4 := y4) hK9 B hR hl I hz hc hs hm
  · have hm := iff' hcc hm
    refine q_aload_n (pc := 111) (i := 0) (v := .ref y0) hx hb d_R_readPath_111 rfl rfl (lx_get hl rfl) ?_
    refine lv_dup (pc := 112) hx hb d_R_readPath_112 rfl ?_
    refine ob1 hm (fun x1 e2 hm => ?_)
    refine k_getI (pc := 113) (z := 4) (k := 6) (index := 45) B hR I (by decide) (by decide) mF_R_45 rfl (fun _ _ => rfl) e2 d_R_readPath_113 ?_
    refine lv_iconst (pc := 116) (v := 1) hx hb d_R_readPath_116 (by decide) ?_
    refine lv_iadd (pc := 117) hx hb d_R_readPath_117 ?_
    refine ob1 hm (fun S3 e4 hm => ?_)
    refine k_putI (pc := 118) (z := 4) (k := 6) (index := 45) (v := (x1 + 1)) B I (by decide) (by decide) mF_R_45 rfl rfl rfl rfl cset_4_6 e4 d_R_readPath_118 (fun H locs I => ?_)
    refine q_aload_n (pc := 121) (i := 0) (v := .ref y0) hx hb d_R_readPath_121 rfl rfl (lx_get hl rfl) ?_
    refine oifk hm (fun hk hm => ?_)
    refine ob1 hm (fun S6 e5 hm => ?_)
    refine k_callV (pc := 122) (As := []) (rest := []) (b := y0) B hR hl rfl I (c_R_skipBlanks hR e5) kw_R_51 (by decide) hk rfl (Nat.le_of_ble_eq_true rfl) (Nat.le_of_ble_eq_true rfl) rfl (by simp [cat_i, cat_r, cat_l, va_rf_cat]) d_R_readPath_122 (hr0 hc) (hr0 hs) (fun H locs I => ?_)
    exact w_R_readPath_125 (y0 := y0) (y1 := y1) (y2 := y2) (y3 := z0) (y4 := y4) hK9 B hR hl I hz hc hs hm
def x_R_readPath_85 (N b0 : Nat) (K : cS) (K9 : Nat → Option Nat → Option Nat → Int32 → Int32 → Nat → cS → Option (Option Nat × cS × Nat × Nat)) (y0 : Nat) (y1 : Option Nat) (y4 : Int32) (y7 : Nat) (sz : Nat) (S : cS) : Option (Option Nat × cS × Nat × Nat) :=
  ifk b0 K S 4 y0 (b1 (x_R_skipBlanks N b0 K y0 S) (fun S2 => ifk b0 K S2 4 y0 (b1 (x_R_peek N b0 K y0 S2) (fun x4 => if x4 = 46 then (x_R_readPath_106 N b0 K K9 y0 y1 y7 y4 1 sz S2) else (x_R_readPath_106 N b0 K K9 y0 y1 y7 y4 0 sz S2)))))
set_option maxRecDepth 100000 in
set_option maxHeartbeats 4000000 in
theorem w_R_readPath_85 {K9 : Nat → Option Nat → Option Nat → Int32 → Int32 → Nat → cS → Option (Option Nat × cS × Nat × Nat)} {y0 : Nat} {y1 : Option Nat} {y4 : Int32} {y7 : Nat} {sz : Nat} {S : cS} (hK9 : ∀ (y0 : Nat) (y1 : Option Nat) (y2 : Option Nat) (y3 : Int32) (y4 : Int32) (sz : Nat) (S : cS) (ls : Array Slot) (H : Heap) (locs : List Loc) (cells slots dc ds : Nat), lx ls [some (.ref y0), some (va_rf y1), some (va_rf y2), some (.int y3), some (.int y4), none, none, none] → AI D vwCl b0 (cH dA b0 S hp0) sz s.heap H locs → sz = sz0 + cells → cells + dc = mc → slots + ds = ms → K9 y0 y1 y2 y3 y4 sz S = some (q, S', dc, ds) → W p l e { frames := 12, cells := mc, slots := ms, locals := 315 } s m args below meth c H locs cells slots (MQ below (CQ D vwCl b0 (some (va_rf q)) (cH dA b0 S' hp0) (sz0 + mc)) args s mc ms (fun q => b0 ≤ q)) (F0 m 9 ls [])) (B : BX p m c cb_R_readPath 8 s args (.code y_R_readPath cb_R_readPath 8 (some (.object "TableText$Step")) :: wsA) RZ4 meth (some (.object "TableText$Step")) D vwCl (tyL dA) b0 Z) (hR : CR b0 K Z) (hl : lx ls [some (.ref y0), some (va_rf y1), none, none, some (.int y4), none, none, some (.ref y7)]) (I : AI D vwCl b0 (cH dA b0 S hp0) sz s.heap H locs) (hz : sz = sz0 + cells) (hc : cells + dc = mc) (hs : slots + ds = ms) (hm : x_R_readPath_85 N b0 K K9 y0 y1 y4 y7 sz S = some (q, S', dc, ds)) : W p l e { frames := 12, cells := mc, slots := ms, locals := 315 } s m args below meth c H locs cells slots (MQ below (CQ D vwCl b0 (some (va_rf q)) (cH dA b0 S' hp0) (sz0 + mc)) args s mc ms (fun q => b0 ≤ q)) (F0 m 85 ls []) := by
  obtain ⟨hx, hb, -⟩ := B.1
  unfold x_R_readPath_85 at hm
  refine q_aload (pc := 85) (i := 7) (v := .ref y7) hx hb d_R_readPath_85 rfl (lx_get hl rfl) ?_
  refine q_astore_n (pc := 87) (i := 2) (v := .ref y7) (lo' := [some (.ref y0), some (va_rf y1), some (.ref y7), none, some (.int y4), none, none, some (.ref y7)]) hx hb d_R_readPath_87 rfl rfl hl (Nat.le_of_ble_eq_true rfl) (lx_cq rfl) rfl (fun ls hl => ?_)
  refine q_aload_n (pc := 88) (i := 0) (v := .ref y0) hx hb d_R_readPath_88 rfl rfl (lx_get hl rfl) ?_
  refine oifk hm (fun hk hm => ?_)
  refine ob1 hm (fun S2 e1 hm => ?_)
  refine k_callV (pc := 89) (As := []) (rest := []) (b := y0) B hR hl rfl I (c_R_skipBlanks hR e1) kw_R_51 (by decide) hk rfl (Nat.le_of_ble_eq_true rfl) (Nat.le_of_ble_eq_true rfl) rfl (by simp [cat_i, cat_r, cat_l, va_rf_cat]) d_R_readPath_89 (hr0 hc) (hr0 hs) (fun H locs I => ?_)
  refine q_aload_n (pc := 92) (i := 0) (v := .ref y0) hx hb d_R_readPath_92 rfl rfl (lx_get hl rfl) ?_
  refine oifk hm (fun hk hm => ?_)
  refine ob1 hm (fun x4 e3 hm => ?_)
  refine k_callV (pc := 93) (As := []) (rest := []) (b := y0) B hR hl rfl I (c_R_peek hR e3) kw_R_54 (by decide) hk rfl (Nat.le_of_ble_eq_true rfl) (Nat.le_of_ble_eq_true rfl) rfl (by simp [cat_i, cat_r, cat_l, va_rf_cat]) d_R_readPath_93 (hr0 hc) (hr0 hs) (fun H locs I => ?_)
  refine lv_bipush (pc := 96) (v := 46) hx hb d_R_readPath_96 (by decide) ?_
  refine lv_icmp_ne (pc := 98) (tgt := 105) hx hb d_R_readPath_98 (by decide) (fun hcc => ?_) (fun hcc => ?_)
  · have hm := iff' hcc hm
    refine lv_iconst (pc := 105) (v := 0) hx hb d_R_readPath_105 (by decide) ?_
    exact w_R_readPath_106 (y0 := y0) (y1 := y1) (y2 := y7) (y4 := y4) (z0 := 0) hK9 B hR (lx_sub (lo' := [some (.ref y0), some (va_rf y1), some (.ref y7), none, some (.int y4), none, none, none]) hl (by simp [lx_le, va_rf])) I hz hc hs hm
  · have hm := ift hcc hm
    refine lv_iconst (pc := 101) (v := 1) hx hb d_R_readPath_101 (by decide) ?_
    refine lv_goto (pc := 102) (tgt := 106) hx hb d_R_readPath_102 (by decide) ?_
    exact w_R_readPath_106 (y0 := y0) (y1 := y1) (y2 := y7) (y4 := y4) (z0 := 1) hK9 B hR (lx_sub (lo' := [some (.ref y0), some (va_rf y1), some (.ref y7), none, some (.int y4), none, none, none]) hl (by simp [lx_le, va_rf])) I hz hc hs hm
def x_R_readPath_47 (N b0 : Nat) (K : cS) (K9 : Nat → Option Nat → Option Nat → Int32 → Int32 → Nat → cS → Option (Option Nat × cS × Nat × Nat)) (y0 : Nat) (y1 : Option Nat) (y2 : Option Nat) (y4 : Int32) (y5 : Int32) (z0 : Option Nat) (sz : Nat) (S : cS) : Option (Option Nat × cS × Nat × Nat) :=
  om z0 (some (none, S, 0, 0)) (fun a2 => wr4 1 3 (b1 (nOo b0 S 3 sz) (fun S3 => b1 (x_S_init N b0 K sz (some a2) y5 S3) (fun S6 => om y2 (x_R_readPath_85 N b0 K K9 y0 (some sz) y4 sz (sz + 1) S6) (fun a8 => b1 (pR b0 S6 3 2 a8 (some sz)) (fun S9 => x_R_readPath_85 N b0 K K9 y0 y1 y4 sz (sz + 1) S9))))))
set_option maxRecDepth 100000 in
set_option maxHeartbeats 4000000 in
theorem w_R_readPath_47 {K9 : Nat → Option Nat → Option Nat → Int32 → Int32 → Nat → cS → Option (Option Nat × cS × Nat × Nat)} {y0 : Nat} {y1 : Option Nat} {y2 : Option Nat} {y4 : Int32} {y5 : Int32} {z0 : Option Nat} {sz : Nat} {S : cS} (hK9 : ∀ (y0 : Nat) (y1 : Option Nat) (y2 : Option Nat) (y3 : Int32) (y4 : Int32) (sz : Nat) (S : cS) (ls : Array Slot) (H : Heap) (locs : List Loc) (cells slots dc ds : Nat), lx ls [some (.ref y0), some (va_rf y1), some (va_rf y2), some (.int y3), some (.int y4), none, none, none] → AI D vwCl b0 (cH dA b0 S hp0) sz s.heap H locs → sz = sz0 + cells → cells + dc = mc → slots + ds = ms → K9 y0 y1 y2 y3 y4 sz S = some (q, S', dc, ds) → W p l e { frames := 12, cells := mc, slots := ms, locals := 315 } s m args below meth c H locs cells slots (MQ below (CQ D vwCl b0 (some (va_rf q)) (cH dA b0 S' hp0) (sz0 + mc)) args s mc ms (fun q => b0 ≤ q)) (F0 m 9 ls [])) (B : BX p m c cb_R_readPath 8 s args (.code y_R_readPath cb_R_readPath 8 (some (.object "TableText$Step")) :: wsA) RZ4 meth (some (.object "TableText$Step")) D vwCl (tyL dA) b0 Z) (hR : CR b0 K Z) (hl : lx ls [some (.ref y0), some (va_rf y1), some (va_rf y2), none, some (.int y4), some (.int y5), none, none]) (I : AI D vwCl b0 (cH dA b0 S hp0) sz s.heap H locs) (hz : sz = sz0 + cells) (hc : cells + dc = mc) (hs : slots + ds = ms) (hm : x_R_readPath_47 N b0 K K9 y0 y1 y2 y4 y5 z0 sz S = some (q, S', dc, ds)) : W p l e { frames := 12, cells := mc, slots := ms, locals := 315 } s m args below meth c H locs cells slots (MQ below (CQ D vwCl b0 (some (va_rf q)) (cH dA b0 S' hp0) (sz0 + mc)) args s mc ms (fun q => b0 ≤ q)) (F0 m 47 ls [va_rf z0]) := by
  obtain ⟨hx, hb, -⟩ := B.1
  unfold x_R_readPath_47 at hm
  refine q_astore (pc := 47) (i := 6) (v := va_rf z0) (lo' := [some (.ref y0), some (va_rf y1), some (va_rf y2), none, some (.int y4), some (.int y5), some (va_rf z0), none]) hx hb d_R_readPath_47 (va_rf_isRef _) hl (Nat.le_of_ble_eq_true rfl) (lx_ci rfl) rfl (fun ls hl => ?_)
  refine q_aload (pc := 49) (i := 6) (v := va_rf z0) hx hb d_R_readPath_49 (va_rf_isRef _) (lx_get hl rfl) ?_
  refine oom hm (fun e1 hm => ?_) (fun a2 e1 hm => ?_)
  · have hm_12 := hm; have hl_12 := hl; have I_12 := I
    subst e1
    have hm := hm_12; have hl := hl_12; have I := I_12
    refine lv_ifnonnullN (pc := 51) hx hb d_R_readPath_51 ?_
    refine lv_null (pc := 54) hx hb d_R_readPath_54 ?_
    cases hm
    exact q_aretA (pc := 55) B I hz hc hs rfl (Or.inl ⟨_, rfl⟩) d_R_readPath_55
  · have hm_12 := hm; have hl_12 := hl; have I_12 := I
    subst e1
    have hm := hm_12; have hl := hl_12; have I := I_12
    refine lv_ifnonnull (pc := 51) (tgt := 56) hx hb d_R_readPath_51 (by decide) ?_
    refine owr4 hm hc hs (fun dc ds hm hc hs => ?_)
    refine ob1 hm (fun S3 e4 hm => ?_)
    refine k_new (pc := 56) (z := 3) (index := 85) (n := 3) B I (by decide) mC_R_85 mI_3 mN_3 nf_3 (hr_ hc) (hr_ hs) e4 d_R_readPath_56 (fun H I => ?_)
    have hz := hzn (n := 1) hz
    refine lv_dup (pc := 59) hx hb d_R_readPath_59 rfl ?_
    refine q_aload (pc := 60) (i := 6) (v := .ref a2) hx hb d_R_readPath_60 rfl (lx_get hl rfl) ?_
    refine lv_iload (pc := 62) (i := 5) hx hb d_R_readPath_62 (lx_get hl rfl) ?_
    refine ob1 hm (fun S6 e5 hm => ?_)
    refine k_callIN (pc := 64) (As := [va_rf (some a2), .int y5]) (rest := [.ref sz]) (b := sz) B hR hl rfl I (c_S_init hR e5) kw_R_124 rfl (Nat.le_of_ble_eq_true rfl) (Nat.le_of_ble_eq_true rfl) rfl (by simp [cat_i, cat_r, cat_l, va_rf_cat]) d_R_readPath_64 (hr0 hc) (hr0 hs) (fun H locs I => ?_)
    refine q_astore (pc := 67) (i := 7) (v := .ref sz) (lo' := [some (.ref y0), some (va_rf y1), some (va_rf y2), none, some (.int y4), some (.int y5), some (.ref a2), some (.ref sz)]) hx hb d_R_readPath_67 rfl hl (Nat.le_of_ble_eq_true rfl) (lx_cr rfl) rfl (fun ls hl => ?_)
    refine q_aload_n (pc := 69) (i := 2) (v := va_rf y2) hx hb d_R_readPath_69 rfl (va_rf_isRef _) (lx_get hl rfl) ?_
    refine oom hm (fun e7 hm => ?_) (fun a8 e7 hm => ?_)
    · have hm_11 := hm; have hl_11 := hl; have I_11 := I
      subst e7
      have hm := hm_11; have hl := hl_11; have I := I_11
      refine lv_ifnonnullN (pc := 70) hx hb d_R_readPath_70 ?_
      refine q_aload (pc := 73) (i := 7) (v := .ref sz) hx hb d_R_readPath_73 rfl (lx_get hl rfl) ?_
      refine q_astore_n (pc := 75) (i := 1) (v := .ref sz) (lo' := [some (.ref y0), some (.ref sz), some (va_rf none), none, some (.int y4), some (.int y5), some (.ref a2), some (.ref sz)]) hx hb d_R_readPath_75 rfl rfl hl (Nat.le_of_ble_eq_true rfl) (lx_cr rfl) rfl (fun ls hl => ?_)
      refine lv_goto (pc := 76) (tgt := 85) hx hb d_R_readPath_76 (by decide) ?_
      exact w_R_readPath_85 (y0 := y0) (y1 := (some sz)) (y4 := y4) (y7 := sz) hK9 B hR (lx_sub (lo' := [some (.ref y0), some (va_rf (some sz)), none, none, some (.int y4), none, none, some (.ref sz)]) hl (by simp [lx_le, va_rf])) I hz hc hs hm
    · have hm_11 := hm; have hl_11 := hl; have I_11 := I
      subst e7
      have hm := hm_11; have hl := hl_11; have I := I_11
      refine lv_ifnonnull (pc := 70) (tgt := 79) hx hb d_R_readPath_70 (by decide) ?_
      refine q_aload_n (pc := 79) (i := 2) (v := .ref a8) hx hb d_R_readPath_79 rfl rfl (lx_get hl rfl) ?_
      refine q_aload (pc := 80) (i := 7) (v := .ref sz) hx hb d_R_readPath_80 rfl (lx_get hl rfl) ?_
      refine ob1 hm (fun S9 e10 hm => ?_)
      refine k_putRN (pc := 82) (z := 3) (k := 2) (index := 84) (v := (some sz)) B hR I (by decide) (by decide) nF_R_84 rfl rfl (Or.inl ⟨_, rfl⟩) cset_3_2 e10 d_R_readPath_82 (fun H locs I => ?_)
      exact w_R_readPath_85 (y0 := y0) (y1 := y1) (y4 := y4) (y7 := sz) hK9 B hR (lx_sub (lo' := [some (.ref y0), some (va_rf y1), none, none, some (.int y4), none, none, some (.ref sz)]) hl (by simp [lx_le, va_rf])) I hz hc hs hm
def x_R_readPath_9F (N b0 : Nat) (K : cS) (K9 : Nat → Option Nat → Option Nat → Int32 → Int32 → Nat → cS → Option (Option Nat × cS × Nat × Nat)) (y0 : Nat) (y1 : Option Nat) (y2 : Option Nat) (y3 : Int32) (y4 : Int32) (sz : Nat) (S : cS) : Option (Option Nat × cS × Nat × Nat) :=
  if y3 = 0 then (some (y1, S, 0, 0)) else (if 240 ≤ y4 then (some (y1, S, 0, 0)) else (b1 (gI b0 K S 4 6 y0) (fun x1 => ifk b0 K S 4 y0 (b1 (x_R_peek N b0 K y0 S) (fun x4 => if x4 = 34 then (ifk b0 K S 4 y0 (b4 (x_R_readQuoted N b0 K y0 sz S) (fun q11 S12 c13 d14 => wr4 c13 d14 (x_R_readPath_47 N b0 K K9 y0 y1 y2 y4 x1 q11 (sz + c13) S12)))) else (ifk b0 K S 4 y0 (b4 (x_R_readBare N b0 K y0 sz S) (fun q6 S7 c8 d9 => wr4 c8 d9 (x_R_readPath_47 N b0 K K9 y0 y1 y2 y4 x1 q6 (sz + c8) S7)))))))))
def x_R_readPath_9 (N b0 : Nat) (K : cS) : Nat → Nat → Option Nat → Option Nat → Int32 → Int32 → Nat → cS → Option (Option Nat × cS × Nat × Nat)
  | 0, _, _, _, _, _, _, _ => none
  | k + 1, y0, y1, y2, y3, y4, sz, S => x_R_readPath_9F N b0 K  (x_R_readPath_9 N b0 K  k) y0 y1 y2 y3 y4 sz S
set_option maxRecDepth 100000 in
set_option maxHeartbeats 4000000 in
theorem w_R_readPath_9F {K9 : Nat → Option Nat → Option Nat → Int32 → Int32 → Nat → cS → Option (Option Nat × cS × Nat × Nat)} {y0 : Nat} {y1 : Option Nat} {y2 : Option Nat} {y3 : Int32} {y4 : Int32} {sz : Nat} {S : cS} (hK9 : ∀ (y0 : Nat) (y1 : Option Nat) (y2 : Option Nat) (y3 : Int32) (y4 : Int32) (sz : Nat) (S : cS) (ls : Array Slot) (H : Heap) (locs : List Loc) (cells slots dc ds : Nat), lx ls [some (.ref y0), some (va_rf y1), some (va_rf y2), some (.int y3), some (.int y4), none, none, none] → AI D vwCl b0 (cH dA b0 S hp0) sz s.heap H locs → sz = sz0 + cells → cells + dc = mc → slots + ds = ms → K9 y0 y1 y2 y3 y4 sz S = some (q, S', dc, ds) → W p l e { frames := 12, cells := mc, slots := ms, locals := 315 } s m args below meth c H locs cells slots (MQ below (CQ D vwCl b0 (some (va_rf q)) (cH dA b0 S' hp0) (sz0 + mc)) args s mc ms (fun q => b0 ≤ q)) (F0 m 9 ls [])) (B : BX p m c cb_R_readPath 8 s args (.code y_R_readPath cb_R_readPath 8 (some (.object "TableText$Step")) :: wsA) RZ4 meth (some (.object "TableText$Step")) D vwCl (tyL dA) b0 Z) (hR : CR b0 K Z) (hl : lx ls [some (.ref y0), some (va_rf y1), some (va_rf y2), some (.int y3), some (.int y4), none, none, none]) (I : AI D vwCl b0 (cH dA b0 S hp0) sz s.heap H locs) (hz : sz = sz0 + cells) (hc : cells + dc = mc) (hs : slots + ds = ms) (hm : x_R_readPath_9F N b0 K  K9 y0 y1 y2 y3 y4 sz S = some (q, S', dc, ds)) : W p l e { frames := 12, cells := mc, slots := ms, locals := 315 } s m args below meth c H locs cells slots (MQ below (CQ D vwCl b0 (some (va_rf q)) (cH dA b0 S' hp0) (sz0 + mc)) args s mc ms (fun q => b0 ≤ q)) (F0 m 9 ls []) := by
  obtain ⟨hx, hb, -⟩ := B.1
  unfold x_R_readPath_9F at hm
  refine lv_iload_n (pc := 9) (i := 3) hx hb d_R_readPath_9 rfl (lx_get hl rfl) ?_
  refine lv_if_eq (pc := 10) (tgt := 131) hx hb d_R_readPath_10 (by decide) (fun hcc => ?_) (fun hcc => ?_)
  · have hm := ift hcc hm
    refine q_aload_n (pc := 131) (i := 1) (v := va_rf y1) hx hb d_R_readPath_131 rfl (va_rf_isRef _) (lx_get hl rfl) ?_
    cases hm
    exact q_aretA (pc := 132) B I hz hc hs rfl (Or.inl ⟨_, rfl⟩) d_R_readPath_132
  · have hm := iff' hcc hm
    refine lv_iload (pc := 13) (i := 4) hx hb d_R_readPath_13 (lx_get hl rfl) ?_
    refine lv_sipush (pc := 15) (v := 240) hx hb d_R_readPath_15 (by decide) ?_
    refine lv_icmp_ge (pc := 18) (tgt := 131) hx hb d_R_readPath_18 (by decide) (fun hcc => ?_) (fun hcc => ?_)
    · have hm := ift hcc hm
      refine q_aload_n (pc := 131) (i := 1) (v := va_rf y1) hx hb d_R_readPath_131 rfl (va_rf_isRef _) (lx_get hl rfl) ?_
      cases hm
      exact q_aretA (pc := 132) B I hz hc hs rfl (Or.inl ⟨_, rfl⟩) d_R_readPath_132
    · have hm := iff' hcc hm
      refine q_aload_n (pc := 21) (i := 0) (v := .ref y0) hx hb d_R_readPath_21 rfl rfl (lx_get hl rfl) ?_
      refine ob1 hm (fun x1 e2 hm => ?_)
      refine k_getI (pc := 22) (z := 4) (k := 6) (index := 45) B hR I (by decide) (by decide) mF_R_45 rfl (fun _ _ => rfl) e2 d_R_readPath_22 ?_
      refine q_istore (pc := 25) (i := 5) (lo' := [some (.ref y0), some (va_rf y1), some (va_rf y2), some (.int y3), some (.int y4), some (.int x1), none, none]) hx hb d_R_readPath_25 hl (Nat.le_of_ble_eq_true rfl) (lx_ci rfl) rfl (fun ls hl => ?_)
      refine q_aload_n (pc := 27) (i := 0) (v := .ref y0) hx hb d_R_readPath_27 rfl rfl (lx_get hl rfl) ?_
      refine oifk hm (fun hk hm => ?_)
      refine ob1 hm (fun x4 e3 hm => ?_)
      refine k_callV (pc := 28) (As := []) (rest := []) (b := y0) B hR hl rfl I (c_R_peek hR e3) kw_R_54 (by decide) hk rfl (Nat.le_of_ble_eq_true rfl) (Nat.le_of_ble_eq_true rfl) rfl (by simp [cat_i, cat_r, cat_l, va_rf_cat]) d_R_readPath_28 (hr0 hc) (hr0 hs) (fun H locs I => ?_)
      refine lv_bipush (pc := 31) (v := 34) hx hb d_R_readPath_31 (by decide) ?_
      refine lv_icmp_ne (pc := 33) (tgt := 43) hx hb d_R_readPath_33 (by decide) (fun hcc => ?_) (fun hcc => ?_)
      · have hm := iff' hcc hm
        refine q_aload_n (pc := 43) (i := 0) (v := .ref y0) hx hb d_R_readPath_43 rfl rfl (lx_get hl rfl) ?_
        refine oifk hm (fun hk hm => ?_)
        refine ob4 hm (fun q6 S7 c8 d9 e5 hm => ?_)
        refine owr4 hm hc hs (fun dc ds hm hc hs => ?_)
        refine k_callV (pc := 44) (As := []) (rest := []) (b := y0) B hR hl rfl I (c_R_readBare hR e5) kw_R_121 (by decide) hk rfl (Nat.le_of_ble_eq_true rfl) (Nat.le_of_ble_eq_true rfl) rfl (by simp [cat_i, cat_r, cat_l, va_rf_cat]) d_R_readPath_44 (hr_ hc) (hr_ hs) (fun H locs I => ?_)
        have hz := hzn (n := c8) hz
        exact w_R_readPath_47 (y0 := y0) (y1 := y1) (y2 := y2) (y4 := y4) (y5 := x1) (z0 := q6) hK9 B hR (lx_sub (lo' := [some (.ref y0), some (va_rf y1), some (va_rf y2), none, some (.int y4), some (.int x1), none, none]) hl (by simp [lx_le, va_rf])) I hz hc hs hm
      · have hm := ift hcc hm
        refine q_aload_n (pc := 36) (i := 0) (v := .ref y0) hx hb d_R_readPath_36 rfl rfl (lx_get hl rfl) ?_
        refine oifk hm (fun hk hm => ?_)
        refine ob4 hm (fun q11 S12 c13 d14 e10 hm => ?_)
        refine owr4 hm hc hs (fun dc ds hm hc hs => ?_)
        refine k_callV (pc := 37) (As := []) (rest := []) (b := y0) B hR hl rfl I (c_R_readQuoted hR e10) kw_R_117 (by decide) hk rfl (Nat.le_of_ble_eq_true rfl) (Nat.le_of_ble_eq_true rfl) rfl (by simp [cat_i, cat_r, cat_l, va_rf_cat]) d_R_readPath_37 (hr_ hc) (hr_ hs) (fun H locs I => ?_)
        have hz := hzn (n := c13) hz
        refine lv_goto (pc := 40) (tgt := 47) hx hb d_R_readPath_40 (by decide) ?_
        exact w_R_readPath_47 (y0 := y0) (y1 := y1) (y2 := y2) (y4 := y4) (y5 := x1) (z0 := q11) hK9 B hR (lx_sub (lo' := [some (.ref y0), some (va_rf y1), some (va_rf y2), none, some (.int y4), some (.int x1), none, none]) hl (by simp [lx_le, va_rf])) I hz hc hs hm
set_option maxRecDepth 100000 in
set_option maxHeartbeats 4000000 in
theorem w_R_readPath_9i (B : BX p m c cb_R_readPath 8 s args (.code y_R_readPath cb_R_readPath 8 (some (.object "TableText$Step")) :: wsA) RZ4 meth (some (.object "TableText$Step")) D vwCl (tyL dA) b0 Z) (hR : CR b0 K Z) (k : Nat) (y0 : Nat) (y1 : Option Nat) (y2 : Option Nat) (y3 : Int32) (y4 : Int32) (sz : Nat) (S : cS) (ls : Array Slot) (H : Heap) (locs : List Loc) (cells slots dc ds : Nat) (hl : lx ls [some (.ref y0), some (va_rf y1), some (va_rf y2), some (.int y3), some (.int y4), none, none, none]) (I : AI D vwCl b0 (cH dA b0 S hp0) sz s.heap H locs) (hz : sz = sz0 + cells) (hc : cells + dc = mc) (hs : slots + ds = ms) (hm : x_R_readPath_9 N b0 K  k y0 y1 y2 y3 y4 sz S = some (q, S', dc, ds)) : W p l e { frames := 12, cells := mc, slots := ms, locals := 315 } s m args below meth c H locs cells slots (MQ below (CQ D vwCl b0 (some (va_rf q)) (cH dA b0 S' hp0) (sz0 + mc)) args s mc ms (fun q => b0 ≤ q)) (F0 m 9 ls []) := by
  induction k generalizing y0 y1 y2 y3 y4 sz S ls H locs cells slots dc ds with
  | zero => cases hm
  | succ k ih => exact w_R_readPath_9F  (fun y0 y1 y2 y3 y4 sz S ls H locs cells slots dc ds hl I hz hc hs hm => ih y0 y1 y2 y3 y4 sz S ls H locs cells slots dc ds hl I hz hc hs hm) B hR hl I hz hc hs hm
theorem w_R_readPath_9 {y0 : Nat} {y1 : Option Nat} {y2 : Option Nat} {y3 : Int32} {y4 : Int32} {sz : Nat} {S : cS} (B : BX p m c cb_R_readPath 8 s args (.code y_R_readPath cb_R_readPath 8 (some (.object "TableText$Step")) :: wsA) RZ4 meth (some (.object "TableText$Step")) D vwCl (tyL dA) b0 Z) (hR : CR b0 K Z) (hl : lx ls [some (.ref y0), some (va_rf y1), some (va_rf y2), some (.int y3), some (.int y4), none, none, none]) (I : AI D vwCl b0 (cH dA b0 S hp0) sz s.heap H locs) (hz : sz = sz0 + cells) (hc : cells + dc = mc) (hs : slots + ds = ms) {k : Nat} (hm : x_R_readPath_9 N b0 K  k y0 y1 y2 y3 y4 sz S = some (q, S', dc, ds)) : W p l e { frames := 12, cells := mc, slots := ms, locals := 315 } s m args below meth c H locs cells slots (MQ below (CQ D vwCl b0 (some (va_rf q)) (cH dA b0 S' hp0) (sz0 + mc)) args s mc ms (fun q => b0 ≤ q)) (F0 m 9 ls []) := w_R_readPath_9i  B hR k _ _ _ _ _ sz S ls H locs _ _ _ _ hl I hz hc hs hm
def x_R_readPath (N b0 : Nat) (K : cS) (p0 : Nat) (sz : Nat) (S : cS) : Option (Option Nat × cS × Nat × Nat) :=
  x_R_readPath_9 N b0 K  N p0 none none 1 0 sz S
set_option maxRecDepth 100000 in
set_option maxHeartbeats 4000000 in
theorem c_R_readPath {p0 : Nat} {S S' : cS} {q : Option Nat} {dc ds : Nat} (hR : CR b0 K Z) (hm : x_R_readPath N b0 K p0 sz S = some (q, S', dc, ds)) : Ct l D vwCl (tyL dA) b0 Z y_R_readPath (.code y_R_readPath cb_R_readPath 8 (some (.object "TableText$Step")) :: wsA) 12 315 [.ref p0] (cH dA b0 S hp0) sz (some (va_rf q)) (cH dA b0 S' hp0) dc ds := by
  refine ct_ofF (cc := cb_R_readPath) (maxL := 8) (ret := (some (.object "TableText$Step"))) (lo0 := [some (.ref p0), none, none, none, none, none, none, none]) hR.1 (by decide +kernel) rfl (by simp [lg_sl, cat_i, cat_r, cat_l, va_rf_cat]) rfl (by simp [lx_all, lv_args, cat_i, cat_r, cat_l, va_rf_cat]) ?_
  intro p e s m args below meth c ls B hnm hl I
  obtain ⟨hx, hb, -⟩ := B.1
  have hz : sz = sz + 0 := rfl
  have hc : 0 + dc = dc := Nat.zero_add _
  have hs : 0 + ds = ds := Nat.zero_add _
  unfold x_R_readPath at hm
  refine lv_null (pc := 0) hx hb d_R_readPath_0 ?_
  refine q_astore_n (pc := 1) (i := 1) (v := va_rf none) (lo' := [some (.ref p0), some (va_rf none), none, none, none, none, none, none]) hx hb d_R_readPath_1 rfl (va_rf_isRef _) hl (Nat.le_of_ble_eq_true rfl) (lx_cr rfl) rfl (fun ls hl => ?_)
  refine lv_null (pc := 2) hx hb d_R_readPath_2 ?_
  refine q_astore_n (pc := 3) (i := 2) (v := va_rf none) (lo' := [some (.ref p0), some (va_rf none), some (va_rf none), none, none, none, none, none]) hx hb d_R_readPath_3 rfl (va_rf_isRef _) hl (Nat.le_of_ble_eq_true rfl) (lx_cq rfl) rfl (fun ls hl => ?_)
  refine lv_iconst (pc := 4) (v := 1) hx hb d_R_readPath_4 (by decide) ?_
  refine q_istore_n (pc := 5) (i := 3) (lo' := [some (.ref p0), some (va_rf none), some (va_rf none), some (.int 1), none, none, none, none]) hx hb d_R_readPath_5 rfl hl (Nat.le_of_ble_eq_true rfl) (lx_cq rfl) rfl (fun ls hl => ?_)
  refine lv_iconst (pc := 6) (v := 0) hx hb d_R_readPath_6 (by decide) ?_
  refine q_istore (pc := 7) (i := 4) (lo' := [some (.ref p0), some (va_rf none), some (va_rf none), some (.int 1), some (.int 0), none, none, none]) hx hb d_R_readPath_7 hl (Nat.le_of_ble_eq_true rfl) (lx_ci rfl) rfl (fun ls hl => ?_)
  exact w_R_readPath_9 (y0 := p0) (y1 := none) (y2 := none) (y3 := 1) (y4 := 0)  B hR hl I hz hc hs hm
def x_R_readHeader_62 (N b0 : Nat) (K : cS) (y0 : Nat) (y1 : Int32) (z0 : Option Nat) (sz : Nat) (S : cS) : Option (Int32 × cS × Nat × Nat) :=
  om z0 (some (0, S, 0, 0)) (fun a2 => b1 (pR b0 S 4 5 y0 (some a2)) (fun S3 => ifk b0 K S3 4 y0 (b2 (x_R_take N b0 K y0 93 S3) (fun x6 S7 => if x6 = 0 then (some (0, S7, 0, 0)) else (if y1 = 0 then (some (1, S7, 0, 0)) else (ifk b0 K S7 4 y0 (b2 (x_R_take N b0 K y0 93 S7) (fun x9 S10 => if x9 = 0 then (some (0, S10, 0, 0)) else (some (1, S10, 0, 0))))))))))
set_option maxRecDepth 100000 in
set_option maxHeartbeats 4000000 in
theorem w_R_readHeader_62 {y0 : Nat} {y1 : Int32} {z0 : Option Nat} {sz : Nat} {S : cS} (B : BX p m c cb_R_readHeader 4 s args (.code y_R_readHeader cb_R_readHeader 4 (some .boolean) :: wsA) RZ4 meth (some .boolean) D vwCl (tyL dA) b0 Z) (hR : CR b0 K Z) (hl : lx ls [some (.ref y0), some (.int y1), none, none]) (I : AI D vwCl b0 (cH dA b0 S hp0) sz s.heap H locs) (hz : sz = sz0 + cells) (hc : cells + dc = mc) (hs : slots + ds = ms) (hm : x_R_readHeader_62 N b0 K  y0 y1 z0 sz S = some (r, S', dc, ds)) : W p l e { frames := 13, cells := mc, slots := ms, locals := 342 } s m args below meth c H locs cells slots (MQ below (CQ D vwCl b0 (some (.int r)) (cH dA b0 S' hp0) (sz0 + mc)) args s mc ms (fun q => b0 ≤ q)) (F0 m 62 ls [va_rf z0]) := by
  obtain ⟨hx, hb, -⟩ := B.1
  unfold x_R_readHeader_62 at hm
  refine q_astore_n (pc := 62) (i := 3) (v := va_rf z0) (lo' := [some (.ref y0), some (.int y1), none, some (va_rf z0)]) hx hb d_R_readHeader_62 rfl (va_rf_isRef _) hl (Nat.le_of_ble_eq_true rfl) (lx_cn rfl) rfl (fun ls hl => ?_)
  refine q_aload_n (pc := 63) (i := 3) (v := va_rf z0) hx hb d_R_readHeader_63 rfl (va_rf_isRef _) (lx_get hl rfl) ?_
  refine oom hm (fun e1 hm => ?_) (fun a2 e1 hm => ?_)
  · have hm_11 := hm; have hl_11 := hl; have I_11 := I
    subst e1
    have hm := hm_11; have hl := hl_11; have I := I_11
    refine lv_ifnonnullN (pc := 64) hx hb d_R_readHeader_64 ?_
    refine lv_iconst (pc := 67) (v := 0) hx hb d_R_readHeader_67 (by decide) ?_
    cases hm
    exact q_zretA (pc := 68) B I hz hc hs rfl (by decide) d_R_readHeader_68
  · have hm_11 := hm; have hl_11 := hl; have I_11 := I
    subst e1
    have hm := hm_11; have hl := hl_11; have I := I_11
    refine lv_ifnonnull (pc := 64) (tgt := 69) hx hb d_R_readHeader_64 (by decide) ?_
    refine q_aload_n (pc := 69) (i := 0) (v := .ref y0) hx hb d_R_readHeader_69 rfl rfl (lx_get hl rfl) ?_
    refine q_aload_n (pc := 70) (i := 3) (v := .ref a2) hx hb d_R_readHeader_70 rfl rfl (lx_get hl rfl) ?_
    refine ob1 hm (fun S3 e4 hm => ?_)
    refine k_putR (pc := 71) (z := 4) (k := 5) (index := 42) (v := (some a2)) B I (by decide) (by decide) mF_R_42 rfl rfl (Or.inl ⟨_, rfl⟩) cset_4_5 e4 d_R_readHeader_71 (fun H locs I => ?_)
    refine q_aload_n (pc := 74) (i := 0) (v := .ref y0) hx hb d_R_readHeader_74 rfl rfl (lx_get hl rfl) ?_
    refine lv_bipush (pc := 75) (v := 93) hx hb d_R_readHeader_75 (by decide) ?_
    refine oifk hm (fun hk hm => ?_)
    refine ob2 hm (fun x6 S7 e5 hm => ?_)
    refine k_callV (pc := 77) (As := [.int 93]) (rest := []) (b := y0) B hR hl rfl I (c_R_take hR e5) kw_R_73 (by decide) hk rfl (Nat.le_of_ble_eq_true rfl) (Nat.le_of_ble_eq_true rfl) rfl (by simp [cat_i, cat_r, cat_l, va_rf_cat]) d_R_readHeader_77 (hr0 hc) (hr0 hs) (fun H locs I => ?_)
    refine lv_if_eq (pc := 80) (tgt := 100) hx hb d_R_readHeader_80 (by decide) (fun hcc => ?_) (fun hcc => ?_)
    · have hm := ift hcc hm
      refine lv_iconst (pc := 100) (v := 0) hx hb d_R_readHeader_100 (by decide) ?_
      cases hm
      exact q_zretA (pc := 101) B I hz hc hs rfl (by decide) d_R_readHeader_101
    · have hm := iff' hcc hm
      refine lv_iload_n (pc := 83) (i := 1) hx hb d_R_readHeader_83 rfl (lx_get hl rfl) ?_
      refine lv_if_eq (pc := 84) (tgt := 96) hx hb d_R_readHeader_84 (by decide) (fun hcc => ?_) (fun hcc => ?_)
      · have hm := ift hcc hm
        refine lv_iconst (pc := 96) (v := 1) hx hb d_R_readHeader_96 (by decide) ?_
        refine lv_goto (pc := 97) (tgt := 101) hx hb d_R_readHeader_97 (by decide) ?_
        cases hm
        exact q_zretA (pc := 101) B I hz hc hs rfl (by decide) d_R_readHeader_101
      · have hm := iff' hcc hm
        refine q_aload_n (pc := 87) (i := 0) (v := .ref y0) hx hb d_R_readHeader_87 rfl rfl (lx_get hl rfl) ?_
        refine lv_bipush (pc := 88) (v := 93) hx hb d_R_readHeader_88 (by decide) ?_
        refine oifk hm (fun hk hm => ?_)
        refine ob2 hm (fun x9 S10 e8 hm => ?_)
        refine k_callV (pc := 90) (As := [.int 93]) (rest := []) (b := y0) B hR hl rfl I (c_R_take hR e8) kw_R_73 (by decide) hk rfl (Nat.le_of_ble_eq_true rfl) (Nat.le_of_ble_eq_true rfl) rfl (by simp [cat_i, cat_r, cat_l, va_rf_cat]) d_R_readHeader_90 (hr0 hc) (hr0 hs) (fun H locs I => ?_)
        refine lv_if_eq (pc := 93) (tgt := 100) hx hb d_R_readHeader_93 (by decide) (fun hcc => ?_) (fun hcc => ?_)
        · have hm := ift hcc hm
          refine lv_iconst (pc := 100) (v := 0) hx hb d_R_readHeader_100 (by decide) ?_
          cases hm
          exact q_zretA (pc := 101) B I hz hc hs rfl (by decide) d_R_readHeader_101
        · have hm := iff' hcc hm
          refine lv_iconst (pc := 96) (v := 1) hx hb d_R_readHeader_96 (by decide) ?_
          refine lv_goto (pc := 97) (tgt := 101) hx hb d_R_readHeader_97 (by decide) ?_
          cases hm
          exact q_zretA (pc := 101) B I hz hc hs rfl (by decide) d_R_readHeader_101
def x_R_readHeader_39 (N b0 : Nat) (K : cS) (y0 : Nat) (y1 : Int32) (sz : Nat) (S : cS) : Option (Int32 × cS × Nat × Nat) :=
  ifk b0 K S 4 y0 (b1 (x_R_skipBlanks N b0 K y0 S) (fun S2 => ifk b0 K S2 4 y0 (b4 (x_R_readPath N b0 K y0 sz S2) (fun q4 S5 c6 d7 => wr4 c6 d7 (om q4 (x_R_readHeader_62 N b0 K  y0 y1 none (sz + c6) S5) (fun a9 => ifk b0 K S5 4 y0 (b4 (x_R_openTable N b0 K y0 (some a9) y1 (sz + c6) S5) (fun q11 S12 c13 d14 => wr4 c13 d14 (x_R_readHeader_62 N b0 K  y0 y1 q11 ((sz + c6) + c13) S12)))))))))
set_option maxRecDepth 100000 in
set_option maxHeartbeats 4000000 in
theorem w_R_readHeader_39 {y0 : Nat} {y1 : Int32} {sz : Nat} {S : cS} (B : BX p m c cb_R_readHeader 4 s args (.code y_R_readHeader cb_R_readHeader 4 (some .boolean) :: wsA) RZ4 meth (some .boolean) D vwCl (tyL dA) b0 Z) (hR : CR b0 K Z) (hl : lx ls [some (.ref y0), some (.int y1), none, none]) (I : AI D vwCl b0 (cH dA b0 S hp0) sz s.heap H locs) (hz : sz = sz0 + cells) (hc : cells + dc = mc) (hs : slots + ds = ms) (hm : x_R_readHeader_39 N b0 K  y0 y1 sz S = some (r, S', dc, ds)) : W p l e { frames := 13, cells := mc, slots := ms, locals := 342 } s m args below meth c H locs cells slots (MQ below (CQ D vwCl b0 (some (.int r)) (cH dA b0 S' hp0) (sz0 + mc)) args s mc ms (fun q => b0 ≤ q)) (F0 m 39 ls []) := by
  obtain ⟨hx, hb, -⟩ := B.1
  unfold x_R_readHeader_39 at hm
  refine q_aload_n (pc := 39) (i := 0) (v := .ref y0) hx hb d_R_readHeader_39 rfl rfl (lx_get hl rfl) ?_
  refine oifk hm (fun hk hm => ?_)
  refine ob1 hm (fun S2 e1 hm => ?_)
  refine k_callV (pc := 40) (As := []) (rest := []) (b := y0) B hR hl rfl I (c_R_skipBlanks hR e1) kw_R_51 (by decide) hk rfl (Nat.le_of_ble_eq_true rfl) (Nat.le_of_ble_eq_true rfl) rfl (by simp [cat_i, cat_r, cat_l, va_rf_cat]) d_R_readHeader_40 (hr0 hc) (hr0 hs) (fun H locs I => ?_)
  refine q_aload_n (pc := 43) (i := 0) (v := .ref y0) hx hb d_R_readHeader_43 rfl rfl (lx_get hl rfl) ?_
  refine oifk hm (fun hk hm => ?_)
  refine ob4 hm (fun q4 S5 c6 d7 e3 hm => ?_)
  refine owr4 hm hc hs (fun dc ds hm hc hs => ?_)
  refine k_callV (pc := 44) (As := []) (rest := []) (b := y0) B hR hl rfl I (c_R_readPath hR e3) kw_R_76 (by decide) hk rfl (Nat.le_of_ble_eq_true rfl) (Nat.le_of_ble_eq_true rfl) rfl (by simp [cat_i, cat_r, cat_l, va_rf_cat]) d_R_readHeader_44 (hr_ hc) (hr_ hs) (fun H locs I => ?_)
  have hz := hzn (n := c6) hz
  refine q_astore_n (pc := 47) (i := 2) (v := va_rf q4) (lo' := [some (.ref y0), some (.int y1), some (va_rf q4), none]) hx hb d_R_readHeader_47 rfl (va_rf_isRef _) hl (Nat.le_of_ble_eq_true rfl) (lx_ci rfl) rfl (fun ls hl => ?_)
  refine q_aload_n (pc := 48) (i := 2) (v := va_rf q4) hx hb d_R_readHeader_48 rfl (va_rf_isRef _) (lx_get hl rfl) ?_
  refine oom hm (fun e8 hm => ?_) (fun a9 e8 hm => ?_)
  · have hm_15 := hm; have hl_15 := hl; have I_15 := I
    subst e8
    have hm := hm_15; have hl := hl_15; have I := I_15
    refine lv_ifnonnullN (pc := 49) hx hb d_R_readHeader_49 ?_
    refine lv_null (pc := 52) hx hb d_R_readHeader_52 ?_
    refine lv_goto (pc := 53) (tgt := 62) hx hb d_R_readHeader_53 (by decide) ?_
    exact w_R_readHeader_62 (y0 := y0) (y1 := y1) (z0 := none)  B hR (lx_sub (lo' := [some (.ref y0), some (.int y1), none, none]) hl (by simp [lx_le])) I hz hc hs hm
  · have hm_15 := hm; have hl_15 := hl; have I_15 := I
    subst e8
    have hm := hm_15; have hl := hl_15; have I := I_15
    refine lv_ifnonnull (pc := 49) (tgt := 56) hx hb d_R_readHeader_49 (by decide) ?_
    refine q_aload_n (pc := 56) (i := 0) (v := .ref y0) hx hb d_R_readHeader_56 rfl rfl (lx_get hl rfl) ?_
    refine q_aload_n (pc := 57) (i := 2) (v := .ref a9) hx hb d_R_readHeader_57 rfl rfl (lx_get hl rfl) ?_
    refine lv_iload_n (pc := 58) (i := 1) hx hb d_R_readHeader_58 rfl (lx_get hl rfl) ?_
    refine oifk hm (fun hk hm => ?_)
    refine ob4 hm (fun q11 S12 c13 d14 e10 hm => ?_)
    refine owr4 hm hc hs (fun dc ds hm hc hs => ?_)
    refine k_callV (pc := 59) (As := [va_rf (some a9), .int y1]) (rest := []) (b := y0) B hR hl rfl I (c_R_openTable hR e10) kw_R_80 (by decide) hk rfl (Nat.le_of_ble_eq_true rfl) (Nat.le_of_ble_eq_true rfl) rfl (by simp [cat_i, cat_r, cat_l, va_rf_cat]) d_R_readHeader_59 (hr_ hc) (hr_ hs) (fun H locs I => ?_)
    have hz := hzn (n := c13) hz
    exact w_R_readHeader_62 (y0 := y0) (y1 := y1) (z0 := q11)  B hR (lx_sub (lo' := [some (.ref y0), some (.int y1), none, none]) hl (by simp [lx_le])) I hz hc hs hm
def x_R_readHeader_24 (N b0 : Nat) (K : cS) (y0 : Nat) (z0 : Int32) (sz : Nat) (S : cS) : Option (Int32 × cS × Nat × Nat) :=
  if z0 = 0 then (x_R_readHeader_39 N b0 K  y0 z0 sz S) else (b1 (gI b0 K S 4 6 y0) (fun x1 => b1 (pI b0 S 4 6 y0 (x1 + 1)) (fun S3 => x_R_readHeader_39 N b0 K  y0 z0 sz S3)))
set_option maxRecDepth 100000 in
set_option maxHeartbeats 4000000 in
theorem w_R_readHeader_24 {y0 : Nat} {z0 : Int32} {sz : Nat} {S : cS} (B : BX p m c cb_R_readHeader 4 s args (.code y_R_readHeader cb_R_readHeader 4 (some .boolean) :: wsA) RZ4 meth (some .boolean) D vwCl (tyL dA) b0 Z) (hR : CR b0 K Z) (hl : lx ls [some (.ref y0), none, none, none]) (I : AI D vwCl b0 (cH dA b0 S hp0) sz s.heap H locs) (hz : sz = sz0 + cells) (hc : cells + dc = mc) (hs : slots + ds = ms) (hm : x_R_readHeader_24 N b0 K  y0 z0 sz S = some (r, S', dc, ds)) : W p l e { frames := 13, cells := mc, slots := ms, locals := 342 } s m args below meth c H locs cells slots (MQ below (CQ D vwCl b0 (some (.int r)) (cH dA b0 S' hp0) (sz0 + mc)) args s mc ms (fun q => b0 ≤ q)) (F0 m 24 ls [.int z0]) := by
  obtain ⟨hx, hb, -⟩ := B.1
  unfold x_R_readHeader_24 at hm
  refine q_istore_n (pc := 24) (i := 1) (lo' := [some (.ref y0), some (.int z0), none, none]) hx hb d_R_readHeader_24 rfl hl (Nat.le_of_ble_eq_true rfl) (lx_cr rfl) rfl (fun ls hl => ?_)
  refine lv_iload_n (pc := 25) (i := 1) hx hb d_R_readHeader_25 rfl (lx_get hl rfl) ?_
  refine lv_if_eq (pc := 26) (tgt := 39) hx hb d_R_readHeader_26 (by decide) (fun hcc => ?_) (fun hcc => ?_)
  · have hm := ift hcc hm
    exact w_R_readHeader_39 (y0 := y0) (y1 := z0)  B hR hl I hz hc hs hm
  · have hm := iff' hcc hm
    refine q_aload_n (pc := 29) (i := 0) (v := .ref y0) hx hb d_R_readHeader_29 rfl rfl (lx_get hl rfl) ?_
    refine lv_dup (pc := 30) hx hb d_R_readHeader_30 rfl ?_
    refine ob1 hm (fun x1 e2 hm => ?_)
    refine k_getI (pc := 31) (z := 4) (k := 6) (index := 45) B hR I (by decide) (by decide) mF_R_45 rfl (fun _ _ => rfl) e2 d_R_readHeader_31 ?_
    refine lv_iconst (pc := 34) (v := 1) hx hb d_R_readHeader_34 (by decide) ?_
    refine lv_iadd (pc := 35) hx hb d_R_readHeader_35 ?_
    refine ob1 hm (fun S3 e4 hm => ?_)
    refine k_putI (pc := 36) (z := 4) (k := 6) (index := 45) (v := (x1 + 1)) B I (by decide) (by decide) mF_R_45 rfl rfl rfl rfl cset_4_6 e4 d_R_readHeader_36 (fun H locs I => ?_)
    exact w_R_readHeader_39 (y0 := y0) (y1 := z0)  B hR hl I hz hc hs hm
def x_R_readHeader (N b0 : Nat) (K : cS) (p0 : Nat) (sz : Nat) (S : cS) : Option (Int32 × cS × Nat × Nat) :=
  b1 (gI b0 K S 4 6 p0) (fun x1 => b1 (pI b0 S 4 6 p0 (x1 + 1)) (fun S3 => ifk b0 K S3 4 p0 (b1 (x_R_peek N b0 K p0 S3) (fun x6 => if x6 = 91 then (x_R_readHeader_24 N b0 K  p0 1 sz S3) else (x_R_readHeader_24 N b0 K  p0 0 sz S3)))))
set_option maxRecDepth 100000 in
set_option maxHeartbeats 4000000 in
theorem c_R_readHeader {p0 : Nat} {S S' : cS} {r : Int32} {dc ds : Nat} (hR : CR b0 K Z) (hm : x_R_readHeader N b0 K p0 sz S = some (r, S', dc, ds)) : Ct l D vwCl (tyL dA) b0 Z y_R_readHeader (.code y_R_readHeader cb_R_readHeader 4 (some .boolean) :: wsA) 13 342 [.ref p0] (cH dA b0 S hp0) sz (some (.int r)) (cH dA b0 S' hp0) dc ds := by
  refine ct_ofF (cc := cb_R_readHeader) (maxL := 4) (ret := (some .boolean)) (lo0 := [some (.ref p0), none, none, none]) hR.1 (by decide +kernel) rfl (by simp [lg_sl, cat_i, cat_r, cat_l, va_rf_cat]) rfl (by simp [lx_all, lv_args, cat_i, cat_r, cat_l, va_rf_cat]) ?_
  intro p e s m args below meth c ls B hnm hl I
  obtain ⟨hx, hb, -⟩ := B.1
  have hz : sz = sz + 0 := rfl
  have hc : 0 + dc = dc := Nat.zero_add _
  have hs : 0 + ds = ds := Nat.zero_add _
  unfold x_R_readHeader at hm
  refine q_aload_n (pc := 0) (i := 0) (v := .ref p0) hx hb d_R_readHeader_0 rfl rfl (lx_get hl rfl) ?_
  refine lv_dup (pc := 1) hx hb d_R_readHeader_1 rfl ?_
  refine ob1 hm (fun x1 e2 hm => ?_)
  refine k_getI (pc := 2) (z := 4) (k := 6) (index := 45) B hR I (by decide) (by decide) mF_R_45 rfl (fun _ _ => rfl) e2 d_R_readHeader_2 ?_
  refine lv_iconst (pc := 5) (v := 1) hx hb d_R_readHeader_5 (by decide) ?_
  refine lv_iadd (pc := 6) hx hb d_R_readHeader_6 ?_
  refine ob1 hm (fun S3 e4 hm => ?_)
  refine k_putI (pc := 7) (z := 4) (k := 6) (index := 45) (v := (x1 + 1)) B I (by decide) (by decide) mF_R_45 rfl rfl rfl rfl cset_4_6 e4 d_R_readHeader_7 (fun H locs I => ?_)
  refine q_aload_n (pc := 10) (i := 0) (v := .ref p0) hx hb d_R_readHeader_10 rfl rfl (lx_get hl rfl) ?_
  refine oifk hm (fun hk hm => ?_)
  refine ob1 hm (fun x6 e5 hm => ?_)
  refine k_callV (pc := 11) (As := []) (rest := []) (b := p0) B hR hl rfl I (c_R_peek hR e5) kw_R_54 (by decide) hk rfl (Nat.le_of_ble_eq_true rfl) (Nat.le_of_ble_eq_true rfl) rfl (by simp [cat_i, cat_r, cat_l, va_rf_cat]) d_R_readHeader_11 (hr0 hc) (hr0 hs) (fun H locs I => ?_)
  refine lv_bipush (pc := 14) (v := 91) hx hb d_R_readHeader_14 (by decide) ?_
  refine lv_icmp_ne (pc := 16) (tgt := 23) hx hb d_R_readHeader_16 (by decide) (fun hcc => ?_) (fun hcc => ?_)
  · have hm := iff' hcc hm
    refine lv_iconst (pc := 23) (v := 0) hx hb d_R_readHeader_23 (by decide) ?_
    exact w_R_readHeader_24 (y0 := p0) (z0 := 0)  B hR hl I hz hc hs hm
  · have hm := ift hcc hm
    refine lv_iconst (pc := 19) (v := 1) hx hb d_R_readHeader_19 (by decide) ?_
    refine lv_goto (pc := 20) (tgt := 24) hx hb d_R_readHeader_20 (by decide) ?_
    exact w_R_readHeader_24 (y0 := p0) (z0 := 1)  B hR hl I hz hc hs hm
def x_R_dottedTable (N b0 : Nat) (K : cS) (p0 : Nat) (p1 : Option Nat) (p2 : Option Nat) (sz : Nat) (S : cS) : Option (Option Nat × cS × Nat × Nat) :=
  b1 p2 (fun a1 => b1 (gR b0 K S 3 0 a1) (fun q4 => b1 p1 (fun a6 => ifk b0 K S 2 a6 (b4 (x_N_entryOrNew N b0 K a6 q4 9 sz S) (fun q10 S11 c12 d13 => wr4 c12 d13 (b1 q10 (fun a14 => b1 (gI b0 K S11 2 0 a14) (fun x17 => if x17 = 9 then (b1 (gR b0 K S11 4 3 p0) (fun q19 => b1 q19 (fun a21 => ifk b0 K S11 8 a21 (b4 (x_AL_add N b0 K a21 (some a14) (sz + c12) S11) (fun x25 S26 c27 d28 => wr4 c27 d28 (some (some a14, S26, 0, 0))))))) else (b1 (gI b0 K S11 3 1 a1) (fun x29 => ifk b0 K S11 4 p0 (b2 (x_R_wrong N b0 K p0 x29 S11) (fun q32 S33 => some (q32, S33, 0, 0)))))))))))))
set_option maxRecDepth 100000 in
set_option maxHeartbeats 4000000 in
theorem c_R_dottedTable {p0 : Nat} {p1 : Option Nat} {p2 : Option Nat} {S S' : cS} {q : Option Nat} {dc ds : Nat} (hR : CR b0 K Z) (hm : x_R_dottedTable N b0 K p0 p1 p2 sz S = some (q, S', dc, ds)) : Ct l D vwCl (tyL dA) b0 Z y_R_dottedTable (.code y_R_dottedTable cb_R_dottedTable 4 (some (.object "TableText$Node")) :: wsA) 9 251 [.ref p0, va_rf p1, va_rf p2] (cH dA b0 S hp0) sz (some (va_rf q)) (cH dA b0 S' hp0) dc ds := by
  refine ct_ofF (cc := cb_R_dottedTable) (maxL := 4) (ret := (some (.object "TableText$Node"))) (lo0 := [some (.ref p0), some (va_rf p1), some (va_rf p2), none]) hR.1 (by decide +kernel) rfl (by simp [lg_sl, cat_i, cat_r, cat_l, va_rf_cat]) rfl (by simp [lx_all, lv_args, cat_i, cat_r, cat_l, va_rf_cat]) ?_
  intro p e s m args below meth c ls B hnm hl I
  obtain ⟨hx, hb, -⟩ := B.1
  have hz : sz = sz + 0 := rfl
  have hc : 0 + dc = dc := Nat.zero_add _
  have hs : 0 + ds = ds := Nat.zero_add _
  unfold x_R_dottedTable at hm
  refine q_aload_n (pc := 0) (i := 1) (v := va_rf p1) hx hb d_R_dottedTable_0 rfl (va_rf_isRef _) (lx_get hl rfl) ?_
  refine q_aload_n (pc := 1) (i := 2) (v := va_rf p2) hx hb d_R_dottedTable_1 rfl (va_rf_isRef _) (lx_get hl rfl) ?_
  refine ob1 hm (fun a1 e2 hm => ?_)
  have hm_3 := hm; have hl_3 := hl; have I_3 := I
  subst e2
  have hm := hm_3; have hl := hl_3; have I := I_3
  refine ob1 hm (fun q4 e5 hm => ?_)
  refine k_getRN (pc := 2) (z := 3) (k := 0) (index := 94) B hR I (by decide) (by decide) nF_R_94 rfl (fun _ _ => rfl) e5 d_R_dottedTable_2 ?_
  refine lv_bipush (pc := 5) (v := 9) hx hb d_R_dottedTable_5 (by decide) ?_
  refine ob1 hm (fun a6 e7 hm => ?_)
  have hm_8 := hm; have hl_8 := hl; have I_8 := I
  subst e7
  have hm := hm_8; have hl := hl_8; have I := I_8
  refine oifk hm (fun hk hm => ?_)
  refine ob4 hm (fun q10 S11 c12 d13 e9 hm => ?_)
  refine owr4 hm hc hs (fun dc ds hm hc hs => ?_)
  refine k_callVN (pc := 7) (As := [va_rf q4, .int 9]) (rest := []) (b := a6) B hR hl rfl I (c_N_entryOrNew hR e9) kw_R_127 (by decide) hk rfl (Nat.le_of_ble_eq_true rfl) (Nat.le_of_ble_eq_true rfl) rfl (by simp [cat_i, cat_r, cat_l, va_rf_cat]) d_R_dottedTable_7 (hr_ hc) (hr_ hs) (fun H locs I => ?_)
  have hz := hzn (n := c12) hz
  refine q_astore_n (pc := 10) (i := 3) (v := va_rf q10) (lo' := [some (.ref p0), some (.ref a6), some (.ref a1), some (va_rf q10)]) hx hb d_R_dottedTable_10 rfl (va_rf_isRef _) hl (Nat.le_of_ble_eq_true rfl) (lx_cr rfl) rfl (fun ls hl => ?_)
  refine q_aload_n (pc := 11) (i := 3) (v := va_rf q10) hx hb d_R_dottedTable_11 rfl (va_rf_isRef _) (lx_get hl rfl) ?_
  refine ob1 hm (fun a14 e15 hm => ?_)
  have hm_16 := hm; have hl_16 := hl; have I_16 := I
  subst e15
  have hm := hm_16; have hl := hl_16; have I := I_16
  refine ob1 hm (fun x17 e18 hm => ?_)
  refine k_getIN (pc := 12) (z := 2) (k := 0) (index := 131) B hR I (by decide) (by decide) nF_R_131 rfl (fun _ _ => rfl) e18 d_R_dottedTable_12 ?_
  refine lv_bipush (pc := 15) (v := 9) hx hb d_R_dottedTable_15 (by decide) ?_
  refine lv_icmp_eq (pc := 17) (tgt := 29) hx hb d_R_dottedTable_17 (by decide) (fun hcc => ?_) (fun hcc => ?_)
  · have hm := ift hcc hm
    refine q_aload_n (pc := 29) (i := 0) (v := .ref p0) hx hb d_R_dottedTable_29 rfl rfl (lx_get hl rfl) ?_
    refine ob1 hm (fun q19 e20 hm => ?_)
    refine k_getR (pc := 30) (z := 4) (k := 3) (index := 29) B hR I (by decide) (by decide) mF_R_29 rfl (fun _ _ => rfl) e20 d_R_dottedTable_30 ?_
    refine q_aload_n (pc := 33) (i := 3) (v := .ref a14) hx hb d_R_dottedTable_33 rfl rfl (lx_get hl rfl) ?_
    refine ob1 hm (fun a21 e22 hm => ?_)
    have hm_23 := hm; have hl_23 := hl; have I_23 := I
    subst e22
    have hm := hm_23; have hl := hl_23; have I := I_23
    refine oifk hm (fun hk hm => ?_)
    refine ob4 hm (fun x25 S26 c27 d28 e24 hm => ?_)
    refine owr4 hm hc hs (fun dc ds hm hc hs => ?_)
    refine k_callV (pc := 34) (As := [va_rf (some a14)]) (rest := []) (b := a21) B hR hl rfl I (c_AL_add hR e24) kw_R_134 (by decide) hk rfl (Nat.le_of_ble_eq_true rfl) (Nat.le_of_ble_eq_true rfl) rfl (by simp [cat_i, cat_r, cat_l, va_rf_cat]) d_R_dottedTable_34 (hr_ hc) (hr_ hs) (fun H locs I => ?_)
    have hz := hzn (n := c27) hz
    refine lv_pop (pc := 37) hx hb d_R_dottedTable_37 rfl ?_
    refine q_aload_n (pc := 38) (i := 3) (v := .ref a14) hx hb d_R_dottedTable_38 rfl rfl (lx_get hl rfl) ?_
    cases hm
    exact q_aretA (pc := 39) B I hz hc hs rfl (Or.inl ⟨_, rfl⟩) d_R_dottedTable_39
  · have hm := iff' hcc hm
    refine q_aload_n (pc := 20) (i := 0) (v := .ref p0) hx hb d_R_dottedTable_20 rfl rfl (lx_get hl rfl) ?_
    refine q_aload_n (pc := 21) (i := 2) (v := .ref a1) hx hb d_R_dottedTable_21 rfl rfl (lx_get hl rfl) ?_
    refine ob1 hm (fun x29 e30 hm => ?_)
    refine k_getIN (pc := 22) (z := 3) (k := 1) (index := 102) B hR I (by decide) (by decide) nF_R_102 rfl (fun _ _ => rfl) e30 d_R_dottedTable_22 ?_
    refine oifk hm (fun hk hm => ?_)
    refine ob2 hm (fun q32 S33 e31 hm => ?_)
    refine k_callV (pc := 25) (As := [.int x29]) (rest := []) (b := p0) B hR hl rfl I (c_R_wrong hR e31) kw_R_105 (by decide) hk rfl (Nat.le_of_ble_eq_true rfl) (Nat.le_of_ble_eq_true rfl) rfl (by simp [cat_i, cat_r, cat_l, va_rf_cat]) d_R_dottedTable_25 (hr0 hc) (hr0 hs) (fun H locs I => ?_)
    cases hm
    exact q_aretA (pc := 28) B I hz hc hs rfl (Or.inl ⟨_, rfl⟩) d_R_dottedTable_28
end CW
