section CW
variable {p : Program} {l : Launch} {e : Env} {s : State} {m : MethodId} {args : Array Value} {below : List Frame} {meth : Method} {c : Code} {H : Heap} {locs : List Loc}
variable {ls : Array Slot} {D : va_G} {dA : Nat → ClassId} {hp0 : aH} {sz sz0 b0 N : Nat} {cells slots dc ds mc ms : Nat} {S' K : cS} {r : Int32} {q : Option Nat} {Z : State → Prop}
def x_Ma_max (N b0 : Nat) (K : cS) (p1 : Int32) (p2 : Int32) (S : cS) : Option Int32 :=
  if p1 < p2 then (some p2) else (some p1)
set_option maxRecDepth 100000 in
set_option maxHeartbeats 4000000 in
theorem c_Ma_max {p1 : Int32} {p2 : Int32} {S : cS} {r : Int32} (hR : CR b0 K Z) (hm : x_Ma_max N b0 K p1 p2 S = some r) : Ct l D vwCl (tyL dA) b0 Z y_Ma_max (.code y_Ma_max cb_Ma_max 2 (some .int) :: wsA) 0 0 [.int p1, .int p2] (cH dA b0 S hp0) sz (some (.int r)) (cH dA b0 S hp0) 0 0 := by
  refine ct_ofF (cc := cb_Ma_max) (maxL := 2) (ret := (some .int)) (lo0 := [some (.int p1), some (.int p2)]) hR.1 (by decide +kernel) rfl (by simp [lg_sl, cat_i, cat_r, cat_l, va_rf_cat]) rfl (by simp [lx_all, lv_args, cat_i, cat_r, cat_l, va_rf_cat]) ?_
  intro p e s m args below meth c ls B hnm hl I
  obtain ⟨hx, hb, -⟩ := B.1
  unfold x_Ma_max at hm
  refine lv_iload_n (pc := 0) (i := 0) hx hb d_Ma_max_0 rfl (lx_get hl rfl) ?_
  refine lv_iload_n (pc := 1) (i := 1) hx hb d_Ma_max_1 rfl (lx_get hl rfl) ?_
  refine lv_icmp_lt (pc := 2) (tgt := 9) hx hb d_Ma_max_2 (by decide) (fun hcc => ?_) (fun hcc => ?_)
  · have hm := ift hcc hm
    refine lv_iload_n (pc := 9) (i := 1) hx hb d_Ma_max_9 rfl (lx_get hl rfl) ?_
    cases hm
    exact q_iret (pc := 10) B I rfl d_Ma_max_10
  · have hm := iff' hcc hm
    refine lv_iload_n (pc := 5) (i := 0) hx hb d_Ma_max_5 rfl (lx_get hl rfl) ?_
    refine lv_goto (pc := 6) (tgt := 10) hx hb d_Ma_max_6 (by decide) ?_
    cases hm
    exact q_iret (pc := 10) B I rfl d_Ma_max_10
def x_Ma_min (N b0 : Nat) (K : cS) (p1 : Int32) (p2 : Int32) (S : cS) : Option Int32 :=
  if p2 < p1 then (some p2) else (some p1)
set_option maxRecDepth 100000 in
set_option maxHeartbeats 4000000 in
theorem c_Ma_min {p1 : Int32} {p2 : Int32} {S : cS} {r : Int32} (hR : CR b0 K Z) (hm : x_Ma_min N b0 K p1 p2 S = some r) : Ct l D vwCl (tyL dA) b0 Z y_Ma_min (.code y_Ma_min cb_Ma_min 2 (some .int) :: wsA) 0 0 [.int p1, .int p2] (cH dA b0 S hp0) sz (some (.int r)) (cH dA b0 S hp0) 0 0 := by
  refine ct_ofF (cc := cb_Ma_min) (maxL := 2) (ret := (some .int)) (lo0 := [some (.int p1), some (.int p2)]) hR.1 (by decide +kernel) rfl (by simp [lg_sl, cat_i, cat_r, cat_l, va_rf_cat]) rfl (by simp [lx_all, lv_args, cat_i, cat_r, cat_l, va_rf_cat]) ?_
  intro p e s m args below meth c ls B hnm hl I
  obtain ⟨hx, hb, -⟩ := B.1
  unfold x_Ma_min at hm
  refine lv_iload_n (pc := 0) (i := 0) hx hb d_Ma_min_0 rfl (lx_get hl rfl) ?_
  refine lv_iload_n (pc := 1) (i := 1) hx hb d_Ma_min_1 rfl (lx_get hl rfl) ?_
  refine lv_icmp_gt (pc := 2) (tgt := 9) hx hb d_Ma_min_2 (by decide) (fun hcc => ?_) (fun hcc => ?_)
  · have hm := ift hcc hm
    refine lv_iload_n (pc := 9) (i := 1) hx hb d_Ma_min_9 rfl (lx_get hl rfl) ?_
    cases hm
    exact q_iret (pc := 10) B I rfl d_Ma_min_10
  · have hm := iff' hcc hm
    refine lv_iload_n (pc := 5) (i := 0) hx hb d_Ma_min_5 rfl (lx_get hl rfl) ?_
    refine lv_goto (pc := 6) (tgt := 10) hx hb d_Ma_min_6 (by decide) ?_
    cases hm
    exact q_iret (pc := 10) B I rfl d_Ma_min_10
def x_AS_newLength (N b0 : Nat) (K : cS) (p1 : Int32) (p2 : Int32) (p3 : Int32) (S : cS) : Option Int32 :=
  b1 (x_Ma_max N b0 K p2 p3 S) (fun x2 => if p1 + x2 ≤ 0 then (none) else (if 2147483639 < p1 + x2 then (none) else (some (p1 + x2))))
set_option maxRecDepth 100000 in
set_option maxHeartbeats 4000000 in
theorem c_AS_newLength {p1 : Int32} {p2 : Int32} {p3 : Int32} {S : cS} {r : Int32} (hR : CR b0 K Z) (hm : x_AS_newLength N b0 K p1 p2 p3 S = some r) : Ct l D vwCl (tyL dA) b0 Z y_AS_newLength (.code y_AS_newLength cb_AS_newLength 4 (some .int) :: wsA) 3 120 [.int p1, .int p2, .int p3] (cH dA b0 S hp0) sz (some (.int r)) (cH dA b0 S hp0) 0 0 := by
  refine ct_ofF (cc := cb_AS_newLength) (maxL := 4) (ret := (some .int)) (lo0 := [some (.int p1), some (.int p2), some (.int p3), none]) hR.1 (by decide +kernel) rfl (by simp [lg_sl, cat_i, cat_r, cat_l, va_rf_cat]) rfl (by simp [lx_all, lv_args, cat_i, cat_r, cat_l, va_rf_cat]) ?_
  intro p e s m args below meth c ls B hnm hl I
  obtain ⟨hx, hb, -⟩ := B.1
  unfold x_AS_newLength at hm
  refine lv_iload_n (pc := 0) (i := 0) hx hb d_AS_newLength_0 rfl (lx_get hl rfl) ?_
  refine lv_iload_n (pc := 1) (i := 1) hx hb d_AS_newLength_1 rfl (lx_get hl rfl) ?_
  refine lv_iload_n (pc := 2) (i := 2) hx hb d_AS_newLength_2 rfl (lx_get hl rfl) ?_
  refine ob1 hm (fun x2 e1 hm => ?_)
  refine k_callS (pc := 3) (As := [.int p2, .int p3]) (rest := [.int p1]) B hl rfl I (c_Ma_max hR e1) kw_AS_194 rfl (Nat.le_of_ble_eq_true rfl) (Nat.le_of_ble_eq_true rfl) rfl (by simp [cat_i, cat_r, cat_l, va_rf_cat]) d_AS_newLength_3 (Nat.le_refl _) (Nat.le_refl _) (fun H locs I => ?_)
  refine lv_iadd (pc := 6) hx hb d_AS_newLength_6 ?_
  refine q_istore_n (pc := 7) (i := 3) (lo' := [some (.int p1), some (.int p2), some (.int p3), some (.int (p1 + x2))]) hx hb d_AS_newLength_7 rfl hl (Nat.le_of_ble_eq_true rfl) (lx_ci rfl) rfl (fun ls hl => ?_)
  refine lv_iconst (pc := 8) (v := 0) hx hb d_AS_newLength_8 (by decide) ?_
  refine lv_iload_n (pc := 9) (i := 3) hx hb d_AS_newLength_9 rfl (lx_get hl rfl) ?_
  refine lv_icmp_ge (pc := 10) (tgt := 21) hx hb d_AS_newLength_10 (by decide) (fun hcc => ?_) (fun hcc => ?_)
  · have hm := ift hcc hm
    cases hm
  · have hm := iff' hcc hm
    refine lv_iload_n (pc := 13) (i := 3) hx hb d_AS_newLength_13 rfl (lx_get hl rfl) ?_
    refine lv_ldc (pc := 14) (v := 2147483639) hx hb B.1.2.2.2.1 (B.1.2.2.2.2 _ (List.mem_cons_of_mem _ mK_AS_200)) d_AS_newLength_14 ?_
    refine lv_icmp_gt (pc := 16) (tgt := 21) hx hb d_AS_newLength_16 (by decide) (fun hcc => ?_) (fun hcc => ?_)
    · have hm := ift hcc hm
      cases hm
    · have hm := iff' hcc hm
      refine lv_iload_n (pc := 19) (i := 3) hx hb d_AS_newLength_19 rfl (lx_get hl rfl) ?_
      cases hm
      exact q_iret (pc := 20) B I rfl d_AS_newLength_20
def x_Ar_copyOf (N b0 : Nat) (K : cS) (p1 : Option Nat) (p2 : Int32) (sz : Nat) (S : cS) : Option (Option Nat × cS × Nat × Nat) :=
  b1 p1 (fun a1 => b1 (aN b0 K S 12 a1) (fun x4 => if p2 = x4 then (none) else (b1 (nAo b0 S 12 sz p2) (fun S6 => wr4 1 (p2 : Int32).toNatClampNeg (b1 (aN b0 K S6 12 a1) (fun x8 => b1 (x_Ma_min N b0 K x8 p2 S6) (fun x11 => b1 (cpB b0 S6 a1 0 sz 0 x11) (fun S12 => some (some sz, S12, 0, 0)))))))))
set_option maxRecDepth 100000 in
set_option maxHeartbeats 4000000 in
theorem c_Ar_copyOf {p1 : Option Nat} {p2 : Int32} {S S' : cS} {q : Option Nat} {dc ds : Nat} (hR : CR b0 K Z) (hm : x_Ar_copyOf N b0 K p1 p2 sz S = some (q, S', dc, ds)) : Ct l D vwCl (tyL dA) b0 Z y_Ar_copyOf (.code y_Ar_copyOf cb_Ar_copyOf 3 (some (.array .byte)) :: wsA) 3 120 [va_rf p1, .int p2] (cH dA b0 S hp0) sz (some (va_rf q)) (cH dA b0 S' hp0) dc ds := by
  refine ct_ofF (cc := cb_Ar_copyOf) (maxL := 3) (ret := (some (.array .byte))) (lo0 := [some (va_rf p1), some (.int p2), none]) hR.1 (by decide +kernel) rfl (by simp [lg_sl, cat_i, cat_r, cat_l, va_rf_cat]) rfl (by simp [lx_all, lv_args, cat_i, cat_r, cat_l, va_rf_cat]) ?_
  intro p e s m args below meth c ls B hnm hl I
  obtain ⟨hx, hb, -⟩ := B.1
  have hz : sz = sz + 0 := rfl
  have hc : 0 + dc = dc := Nat.zero_add _
  have hs : 0 + ds = ds := Nat.zero_add _
  unfold x_Ar_copyOf at hm
  refine lv_iload_n (pc := 0) (i := 1) hx hb d_Ar_copyOf_0 rfl (lx_get hl rfl) ?_
  refine q_aload_n (pc := 1) (i := 0) (v := va_rf p1) hx hb d_Ar_copyOf_1 rfl (va_rf_isRef _) (lx_get hl rfl) ?_
  refine ob1 hm (fun a1 e2 hm => ?_)
  have hm_3 := hm; have hl_3 := hl; have I_3 := I
  subst e2
  have hm := hm_3; have hl := hl_3; have I := I_3
  refine ob1 hm (fun x4 e5 hm => ?_)
  refine k_alen (pc := 2) (z := 12) B hR I (by decide) e5 d_Ar_copyOf_2 ?_
  refine lv_icmp_ne (pc := 3) (tgt := 14) hx hb d_Ar_copyOf_3 (by decide) (fun hcc => ?_) (fun hcc => ?_)
  · have hm := iff' hcc hm
    refine lv_iload_n (pc := 14) (i := 1) hx hb d_Ar_copyOf_14 rfl (lx_get hl rfl) ?_
    refine ob1 hm (fun S6 e7 hm => ?_)
    refine owr4 hm hc hs (fun dc ds hm hc hs => ?_)
    refine k_newa_b (pc := 15) B I mA_byte (hr_ hc) (hr_ hs) e7 d_Ar_copyOf_15 (fun H I => ?_)
    have hz := hzn (n := 1) hz
    refine q_astore_n (pc := 17) (i := 2) (v := .ref sz) (lo' := [some (.ref a1), some (.int p2), some (.ref sz)]) hx hb d_Ar_copyOf_17 rfl rfl hl (Nat.le_of_ble_eq_true rfl) (lx_ci rfl) rfl (fun ls hl => ?_)
    refine q_aload_n (pc := 18) (i := 0) (v := .ref a1) hx hb d_Ar_copyOf_18 rfl rfl (lx_get hl rfl) ?_
    refine lv_iconst (pc := 19) (v := 0) hx hb d_Ar_copyOf_19 (by decide) ?_
    refine q_aload_n (pc := 20) (i := 2) (v := .ref sz) hx hb d_Ar_copyOf_20 rfl rfl (lx_get hl rfl) ?_
    refine lv_iconst (pc := 21) (v := 0) hx hb d_Ar_copyOf_21 (by decide) ?_
    refine q_aload_n (pc := 22) (i := 0) (v := .ref a1) hx hb d_Ar_copyOf_22 rfl rfl (lx_get hl rfl) ?_
    refine ob1 hm (fun x8 e9 hm => ?_)
    refine k_alen (pc := 23) (z := 12) B hR I (by decide) e9 d_Ar_copyOf_23 ?_
    refine lv_iload_n (pc := 24) (i := 1) hx hb d_Ar_copyOf_24 rfl (lx_get hl rfl) ?_
    refine ob1 hm (fun x11 e10 hm => ?_)
    refine k_callS (pc := 25) (As := [.int x8, .int p2]) (rest := [.int 0, .ref sz, .int 0, .ref a1]) B hl rfl I (c_Ma_min hR e10) kw_Ar_304 rfl (Nat.le_of_ble_eq_true rfl) (Nat.le_of_ble_eq_true rfl) rfl (by simp [cat_i, cat_r, cat_l, va_rf_cat]) d_Ar_copyOf_25 (hr0 hc) (hr0 hs) (fun H locs I => ?_)
    refine ob1 hm (fun S12 e13 hm => ?_)
    refine k_copyb (pc := 28) (index := 150) B hl rfl I mL_Ar_150 mA_acn mA_acs mA_sys e13 (Nat.le_of_ble_eq_true rfl) (Nat.le_of_ble_eq_true rfl) d_Ar_copyOf_28 (fun H locs I => ?_)
    refine q_aload_n (pc := 31) (i := 2) (v := .ref sz) hx hb d_Ar_copyOf_31 rfl rfl (lx_get hl rfl) ?_
    cases hm
    exact q_aretA (pc := 32) B I hz hc hs rfl (Or.inr ⟨_, rfl⟩) d_Ar_copyOf_32
  · have hm := ift hcc hm
    cases hm
def x_Ar_checkLength (N b0 : Nat) (K : cS) (p1 : Int32) (p2 : Int32) (S : cS) : Option Unit :=
  if p1 ≤ p2 then (some ()) else (none)
set_option maxRecDepth 100000 in
set_option maxHeartbeats 4000000 in
theorem c_Ar_checkLength {p1 : Int32} {p2 : Int32} {S : cS} (hR : CR b0 K Z) (hm : x_Ar_checkLength N b0 K p1 p2 S = some ()) : Ct l D vwCl (tyL dA) b0 Z y_Ar_checkLength (.code y_Ar_checkLength cb_Ar_checkLength 2 none :: wsA) 5 161 [.int p1, .int p2] (cH dA b0 S hp0) sz none (cH dA b0 S hp0) 0 0 := by
  refine ct_ofF (cc := cb_Ar_checkLength) (maxL := 2) (ret := none) (lo0 := [some (.int p1), some (.int p2)]) hR.1 (by decide +kernel) rfl (by simp [lg_sl, cat_i, cat_r, cat_l, va_rf_cat]) rfl (by simp [lx_all, lv_args, cat_i, cat_r, cat_l, va_rf_cat]) ?_
  intro p e s m args below meth c ls B hnm hl I
  obtain ⟨hx, hb, -⟩ := B.1
  unfold x_Ar_checkLength at hm
  refine lv_iload_n (pc := 0) (i := 1) hx hb d_Ar_checkLength_0 rfl (lx_get hl rfl) ?_
  refine lv_iload_n (pc := 1) (i := 0) hx hb d_Ar_checkLength_1 rfl (lx_get hl rfl) ?_
  refine lv_icmp_ge (pc := 2) (tgt := 37) hx hb d_Ar_checkLength_2 (by decide) (fun hcc => ?_) (fun hcc => ?_)
  · have hm := ift hcc hm
    cases hm
    exact q_vret (pc := 37) B I rfl d_Ar_checkLength_37
  · have hm := iff' hcc hm
    cases hm
def x_Ar_copyOfRangeByte (N b0 : Nat) (K : cS) (p1 : Option Nat) (p2 : Int32) (p3 : Int32) (sz : Nat) (S : cS) : Option (Option Nat × cS × Nat × Nat) :=
  b1 (x_Ar_checkLength N b0 K p2 p3 S) (fun u2 => b1 (nAo b0 S 12 sz (p3 - p2)) (fun S3 => wr4 1 (p3 - p2 : Int32).toNatClampNeg (b1 p1 (fun a5 => b1 (aN b0 K S3 12 a5) (fun x8 => b1 (x_Ma_min N b0 K (x8 - p2) (p3 - p2) S3) (fun x11 => b1 (cpB b0 S3 a5 p2 sz 0 x11) (fun S12 => some (some sz, S12, 0, 0))))))))
set_option maxRecDepth 100000 in
set_option maxHeartbeats 4000000 in
theorem c_Ar_copyOfRangeByte {p1 : Option Nat} {p2 : Int32} {p3 : Int32} {S S' : cS} {q : Option Nat} {dc ds : Nat} (hR : CR b0 K Z) (hm : x_Ar_copyOfRangeByte N b0 K p1 p2 p3 sz S = some (q, S', dc, ds)) : Ct l D vwCl (tyL dA) b0 Z y_Ar_copyOfRangeByte (.code y_Ar_copyOfRangeByte cb_Ar_copyOfRangeByte 5 (some (.array .byte)) :: wsA) 6 182 [va_rf p1, .int p2, .int p3] (cH dA b0 S hp0) sz (some (va_rf q)) (cH dA b0 S' hp0) dc ds := by
  refine ct_ofF (cc := cb_Ar_copyOfRangeByte) (maxL := 5) (ret := (some (.array .byte))) (lo0 := [some (va_rf p1), some (.int p2), some (.int p3), none, none]) hR.1 (by decide +kernel) rfl (by simp [lg_sl, cat_i, cat_r, cat_l, va_rf_cat]) rfl (by simp [lx_all, lv_args, cat_i, cat_r, cat_l, va_rf_cat]) ?_
  intro p e s m args below meth c ls B hnm hl I
  obtain ⟨hx, hb, -⟩ := B.1
  have hz : sz = sz + 0 := rfl
  have hc : 0 + dc = dc := Nat.zero_add _
  have hs : 0 + ds = ds := Nat.zero_add _
  unfold x_Ar_copyOfRangeByte at hm
  refine lv_iload_n (pc := 0) (i := 1) hx hb d_Ar_copyOfRangeByte_0 rfl (lx_get hl rfl) ?_
  refine lv_iload_n (pc := 1) (i := 2) hx hb d_Ar_copyOfRangeByte_1 rfl (lx_get hl rfl) ?_
  refine ob1 hm (fun u2 e1 hm => ?_)
  refine k_callS (pc := 2) (As := [.int p2, .int p3]) (rest := []) B hl rfl I (c_Ar_checkLength hR e1) kw_Ar_343 rfl (Nat.le_of_ble_eq_true rfl) (Nat.le_of_ble_eq_true rfl) rfl (by simp [cat_i, cat_r, cat_l, va_rf_cat]) d_Ar_copyOfRangeByte_2 (hr0 hc) (hr0 hs) (fun H locs I => ?_)
  refine lv_iload_n (pc := 5) (i := 2) hx hb d_Ar_copyOfRangeByte_5 rfl (lx_get hl rfl) ?_
  refine lv_iload_n (pc := 6) (i := 1) hx hb d_Ar_copyOfRangeByte_6 rfl (lx_get hl rfl) ?_
  refine lv_isub (pc := 7) hx hb d_Ar_copyOfRangeByte_7 ?_
  refine q_istore_n (pc := 8) (i := 3) (lo' := [some (va_rf p1), some (.int p2), some (.int p3), some (.int (p3 - p2)), none]) hx hb d_Ar_copyOfRangeByte_8 rfl hl (Nat.le_of_ble_eq_true rfl) (lx_ci rfl) rfl (fun ls hl => ?_)
  refine lv_iload_n (pc := 9) (i := 3) hx hb d_Ar_copyOfRangeByte_9 rfl (lx_get hl rfl) ?_
  refine ob1 hm (fun S3 e4 hm => ?_)
  refine owr4 hm hc hs (fun dc ds hm hc hs => ?_)
  refine k_newa_b (pc := 10) B I mA_byte (hr_ hc) (hr_ hs) e4 d_Ar_copyOfRangeByte_10 (fun H I => ?_)
  have hz := hzn (n := 1) hz
  refine q_astore (pc := 12) (i := 4) (v := .ref sz) (lo' := [some (va_rf p1), some (.int p2), some (.int p3), some (.int (p3 - p2)), some (.ref sz)]) hx hb d_Ar_copyOfRangeByte_12 rfl hl (Nat.le_of_ble_eq_true rfl) (lx_ci rfl) rfl (fun ls hl => ?_)
  refine q_aload_n (pc := 14) (i := 0) (v := va_rf p1) hx hb d_Ar_copyOfRangeByte_14 rfl (va_rf_isRef _) (lx_get hl rfl) ?_
  refine lv_iload_n (pc := 15) (i := 1) hx hb d_Ar_copyOfRangeByte_15 rfl (lx_get hl rfl) ?_
  refine q_aload (pc := 16) (i := 4) (v := .ref sz) hx hb d_Ar_copyOfRangeByte_16 rfl (lx_get hl rfl) ?_
  refine lv_iconst (pc := 18) (v := 0) hx hb d_Ar_copyOfRangeByte_18 (by decide) ?_
  refine q_aload_n (pc := 19) (i := 0) (v := va_rf p1) hx hb d_Ar_copyOfRangeByte_19 rfl (va_rf_isRef _) (lx_get hl rfl) ?_
  refine ob1 hm (fun a5 e6 hm => ?_)
  have hm_7 := hm; have hl_7 := hl; have I_7 := I
  subst e6
  have hm := hm_7; have hl := hl_7; have I := I_7
  refine ob1 hm (fun x8 e9 hm => ?_)
  refine k_alen (pc := 20) (z := 12) B hR I (by decide) e9 d_Ar_copyOfRangeByte_20 ?_
  refine lv_iload_n (pc := 21) (i := 1) hx hb d_Ar_copyOfRangeByte_21 rfl (lx_get hl rfl) ?_
  refine lv_isub (pc := 22) hx hb d_Ar_copyOfRangeByte_22 ?_
  refine lv_iload_n (pc := 23) (i := 3) hx hb d_Ar_copyOfRangeByte_23 rfl (lx_get hl rfl) ?_
  refine ob1 hm (fun x11 e10 hm => ?_)
  refine k_callS (pc := 24) (As := [.int (x8 - p2), .int (p3 - p2)]) (rest := [.int 0, .ref sz, .int p2, .ref a5]) B hl rfl I (c_Ma_min hR e10) kw_Ar_304 rfl (Nat.le_of_ble_eq_true rfl) (Nat.le_of_ble_eq_true rfl) rfl (by simp [cat_i, cat_r, cat_l, va_rf_cat]) d_Ar_copyOfRangeByte_24 (hr0 hc) (hr0 hs) (fun H locs I => ?_)
  refine ob1 hm (fun S12 e13 hm => ?_)
  refine k_copyb (pc := 27) (index := 150) B hl rfl I mL_Ar_150 mA_acn mA_acs mA_sys e13 (Nat.le_of_ble_eq_true rfl) (Nat.le_of_ble_eq_true rfl) d_Ar_copyOfRangeByte_27 (fun H locs I => ?_)
  refine q_aload (pc := 30) (i := 4) (v := .ref sz) hx hb d_Ar_copyOfRangeByte_30 rfl (lx_get hl rfl) ?_
  cases hm
  exact q_aretA (pc := 32) B I hz hc hs rfl (Or.inr ⟨_, rfl⟩) d_Ar_copyOfRangeByte_32
def x_Ar_copyOfRange_10 (N b0 : Nat) (K : cS) (y0 : Option Nat) (y1 : Int32) (y2 : Int32) (sz : Nat) (S : cS) : Option (Option Nat × cS × Nat × Nat) :=
  b4 (x_Ar_copyOfRangeByte N b0 K y0 y1 y2 sz S) (fun q2 S3 c4 d5 => wr4 c4 d5 (some (q2, S3, 0, 0)))
set_option maxRecDepth 100000 in
set_option maxHeartbeats 4000000 in
theorem w_Ar_copyOfRange_10 {y0 : Option Nat} {y1 : Int32} {y2 : Int32} {sz : Nat} {S : cS} (B : BX p m c cb_Ar_copyOfRange 3 s args (.code y_Ar_copyOfRange cb_Ar_copyOfRange 3 (some (.array .byte)) :: wsA) RJ_Ar meth (some (.array .byte)) D vwCl (tyL dA) b0 Z) (hR : CR b0 K Z) (hl : lx ls [some (va_rf y0), some (.int y1), some (.int y2)]) (I : AI D vwCl b0 (cH dA b0 S hp0) sz s.heap H locs) (hz : sz = sz0 + cells) (hc : cells + dc = mc) (hs : slots + ds = ms) (hm : x_Ar_copyOfRange_10 N b0 K  y0 y1 y2 sz S = some (q, S', dc, ds)) : W p l e { frames := 7, cells := mc, slots := ms, locals := 206 } s m args below meth c H locs cells slots (MQ below (CQ D vwCl b0 (some (va_rf q)) (cH dA b0 S' hp0) (sz0 + mc)) args s mc ms (fun q => b0 ≤ q)) (F0 m 10 ls []) := by
  obtain ⟨hx, hb, -⟩ := B.1
  unfold x_Ar_copyOfRange_10 at hm
  refine q_aload_n (pc := 10) (i := 0) (v := va_rf y0) hx hb d_Ar_copyOfRange_10 rfl (va_rf_isRef _) (lx_get hl rfl) ?_
  refine lv_iload_n (pc := 11) (i := 1) hx hb d_Ar_copyOfRange_11 rfl (lx_get hl rfl) ?_
  refine lv_iload_n (pc := 12) (i := 2) hx hb d_Ar_copyOfRange_12 rfl (lx_get hl rfl) ?_
  refine ob4 hm (fun q2 S3 c4 d5 e1 hm => ?_)
  refine owr4 hm hc hs (fun dc ds hm hc hs => ?_)
  refine k_callS (pc := 13) (As := [va_rf y0, .int y1, .int y2]) (rest := []) B hl rfl I (c_Ar_copyOfRangeByte hR e1) kw_Ar_339 rfl (Nat.le_of_ble_eq_true rfl) (Nat.le_of_ble_eq_true rfl) rfl (by simp [cat_i, cat_r, cat_l, va_rf_cat]) d_Ar_copyOfRange_13 (hr_ hc) (hr_ hs) (fun H locs I => ?_)
  have hz := hzn (n := c4) hz
  cases hm
  exact q_aretA (pc := 16) B I hz hc hs rfl (Or.inr ⟨_, rfl⟩) d_Ar_copyOfRange_16
def x_Ar_copyOfRange (N b0 : Nat) (K : cS) (p1 : Option Nat) (p2 : Int32) (p3 : Int32) (sz : Nat) (S : cS) : Option (Option Nat × cS × Nat × Nat) :=
  if p2 = 0 then (b1 p1 (fun a1 => b1 (aN b0 K S 12 a1) (fun x4 => if p3 = x4 then (b1 (cLb b0 S a1 sz) (fun S6 => wr4 1 (S.2.1 a1) (ifc b0 S6 12 sz (some (some sz, S6, 0, 0))))) else (x_Ar_copyOfRange_10 N b0 K  (some a1) p2 p3 sz S)))) else (x_Ar_copyOfRange_10 N b0 K  p1 p2 p3 sz S)
set_option maxRecDepth 100000 in
set_option maxHeartbeats 4000000 in
theorem c_Ar_copyOfRange {p1 : Option Nat} {p2 : Int32} {p3 : Int32} {S S' : cS} {q : Option Nat} {dc ds : Nat} (hR : CR b0 K Z) (hm : x_Ar_copyOfRange N b0 K p1 p2 p3 sz S = some (q, S', dc, ds)) : Ct l D vwCl (tyL dA) b0 Z y_Ar_copyOfRange (.code y_Ar_copyOfRange cb_Ar_copyOfRange 3 (some (.array .byte)) :: wsA) 7 206 [va_rf p1, .int p2, .int p3] (cH dA b0 S hp0) sz (some (va_rf q)) (cH dA b0 S' hp0) dc ds := by
  refine ct_ofF (cc := cb_Ar_copyOfRange) (maxL := 3) (ret := (some (.array .byte))) (lo0 := [some (va_rf p1), some (.int p2), some (.int p3)]) hR.1 (by decide +kernel) rfl (by simp [lg_sl, cat_i, cat_r, cat_l, va_rf_cat]) rfl (by simp [lx_all, lv_args, cat_i, cat_r, cat_l, va_rf_cat]) ?_
  intro p e s m args below meth c ls B hnm hl I
  obtain ⟨hx, hb, -⟩ := B.1
  have hz : sz = sz + 0 := rfl
  have hc : 0 + dc = dc := Nat.zero_add _
  have hs : 0 + ds = ds := Nat.zero_add _
  unfold x_Ar_copyOfRange at hm
  refine lv_iload_n (pc := 0) (i := 1) hx hb d_Ar_copyOfRange_0 rfl (lx_get hl rfl) ?_
  refine lv_if_ne (pc := 1) (tgt := 10) hx hb d_Ar_copyOfRange_1 (by decide) (fun hcc => ?_) (fun hcc => ?_)
  · have hm := iff' hcc hm
    exact w_Ar_copyOfRange_10 (y0 := p1) (y1 := p2) (y2 := p3)  B hR hl I hz hc hs hm
  · have hm := ift hcc hm
    refine lv_iload_n (pc := 4) (i := 2) hx hb d_Ar_copyOfRange_4 rfl (lx_get hl rfl) ?_
    refine q_aload_n (pc := 5) (i := 0) (v := va_rf p1) hx hb d_Ar_copyOfRange_5 rfl (va_rf_isRef _) (lx_get hl rfl) ?_
    refine ob1 hm (fun a1 e2 hm => ?_)
    have hm_3 := hm; have hl_3 := hl; have I_3 := I
    subst e2
    have hm := hm_3; have hl := hl_3; have I := I_3
    refine ob1 hm (fun x4 e5 hm => ?_)
    refine k_alen (pc := 6) (z := 12) B hR I (by decide) e5 d_Ar_copyOfRange_6 ?_
    refine lv_icmp_eq (pc := 7) (tgt := 17) hx hb d_Ar_copyOfRange_7 (by decide) (fun hcc => ?_) (fun hcc => ?_)
    · have hm := ift hcc hm
      refine q_aload_n (pc := 17) (i := 0) (v := .ref a1) hx hb d_Ar_copyOfRange_17 rfl rfl (lx_get hl rfl) ?_
      refine ob1 hm (fun S6 e7 hm => ?_)
      refine owr4 hm hc hs (fun dc ds hm hc hs => ?_)
      refine k_clone (pc := 18) (index := 310) B hR hl rfl I mL_Ar_310 mA_cl1 mA_cl2 mA_cl3 mA_cl4 e7 (Nat.le_of_ble_eq_true rfl) (Nat.le_of_ble_eq_true rfl) (hr_ hc) (hr_ hs) d_Ar_copyOfRange_18 (fun H I => ?_)
      have hz := hzn (n := 1) hz
      refine oifc hm (fun hk hm => ?_)
      refine k_castB (pc := 21) (index := 311) B I hk mC_Ar_311 d_Ar_copyOfRange_21 ?_
      cases hm
      exact q_aretA (pc := 24) B I hz hc hs rfl (Or.inr ⟨_, rfl⟩) d_Ar_copyOfRange_24
    · have hm := iff' hcc hm
      exact w_Ar_copyOfRange_10 (y0 := (some a1)) (y1 := p2) (y2 := p3)  B hR hl I hz hc hs hm
def x_Ar_copyOfC (N b0 : Nat) (K : cS) (p1 : Option Nat) (p2 : Int32) (p3 : Option Nat) (sz : Nat) (S : cS) : Option (Option Nat × cS × Nat × Nat) :=
  b1 (K.2.2.2 0 101) (fun a1 => if p3 = some a1 then (b1 (nAo b0 S 13 sz p2) (fun S3 => wr4 1 (p2 : Int32).toNatClampNeg (b1 p1 (fun a5 => b1 (aN b0 K S3 13 a5) (fun x8 => b1 (x_Ma_min N b0 K x8 p2 S3) (fun x11 => b1 (cpR b0 S3 a5 0 sz 0 x11) (fun S12 => some (some sz, S12, 0, 0)))))))) else (none))
set_option maxRecDepth 100000 in
set_option maxHeartbeats 4000000 in
theorem c_Ar_copyOfC {p1 : Option Nat} {p2 : Int32} {p3 : Option Nat} {S S' : cS} {q : Option Nat} {dc ds : Nat} (hR : CR b0 K Z) (hm : x_Ar_copyOfC N b0 K p1 p2 p3 sz S = some (q, S', dc, ds)) : Ct l D vwCl (tyL dA) b0 Z y_Ar_copyOfC (.code y_Ar_copyOfC cb_Ar_copyOfC 4 (some (.array (.object "java/lang/Object"))) :: wsA) 3 120 [va_rf p1, .int p2, va_rf p3] (cH dA b0 S hp0) sz (some (va_rf q)) (cH dA b0 S' hp0) dc ds := by
  refine ct_ofF (cc := cb_Ar_copyOfC) (maxL := 4) (ret := (some (.array (.object "java/lang/Object")))) (lo0 := [some (va_rf p1), some (.int p2), some (va_rf p3), none]) hR.1 (by decide +kernel) rfl (by simp [lg_sl, cat_i, cat_r, cat_l, va_rf_cat]) rfl (by simp [lx_all, lv_args, cat_i, cat_r, cat_l, va_rf_cat]) ?_
  intro p e s m args below meth c ls B hnm hl I
  obtain ⟨hx, hb, -⟩ := B.1
  have hz : sz = sz + 0 := rfl
  have hc : 0 + dc = dc := Nat.zero_add _
  have hs : 0 + ds = ds := Nat.zero_add _
  unfold x_Ar_copyOfC at hm
  refine q_aload_n (pc := 0) (i := 2) (v := va_rf p3) hx hb d_Ar_copyOfC_0 rfl (va_rf_isRef _) (lx_get hl rfl) ?_
  refine ob1 hm (fun a1 e2 hm => ?_)
  refine k_ldcO (pc := 1) (index := 110) B hR mC_Ar_110 e2 d_Ar_copyOfC_1 ?_
  refine lv_acmp_ne (pc := 3) (tgt := 13) (rx := p3) (ry := some a1) hx hb d_Ar_copyOfC_3 (by decide) (fun hcc => ?_) (fun hcc => ?_)
  · have hm := iff' hcc hm
    cases hm
  · have hm := ift hcc hm
    refine lv_iload_n (pc := 6) (i := 1) hx hb d_Ar_copyOfC_6 rfl (lx_get hl rfl) ?_
    refine ob1 hm (fun S3 e4 hm => ?_)
    refine owr4 hm hc hs (fun dc ds hm hc hs => ?_)
    refine k_newq (pc := 7) (index := 2) B hR I mC_Ar_2 (hr_ hc) (hr_ hs) e4 d_Ar_copyOfC_7 (fun H I => ?_)
    have hz := hzn (n := 1) hz
    refine lv_goto (pc := 10) (tgt := 24) hx hb d_Ar_copyOfC_10 (by decide) ?_
    refine q_astore_n (pc := 24) (i := 3) (v := .ref sz) (lo' := [some (va_rf p1), some (.int p2), some (va_rf p3), some (.ref sz)]) hx hb d_Ar_copyOfC_24 rfl rfl hl (Nat.le_of_ble_eq_true rfl) (lx_cq rfl) rfl (fun ls hl => ?_)
    refine q_aload_n (pc := 25) (i := 0) (v := va_rf p1) hx hb d_Ar_copyOfC_25 rfl (va_rf_isRef _) (lx_get hl rfl) ?_
    refine lv_iconst (pc := 26) (v := 0) hx hb d_Ar_copyOfC_26 (by decide) ?_
    refine q_aload_n (pc := 27) (i := 3) (v := .ref sz) hx hb d_Ar_copyOfC_27 rfl rfl (lx_get hl rfl) ?_
    refine lv_iconst (pc := 28) (v := 0) hx hb d_Ar_copyOfC_28 (by decide) ?_
    refine q_aload_n (pc := 29) (i := 0) (v := va_rf p1) hx hb d_Ar_copyOfC_29 rfl (va_rf_isRef _) (lx_get hl rfl) ?_
    refine ob1 hm (fun a5 e6 hm => ?_)
    have hm_7 := hm; have hl_7 := hl; have I_7 := I
    subst e6
    have hm := hm_7; have hl := hl_7; have I := I_7
    refine ob1 hm (fun x8 e9 hm => ?_)
    refine k_alen (pc := 30) (z := 13) B hR I (by decide) e9 d_Ar_copyOfC_30 ?_
    refine lv_iload_n (pc := 31) (i := 1) hx hb d_Ar_copyOfC_31 rfl (lx_get hl rfl) ?_
    refine ob1 hm (fun x11 e10 hm => ?_)
    refine k_callS (pc := 32) (As := [.int x8, .int p2]) (rest := [.int 0, .ref sz, .int 0, .ref a5]) B hl rfl I (c_Ma_min hR e10) kw_Ar_304 rfl (Nat.le_of_ble_eq_true rfl) (Nat.le_of_ble_eq_true rfl) rfl (by simp [cat_i, cat_r, cat_l, va_rf_cat]) d_Ar_copyOfC_32 (hr0 hc) (hr0 hs) (fun H locs I => ?_)
    refine ob1 hm (fun S12 e13 hm => ?_)
    refine k_copyr (pc := 35) (index := 150) B hR hl rfl I mL_Ar_150 mA_acn mA_acs mA_sys e13 (Nat.le_of_ble_eq_true rfl) (Nat.le_of_ble_eq_true rfl) d_Ar_copyOfC_35 (fun H locs I => ?_)
    refine q_aload_n (pc := 38) (i := 3) (v := .ref sz) hx hb d_Ar_copyOfC_38 rfl rfl (lx_get hl rfl) ?_
    cases hm
    exact q_aretA (pc := 39) B I hz hc hs rfl (Or.inr ⟨_, rfl⟩) d_Ar_copyOfC_39
def x_Ar_copyOfO (N b0 : Nat) (K : cS) (p1 : Option Nat) (p2 : Int32) (sz : Nat) (S : cS) : Option (Option Nat × cS × Nat × Nat) :=
  b1 p1 (fun a1 => ifc b0 S 13 a1 (b1 (K.2.2.2 0 101) (fun a4 => b4 (x_Ar_copyOfC N b0 K (some a1) p2 (some a4) sz S) (fun q7 S8 c9 d10 => wr4 c9 d10 (some (q7, S8, 0, 0))))))
set_option maxRecDepth 100000 in
set_option maxHeartbeats 4000000 in
theorem c_Ar_copyOfO {p1 : Option Nat} {p2 : Int32} {S S' : cS} {q : Option Nat} {dc ds : Nat} (hR : CR b0 K Z) (hm : x_Ar_copyOfO N b0 K p1 p2 sz S = some (q, S', dc, ds)) : Ct l D vwCl (tyL dA) b0 Z y_Ar_copyOfO (.code y_Ar_copyOfO cb_Ar_copyOfO 2 (some (.array (.object "java/lang/Object"))) :: wsA) 4 143 [va_rf p1, .int p2] (cH dA b0 S hp0) sz (some (va_rf q)) (cH dA b0 S' hp0) dc ds := by
  refine ct_ofF (cc := cb_Ar_copyOfO) (maxL := 2) (ret := (some (.array (.object "java/lang/Object")))) (lo0 := [some (va_rf p1), some (.int p2)]) hR.1 (by decide +kernel) rfl (by simp [lg_sl, cat_i, cat_r, cat_l, va_rf_cat]) rfl (by simp [lx_all, lv_args, cat_i, cat_r, cat_l, va_rf_cat]) ?_
  intro p e s m args below meth c ls B hnm hl I
  obtain ⟨hx, hb, -⟩ := B.1
  have hz : sz = sz + 0 := rfl
  have hc : 0 + dc = dc := Nat.zero_add _
  have hs : 0 + ds = ds := Nat.zero_add _
  unfold x_Ar_copyOfO at hm
  refine q_aload_n (pc := 0) (i := 0) (v := va_rf p1) hx hb d_Ar_copyOfO_0 rfl (va_rf_isRef _) (lx_get hl rfl) ?_
  refine lv_iload_n (pc := 1) (i := 1) hx hb d_Ar_copyOfO_1 rfl (lx_get hl rfl) ?_
  refine q_aload_n (pc := 2) (i := 0) (v := va_rf p1) hx hb d_Ar_copyOfO_2 rfl (va_rf_isRef _) (lx_get hl rfl) ?_
  refine ob1 hm (fun a1 e2 hm => ?_)
  have hm_3 := hm; have hl_3 := hl; have I_3 := I
  subst e2
  have hm := hm_3; have hl := hl_3; have I := I_3
  refine oifc hm (fun hk hm => ?_)
  refine ob1 hm (fun a4 e5 hm => ?_)
  refine k_getC (pc := 3) (index := 86) B hR hl rfl I hk mL_Ar_86 mA_gc1 mA_gc2 mA_gc3 e5 (Nat.le_of_ble_eq_true rfl) (Nat.le_of_ble_eq_true rfl) d_Ar_copyOfO_3 ?_
  refine ob4 hm (fun q7 S8 c9 d10 e6 hm => ?_)
  refine owr4 hm hc hs (fun dc ds hm hc hs => ?_)
  refine k_callS (pc := 6) (As := [va_rf (some a1), .int p2, va_rf (some a4)]) (rest := []) B hl rfl I (c_Ar_copyOfC hR e6) kw_Ar_300 rfl (Nat.le_of_ble_eq_true rfl) (Nat.le_of_ble_eq_true rfl) rfl (by simp [cat_i, cat_r, cat_l, va_rf_cat]) d_Ar_copyOfO_6 (hr_ hc) (hr_ hs) (fun H locs I => ?_)
  have hz := hzn (n := c9) hz
  cases hm
  exact q_aretA (pc := 9) B I hz hc hs rfl (Or.inr ⟨_, rfl⟩) d_Ar_copyOfO_9
def x_AL_grow1_20 (N b0 : Nat) (K : cS) (y0 : Nat) (y1 : Int32) (y2 : Int32) (sz : Nat) (S : cS) : Option (Option Nat × cS × Nat × Nat) :=
  b1 (x_AS_newLength N b0 K y2 (y1 - y2) (y2 >>> (1 &&& 31)) S) (fun x2 => b1 (gR b0 K S 8 1 y0) (fun q3 => b4 (x_Ar_copyOfO N b0 K q3 x2 sz S) (fun q6 S7 c8 d9 => wr4 c8 d9 (b1 (pR b0 S7 8 1 y0 q6) (fun S10 => some (q6, S10, 0, 0))))))
set_option maxRecDepth 100000 in
set_option maxHeartbeats 4000000 in
theorem w_AL_grow1_20 {y0 : Nat} {y1 : Int32} {y2 : Int32} {sz : Nat} {S : cS} (B : BX p m c cb_AL_grow1 4 s args (.code y_AL_grow1 cb_AL_grow1 4 (some (.array (.object "java/lang/Object"))) :: wsA) RZ8 meth (some (.array (.object "java/lang/Object"))) D vwCl (tyL dA) b0 Z) (hR : CR b0 K Z) (hl : lx ls [some (.ref y0), some (.int y1), some (.int y2), none]) (I : AI D vwCl b0 (cH dA b0 S hp0) sz s.heap H locs) (hz : sz = sz0 + cells) (hc : cells + dc = mc) (hs : slots + ds = ms) (hm : x_AL_grow1_20 N b0 K  y0 y1 y2 sz S = some (q, S', dc, ds)) : W p l e { frames := 5, cells := mc, slots := ms, locals := 164 } s m args below meth c H locs cells slots (MQ below (CQ D vwCl b0 (some (va_rf q)) (cH dA b0 S' hp0) (sz0 + mc)) args s mc ms (fun q => b0 ≤ q)) (F0 m 20 ls []) := by
  obtain ⟨hx, hb, -⟩ := B.1
  unfold x_AL_grow1_20 at hm
  refine lv_iload_n (pc := 20) (i := 2) hx hb d_AL_grow1_20 rfl (lx_get hl rfl) ?_
  refine lv_iload_n (pc := 21) (i := 1) hx hb d_AL_grow1_21 rfl (lx_get hl rfl) ?_
  refine lv_iload_n (pc := 22) (i := 2) hx hb d_AL_grow1_22 rfl (lx_get hl rfl) ?_
  refine lv_isub (pc := 23) hx hb d_AL_grow1_23 ?_
  refine lv_iload_n (pc := 24) (i := 2) hx hb d_AL_grow1_24 rfl (lx_get hl rfl) ?_
  refine lv_iconst (pc := 25) (v := 1) hx hb d_AL_grow1_25 (by decide) ?_
  refine lv_ishr (pc := 26) hx hb d_AL_grow1_26 ?_
  refine ob1 hm (fun x2 e1 hm => ?_)
  refine k_callS (pc := 27) (As := [.int y2, .int (y1 - y2), .int (y2 >>> (1 &&& 31))]) (rest := []) B hl rfl I (c_AS_newLength hR e1) kw_AL_73 rfl (Nat.le_of_ble_eq_true rfl) (Nat.le_of_ble_eq_true rfl) rfl (by simp [cat_i, cat_r, cat_l, va_rf_cat]) d_AL_grow1_27 (hr0 hc) (hr0 hs) (fun H locs I => ?_)
  refine q_istore_n (pc := 30) (i := 3) (lo' := [some (.ref y0), some (.int y1), some (.int y2), some (.int x2)]) hx hb d_AL_grow1_30 rfl hl (Nat.le_of_ble_eq_true rfl) (lx_ci rfl) rfl (fun ls hl => ?_)
  refine q_aload_n (pc := 31) (i := 0) (v := .ref y0) hx hb d_AL_grow1_31 rfl rfl (lx_get hl rfl) ?_
  refine q_aload_n (pc := 32) (i := 0) (v := .ref y0) hx hb d_AL_grow1_32 rfl rfl (lx_get hl rfl) ?_
  refine ob1 hm (fun q3 e4 hm => ?_)
  refine k_getR (pc := 33) (z := 8) (k := 1) (index := 9) B hR I (by decide) (by decide) mF_AL_9 rfl (fun _ _ => rfl) e4 d_AL_grow1_33 ?_
  refine lv_iload_n (pc := 36) (i := 3) hx hb d_AL_grow1_36 rfl (lx_get hl rfl) ?_
  refine ob4 hm (fun q6 S7 c8 d9 e5 hm => ?_)
  refine owr4 hm hc hs (fun dc ds hm hc hs => ?_)
  refine k_callS (pc := 37) (As := [va_rf q3, .int x2]) (rest := [.ref y0]) B hl rfl I (c_Ar_copyOfO hR e5) kw_AL_66 rfl (Nat.le_of_ble_eq_true rfl) (Nat.le_of_ble_eq_true rfl) rfl (by simp [cat_i, cat_r, cat_l, va_rf_cat]) d_AL_grow1_37 (hr_ hc) (hr_ hs) (fun H locs I => ?_)
  have hz := hzn (n := c8) hz
  refine lv_dup_x1 (pc := 40) hx hb d_AL_grow1_40 (va_rf_cat _) rfl ?_
  refine ob1 hm (fun S10 e11 hm => ?_)
  refine k_putR (pc := 41) (z := 8) (k := 1) (index := 9) (v := q6) B I (by decide) (by decide) mF_AL_9 rfl rfl (Or.inr ⟨_, rfl⟩) cset_8_1 e11 d_AL_grow1_41 (fun H locs I => ?_)
  cases hm
  exact q_aretA (pc := 44) B I hz hc hs rfl (Or.inr ⟨_, rfl⟩) d_AL_grow1_44
def x_AL_grow1 (N b0 : Nat) (K : cS) (p0 : Nat) (p1 : Int32) (sz : Nat) (S : cS) : Option (Option Nat × cS × Nat × Nat) :=
  b1 (gR b0 K S 8 1 p0) (fun q1 => b1 q1 (fun a3 => b1 (aN b0 K S 13 a3) (fun x6 => if 0 < x6 then (x_AL_grow1_20 N b0 K  p0 p1 x6 sz S) else (b1 (gR b0 K S 8 1 p0) (fun q8 => b1 (K.2.2.2 0 102) (fun a10 => if q8 = some a10 then (b1 (x_Ma_max N b0 K 10 p1 S) (fun x13 => b1 (nAo b0 S 13 sz x13) (fun S14 => wr4 1 (x13 : Int32).toNatClampNeg (b1 (pR b0 S14 8 1 p0 (some sz)) (fun S16 => some (some sz, S16, 0, 0)))))) else (x_AL_grow1_20 N b0 K  p0 p1 x6 sz S)))))))
set_option maxRecDepth 100000 in
set_option maxHeartbeats 4000000 in
theorem c_AL_grow1 {p0 : Nat} {p1 : Int32} {S S' : cS} {q : Option Nat} {dc ds : Nat} (hR : CR b0 K Z) (hm : x_AL_grow1 N b0 K p0 p1 sz S = some (q, S', dc, ds)) : Ct l D vwCl (tyL dA) b0 Z y_AL_grow1 (.code y_AL_grow1 cb_AL_grow1 4 (some (.array (.object "java/lang/Object"))) :: wsA) 5 164 [.ref p0, .int p1] (cH dA b0 S hp0) sz (some (va_rf q)) (cH dA b0 S' hp0) dc ds := by
  refine ct_ofF (cc := cb_AL_grow1) (maxL := 4) (ret := (some (.array (.object "java/lang/Object")))) (lo0 := [some (.ref p0), some (.int p1), none, none]) hR.1 (by decide +kernel) rfl (by simp [lg_sl, cat_i, cat_r, cat_l, va_rf_cat]) rfl (by simp [lx_all, lv_args, cat_i, cat_r, cat_l, va_rf_cat]) ?_
  intro p e s m args below meth c ls B hnm hl I
  obtain ⟨hx, hb, -⟩ := B.1
  have hz : sz = sz + 0 := rfl
  have hc : 0 + dc = dc := Nat.zero_add _
  have hs : 0 + ds = ds := Nat.zero_add _
  unfold x_AL_grow1 at hm
  refine q_aload_n (pc := 0) (i := 0) (v := .ref p0) hx hb d_AL_grow1_0 rfl rfl (lx_get hl rfl) ?_
  refine ob1 hm (fun q1 e2 hm => ?_)
  refine k_getR (pc := 1) (z := 8) (k := 1) (index := 9) B hR I (by decide) (by decide) mF_AL_9 rfl (fun _ _ => rfl) e2 d_AL_grow1_1 ?_
  refine ob1 hm (fun a3 e4 hm => ?_)
  have hm_5 := hm; have hl_5 := hl; have I_5 := I
  subst e4
  have hm := hm_5; have hl := hl_5; have I := I_5
  refine ob1 hm (fun x6 e7 hm => ?_)
  refine k_alen (pc := 4) (z := 13) B hR I (by decide) e7 d_AL_grow1_4 ?_
  refine q_istore_n (pc := 5) (i := 2) (lo' := [some (.ref p0), some (.int p1), some (.int x6), none]) hx hb d_AL_grow1_5 rfl hl (Nat.le_of_ble_eq_true rfl) (lx_ci rfl) rfl (fun ls hl => ?_)
  refine lv_iload_n (pc := 6) (i := 2) hx hb d_AL_grow1_6 rfl (lx_get hl rfl) ?_
  refine lv_if_gt (pc := 7) (tgt := 20) hx hb d_AL_grow1_7 (by decide) (fun hcc => ?_) (fun hcc => ?_)
  · have hm := ift hcc hm
    exact w_AL_grow1_20 (y0 := p0) (y1 := p1) (y2 := x6)  B hR hl I hz hc hs hm
  · have hm := iff' hcc hm
    refine q_aload_n (pc := 10) (i := 0) (v := .ref p0) hx hb d_AL_grow1_10 rfl rfl (lx_get hl rfl) ?_
    refine ob1 hm (fun q8 e9 hm => ?_)
    refine k_getR (pc := 11) (z := 8) (k := 1) (index := 9) B hR I (by decide) (by decide) mF_AL_9 rfl (fun _ _ => rfl) e9 d_AL_grow1_11 ?_
    refine ob1 hm (fun a10 e11 hm => ?_)
    refine k_dflt (pc := 14) (index := 39) B hR I mF_AL_39 e11 d_AL_grow1_14 ?_
    refine lv_acmp_eq (pc := 17) (tgt := 45) (rx := q8) (ry := some a10) hx hb d_AL_grow1_17 (by decide) (fun hcc => ?_) (fun hcc => ?_)
    · have hm := ift hcc hm
      refine q_aload_n (pc := 45) (i := 0) (v := .ref p0) hx hb d_AL_grow1_45 rfl rfl (lx_get hl rfl) ?_
      refine lv_bipush (pc := 46) (v := 10) hx hb d_AL_grow1_46 (by decide) ?_
      refine lv_iload_n (pc := 48) (i := 1) hx hb d_AL_grow1_48 rfl (lx_get hl rfl) ?_
      refine ob1 hm (fun x13 e12 hm => ?_)
      refine k_callS (pc := 49) (As := [.int 10, .int p1]) (rest := [.ref p0]) B hl rfl I (c_Ma_max hR e12) kw_AL_79 rfl (Nat.le_of_ble_eq_true rfl) (Nat.le_of_ble_eq_true rfl) rfl (by simp [cat_i, cat_r, cat_l, va_rf_cat]) d_AL_grow1_49 (hr0 hc) (hr0 hs) (fun H locs I => ?_)
      refine ob1 hm (fun S14 e15 hm => ?_)
      refine owr4 hm hc hs (fun dc ds hm hc hs => ?_)
      refine k_newq (pc := 52) (index := 7) B hR I mC_AL_7 (hr_ hc) (hr_ hs) e15 d_AL_grow1_52 (fun H I => ?_)
      have hz := hzn (n := 1) hz
      refine lv_dup_x1 (pc := 55) hx hb d_AL_grow1_55 rfl rfl ?_
      refine ob1 hm (fun S16 e17 hm => ?_)
      refine k_putR (pc := 56) (z := 8) (k := 1) (index := 9) (v := (some sz)) B I (by decide) (by decide) mF_AL_9 rfl rfl (Or.inr ⟨_, rfl⟩) cset_8_1 e17 d_AL_grow1_56 (fun H locs I => ?_)
      cases hm
      exact q_aretA (pc := 59) B I hz hc hs rfl (Or.inr ⟨_, rfl⟩) d_AL_grow1_59
    · have hm := iff' hcc hm
      exact w_AL_grow1_20 (y0 := p0) (y1 := p1) (y2 := x6)  B hR hl I hz hc hs hm
def x_AL_grow (N b0 : Nat) (K : cS) (p0 : Nat) (sz : Nat) (S : cS) : Option (Option Nat × cS × Nat × Nat) :=
  b1 (gI b0 K S 8 2 p0) (fun x1 => ifk b0 K S 8 p0 (b4 (x_AL_grow1 N b0 K p0 (x1 + 1) sz S) (fun q4 S5 c6 d7 => wr4 c6 d7 (some (q4, S5, 0, 0)))))
set_option maxRecDepth 100000 in
set_option maxHeartbeats 4000000 in
theorem c_AL_grow {p0 : Nat} {S S' : cS} {q : Option Nat} {dc ds : Nat} (hR : CR b0 K Z) (hm : x_AL_grow N b0 K p0 sz S = some (q, S', dc, ds)) : Ct l D vwCl (tyL dA) b0 Z y_AL_grow (.code y_AL_grow cb_AL_grow 1 (some (.array (.object "java/lang/Object"))) :: wsA) 6 187 [.ref p0] (cH dA b0 S hp0) sz (some (va_rf q)) (cH dA b0 S' hp0) dc ds := by
  refine ct_ofF (cc := cb_AL_grow) (maxL := 1) (ret := (some (.array (.object "java/lang/Object")))) (lo0 := [some (.ref p0)]) hR.1 (by decide +kernel) rfl (by simp [lg_sl, cat_i, cat_r, cat_l, va_rf_cat]) rfl (by simp [lx_all, lv_args, cat_i, cat_r, cat_l, va_rf_cat]) ?_
  intro p e s m args below meth c ls B hnm hl I
  obtain ⟨hx, hb, -⟩ := B.1
  have hz : sz = sz + 0 := rfl
  have hc : 0 + dc = dc := Nat.zero_add _
  have hs : 0 + ds = ds := Nat.zero_add _
  unfold x_AL_grow at hm
  refine q_aload_n (pc := 0) (i := 0) (v := .ref p0) hx hb d_AL_grow_0 rfl rfl (lx_get hl rfl) ?_
  refine q_aload_n (pc := 1) (i := 0) (v := .ref p0) hx hb d_AL_grow_1 rfl rfl (lx_get hl rfl) ?_
  refine ob1 hm (fun x1 e2 hm => ?_)
  refine k_getI (pc := 2) (z := 8) (k := 2) (index := 48) B hR I (by decide) (by decide) mF_AL_48 rfl (fun _ _ => rfl) e2 d_AL_grow_2 ?_
  refine lv_iconst (pc := 5) (v := 1) hx hb d_AL_grow_5 (by decide) ?_
  refine lv_iadd (pc := 6) hx hb d_AL_grow_6 ?_
  refine oifk hm (fun hk hm => ?_)
  refine ob4 hm (fun q4 S5 c6 d7 e3 hm => ?_)
  refine owr4 hm hc hs (fun dc ds hm hc hs => ?_)
  refine k_callV (pc := 7) (As := [.int (x1 + 1)]) (rest := []) (b := p0) B hR hl rfl I (c_AL_grow1 hR e3) kw_AL_69 (by decide) hk rfl (Nat.le_of_ble_eq_true rfl) (Nat.le_of_ble_eq_true rfl) rfl (by simp [cat_i, cat_r, cat_l, va_rf_cat]) d_AL_grow_7 (hr_ hc) (hr_ hs) (fun H locs I => ?_)
  have hz := hzn (n := c6) hz
  cases hm
  exact q_aretA (pc := 10) B I hz hc hs rfl (Or.inr ⟨_, rfl⟩) d_AL_grow_10
def x_AL_add3_11 (N b0 : Nat) (K : cS) (y0 : Nat) (y1 : Option Nat) (y2 : Option Nat) (y3 : Int32) (sz : Nat) (S : cS) : Option (cS × Nat × Nat) :=
  b1 y2 (fun a1 => b1 y1 (fun a4 => b1 (aTR b0 S a1 y3 a4) (fun S7 => b1 (pI b0 S7 8 2 y0 (y3 + 1)) (fun S9 => some (S9, 0, 0)))))
set_option maxRecDepth 100000 in
set_option maxHeartbeats 4000000 in
theorem w_AL_add3_11 {y0 : Nat} {y1 : Option Nat} {y2 : Option Nat} {y3 : Int32} {sz : Nat} {S : cS} (B : BX p m c cb_AL_add3 4 s args (.code y_AL_add3 cb_AL_add3 4 none :: wsA) RZ8 meth none D vwCl (tyL dA) b0 Z) (hR : CR b0 K Z) (hl : lx ls [some (.ref y0), some (va_rf y1), some (va_rf y2), some (.int y3)]) (I : AI D vwCl b0 (cH dA b0 S hp0) sz s.heap H locs) (hz : sz = sz0 + cells) (hc : cells + dc = mc) (hs : slots + ds = ms) (hm : x_AL_add3_11 N b0 K  y0 y1 y2 y3 sz S = some (S', dc, ds)) : W p l e { frames := 7, cells := mc, slots := ms, locals := 207 } s m args below meth c H locs cells slots (MQ below (CQ D vwCl b0 none (cH dA b0 S' hp0) (sz0 + mc)) args s mc ms (fun q => b0 ≤ q)) (F0 m 11 ls []) := by
  obtain ⟨hx, hb, -⟩ := B.1
  unfold x_AL_add3_11 at hm
  refine q_aload_n (pc := 11) (i := 2) (v := va_rf y2) hx hb d_AL_add3_11 rfl (va_rf_isRef _) (lx_get hl rfl) ?_
  refine lv_iload_n (pc := 12) (i := 3) hx hb d_AL_add3_12 rfl (lx_get hl rfl) ?_
  refine q_aload_n (pc := 13) (i := 1) (v := va_rf y1) hx hb d_AL_add3_13 rfl (va_rf_isRef _) (lx_get hl rfl) ?_
  refine ob1 hm (fun a1 e2 hm => ?_)
  have hm_3 := hm; have hl_3 := hl; have I_3 := I
  subst e2
  have hm := hm_3; have hl := hl_3; have I := I_3
  refine ob1 hm (fun a4 e5 hm => ?_)
  have hm_6 := hm; have hl_6 := hl; have I_6 := I
  subst e5
  have hm := hm_6; have hl := hl_6; have I := I_6
  refine ob1 hm (fun S7 e8 hm => ?_)
  refine k_aast (pc := 14) B hR I e8 d_AL_add3_14 (fun H locs I => ?_)
  refine q_aload_n (pc := 15) (i := 0) (v := .ref y0) hx hb d_AL_add3_15 rfl rfl (lx_get hl rfl) ?_
  refine lv_iload_n (pc := 16) (i := 3) hx hb d_AL_add3_16 rfl (lx_get hl rfl) ?_
  refine lv_iconst (pc := 17) (v := 1) hx hb d_AL_add3_17 (by decide) ?_
  refine lv_iadd (pc := 18) hx hb d_AL_add3_18 ?_
  refine ob1 hm (fun S9 e10 hm => ?_)
  refine k_putI (pc := 19) (z := 8) (k := 2) (index := 48) (v := (y3 + 1)) B I (by decide) (by decide) mF_AL_48 rfl rfl rfl rfl cset_8_2 e10 d_AL_add3_19 (fun H locs I => ?_)
  cases hm
  exact q_vretA (pc := 22) B I hz hc hs rfl d_AL_add3_22
def x_AL_add3 (N b0 : Nat) (K : cS) (p0 : Nat) (p1 : Option Nat) (p2 : Option Nat) (p3 : Int32) (sz : Nat) (S : cS) : Option (cS × Nat × Nat) :=
  b1 p2 (fun a1 => b1 (aN b0 K S 13 a1) (fun x4 => if p3 = x4 then (ifk b0 K S 8 p0 (b4 (x_AL_grow N b0 K p0 sz S) (fun q7 S8 c9 d10 => wr3 c9 d10 (x_AL_add3_11 N b0 K  p0 p1 q7 p3 (sz + c9) S8)))) else (x_AL_add3_11 N b0 K  p0 p1 (some a1) p3 sz S)))
set_option maxRecDepth 100000 in
set_option maxHeartbeats 4000000 in
theorem c_AL_add3 {p0 : Nat} {p1 : Option Nat} {p2 : Option Nat} {p3 : Int32} {S S' : cS} {dc ds : Nat} (hR : CR b0 K Z) (hm : x_AL_add3 N b0 K p0 p1 p2 p3 sz S = some (S', dc, ds)) : Ct l D vwCl (tyL dA) b0 Z y_AL_add3 (.code y_AL_add3 cb_AL_add3 4 none :: wsA) 7 207 [.ref p0, va_rf p1, va_rf p2, .int p3] (cH dA b0 S hp0) sz none (cH dA b0 S' hp0) dc ds := by
  refine ct_ofF (cc := cb_AL_add3) (maxL := 4) (ret := none) (lo0 := [some (.ref p0), some (va_rf p1), some (va_rf p2), some (.int p3)]) hR.1 (by decide +kernel) rfl (by simp [lg_sl, cat_i, cat_r, cat_l, va_rf_cat]) rfl (by simp [lx_all, lv_args, cat_i, cat_r, cat_l, va_rf_cat]) ?_
  intro p e s m args below meth c ls B hnm hl I
  obtain ⟨hx, hb, -⟩ := B.1
  have hz : sz = sz + 0 := rfl
  have hc : 0 + dc = dc := Nat.zero_add _
  have hs : 0 + ds = ds := Nat.zero_add _
  unfold x_AL_add3 at hm
  refine lv_iload_n (pc := 0) (i := 3) hx hb d_AL_add3_0 rfl (lx_get hl rfl) ?_
  refine q_aload_n (pc := 1) (i := 2) (v := va_rf p2) hx hb d_AL_add3_1 rfl (va_rf_isRef _) (lx_get hl rfl) ?_
  refine ob1 hm (fun a1 e2 hm => ?_)
  have hm_3 := hm; have hl_3 := hl; have I_3 := I
  subst e2
  have hm := hm_3; have hl := hl_3; have I := I_3
  refine ob1 hm (fun x4 e5 hm => ?_)
  refine k_alen (pc := 2) (z := 13) B hR I (by decide) e5 d_AL_add3_2 ?_
  refine lv_icmp_ne (pc := 3) (tgt := 11) hx hb d_AL_add3_3 (by decide) (fun hcc => ?_) (fun hcc => ?_)
  · have hm := iff' hcc hm
    exact w_AL_add3_11 (y0 := p0) (y1 := p1) (y2 := (some a1)) (y3 := p3)  B hR hl I hz hc hs hm
  · have hm := ift hcc hm
    refine q_aload_n (pc := 6) (i := 0) (v := .ref p0) hx hb d_AL_add3_6 rfl rfl (lx_get hl rfl) ?_
    refine oifk hm (fun hk hm => ?_)
    refine ob4 hm (fun q7 S8 c9 d10 e6 hm => ?_)
    refine owr3 hm hc hs (fun dc ds hm hc hs => ?_)
    refine k_callV (pc := 7) (As := []) (rest := []) (b := p0) B hR hl rfl I (c_AL_grow hR e6) kw_AL_129 (by decide) hk rfl (Nat.le_of_ble_eq_true rfl) (Nat.le_of_ble_eq_true rfl) rfl (by simp [cat_i, cat_r, cat_l, va_rf_cat]) d_AL_add3_7 (hr_ hc) (hr_ hs) (fun H locs I => ?_)
    have hz := hzn (n := c9) hz
    refine q_astore_n (pc := 10) (i := 2) (v := va_rf q7) (lo' := [some (.ref p0), some (va_rf p1), some (va_rf q7), some (.int p3)]) hx hb d_AL_add3_10 rfl (va_rf_isRef _) hl (Nat.le_of_ble_eq_true rfl) (lx_cq rfl) rfl (fun ls hl => ?_)
    exact w_AL_add3_11 (y0 := p0) (y1 := p1) (y2 := q7) (y3 := p3)  B hR hl I hz hc hs hm
def x_AL_add (N b0 : Nat) (K : cS) (p0 : Nat) (p1 : Option Nat) (sz : Nat) (S : cS) : Option (Int32 × cS × Nat × Nat) :=
  b1 (gI b0 K S 8 0 p0) (fun x1 => b1 (pI b0 S 8 0 p0 (x1 + 1)) (fun S3 => b1 (gR b0 K S3 8 1 p0) (fun q5 => b1 (gI b0 K S3 8 2 p0) (fun x7 => ifk b0 K S3 8 p0 (b3 (x_AL_add3 N b0 K p0 p1 q5 x7 sz S3) (fun S10 c11 d12 => wr4 c11 d12 (some (1, S10, 0, 0))))))))
set_option maxRecDepth 100000 in
set_option maxHeartbeats 4000000 in
theorem c_AL_add {p0 : Nat} {p1 : Option Nat} {S S' : cS} {r : Int32} {dc ds : Nat} (hR : CR b0 K Z) (hm : x_AL_add N b0 K p0 p1 sz S = some (r, S', dc, ds)) : Ct l D vwCl (tyL dA) b0 Z y_AL_add (.code y_AL_add cb_AL_add 2 (some .boolean) :: wsA) 8 230 [.ref p0, va_rf p1] (cH dA b0 S hp0) sz (some (.int r)) (cH dA b0 S' hp0) dc ds := by
  refine ct_ofF (cc := cb_AL_add) (maxL := 2) (ret := (some .boolean)) (lo0 := [some (.ref p0), some (va_rf p1)]) hR.1 (by decide +kernel) rfl (by simp [lg_sl, cat_i, cat_r, cat_l, va_rf_cat]) rfl (by simp [lx_all, lv_args, cat_i, cat_r, cat_l, va_rf_cat]) ?_
  intro p e s m args below meth c ls B hnm hl I
  obtain ⟨hx, hb, -⟩ := B.1
  have hz : sz = sz + 0 := rfl
  have hc : 0 + dc = dc := Nat.zero_add _
  have hs : 0 + ds = ds := Nat.zero_add _
  unfold x_AL_add at hm
  refine q_aload_n (pc := 0) (i := 0) (v := .ref p0) hx hb d_AL_add_0 rfl rfl (lx_get hl rfl) ?_
  refine lv_dup (pc := 1) hx hb d_AL_add_1 rfl ?_
  refine ob1 hm (fun x1 e2 hm => ?_)
  refine k_getM (pc := 2) (index := 63) B hR I mF_AL_63 e2 d_AL_add_2 ?_
  refine lv_iconst (pc := 5) (v := 1) hx hb d_AL_add_5 (by decide) ?_
  refine lv_iadd (pc := 6) hx hb d_AL_add_6 ?_
  refine ob1 hm (fun S3 e4 hm => ?_)
  refine k_putM (pc := 7) (index := 63) B I mF_AL_63 e4 d_AL_add_7 (fun H locs I => ?_)
  refine q_aload_n (pc := 10) (i := 0) (v := .ref p0) hx hb d_AL_add_10 rfl rfl (lx_get hl rfl) ?_
  refine q_aload_n (pc := 11) (i := 1) (v := va_rf p1) hx hb d_AL_add_11 rfl (va_rf_isRef _) (lx_get hl rfl) ?_
  refine q_aload_n (pc := 12) (i := 0) (v := .ref p0) hx hb d_AL_add_12 rfl rfl (lx_get hl rfl) ?_
  refine ob1 hm (fun q5 e6 hm => ?_)
  refine k_getR (pc := 13) (z := 8) (k := 1) (index := 9) B hR I (by decide) (by decide) mF_AL_9 rfl (fun _ _ => rfl) e6 d_AL_add_13 ?_
  refine q_aload_n (pc := 16) (i := 0) (v := .ref p0) hx hb d_AL_add_16 rfl rfl (lx_get hl rfl) ?_
  refine ob1 hm (fun x7 e8 hm => ?_)
  refine k_getI (pc := 17) (z := 8) (k := 2) (index := 48) B hR I (by decide) (by decide) mF_AL_48 rfl (fun _ _ => rfl) e8 d_AL_add_17 ?_
  refine oifk hm (fun hk hm => ?_)
  refine ob3 hm (fun S10 c11 d12 e9 hm => ?_)
  refine owr4 hm hc hs (fun dc ds hm hc hs => ?_)
  refine k_callV (pc := 20) (As := [va_rf p1, va_rf q5, .int x7]) (rest := []) (b := p0) B hR hl rfl I (c_AL_add3 hR e9) kw_AL_131 (by decide) hk rfl (Nat.le_of_ble_eq_true rfl) (Nat.le_of_ble_eq_true rfl) rfl (by simp [cat_i, cat_r, cat_l, va_rf_cat]) d_AL_add_20 (hr_ hc) (hr_ hs) (fun H locs I => ?_)
  have hz := hzn (n := c11) hz
  refine lv_iconst (pc := 23) (v := 1) hx hb d_AL_add_23 (by decide) ?_
  cases hm
  exact q_zretA (pc := 24) B I hz hc hs rfl (by decide) d_AL_add_24
def x_AB_newCapacity (N b0 : Nat) (K : cS) (p0 : Nat) (p1 : Int32) (S : cS) : Option Int32 :=
  b1 (gR b0 K S 7 0 p0) (fun q1 => b1 q1 (fun a3 => b1 (aN b0 K S 12 a3) (fun x6 => b1 (gI b0 K S 7 1 p0) (fun x8 => b1 (gI b0 K S 7 1 p0) (fun x10 => b1 (x_AS_newLength N b0 K x6 ((p1 <<< (x8 &&& 31)) - x6) (x6 + (2 <<< (x10 &&& 31))) S) (fun x13 => if x13 = 2147483647 then (none) else (b1 (gI b0 K S 7 1 p0) (fun x14 => some (x13 >>> (x14 &&& 31))))))))))
set_option maxRecDepth 100000 in
set_option maxHeartbeats 4000000 in
theorem c_AB_newCapacity {p0 : Nat} {p1 : Int32} {S : cS} {r : Int32} (hR : CR b0 K Z) (hm : x_AB_newCapacity N b0 K p0 p1 S = some r) : Ct l D vwCl (tyL dA) b0 Z y_AB_newCapacity (.code y_AB_newCapacity cb_AB_newCapacity 6 (some .int) :: wsA) 4 143 [.ref p0, .int p1] (cH dA b0 S hp0) sz (some (.int r)) (cH dA b0 S hp0) 0 0 := by
  refine ct_ofF (cc := cb_AB_newCapacity) (maxL := 6) (ret := (some .int)) (lo0 := [some (.ref p0), some (.int p1), none, none, none, none]) hR.1 (by decide +kernel) rfl (by simp [lg_sl, cat_i, cat_r, cat_l, va_rf_cat]) rfl (by simp [lx_all, lv_args, cat_i, cat_r, cat_l, va_rf_cat]) ?_
  intro p e s m args below meth c ls B hnm hl I
  obtain ⟨hx, hb, -⟩ := B.1
  unfold x_AB_newCapacity at hm
  refine q_aload_n (pc := 0) (i := 0) (v := .ref p0) hx hb d_AB_newCapacity_0 rfl rfl (lx_get hl rfl) ?_
  refine ob1 hm (fun q1 e2 hm => ?_)
  refine k_getR (pc := 1) (z := 7) (k := 0) (index := 15) B hR I (by decide) (by decide) mF_AB_15 rfl (fun _ _ => rfl) e2 d_AB_newCapacity_1 ?_
  refine ob1 hm (fun a3 e4 hm => ?_)
  have hm_5 := hm; have hl_5 := hl; have I_5 := I
  subst e4
  have hm := hm_5; have hl := hl_5; have I := I_5
  refine ob1 hm (fun x6 e7 hm => ?_)
  refine k_alen (pc := 4) (z := 12) B hR I (by decide) e7 d_AB_newCapacity_4 ?_
  refine q_istore_n (pc := 5) (i := 2) (lo' := [some (.ref p0), some (.int p1), some (.int x6), none, none, none]) hx hb d_AB_newCapacity_5 rfl hl (Nat.le_of_ble_eq_true rfl) (lx_ci rfl) rfl (fun ls hl => ?_)
  refine lv_iload_n (pc := 6) (i := 1) hx hb d_AB_newCapacity_6 rfl (lx_get hl rfl) ?_
  refine q_aload_n (pc := 7) (i := 0) (v := .ref p0) hx hb d_AB_newCapacity_7 rfl rfl (lx_get hl rfl) ?_
  refine ob1 hm (fun x8 e9 hm => ?_)
  refine k_getI (pc := 8) (z := 7) (k := 1) (index := 22) B hR I (by decide) (by decide) mF_AB_22 rfl (fun _ _ => rfl) e9 d_AB_newCapacity_8 ?_
  refine lv_ishl (pc := 11) hx hb d_AB_newCapacity_11 ?_
  refine q_istore_n (pc := 12) (i := 3) (lo' := [some (.ref p0), some (.int p1), some (.int x6), some (.int (p1 <<< (x8 &&& 31))), none, none]) hx hb d_AB_newCapacity_12 rfl hl (Nat.le_of_ble_eq_true rfl) (lx_ci rfl) rfl (fun ls hl => ?_)
  refine lv_iload_n (pc := 13) (i := 3) hx hb d_AB_newCapacity_13 rfl (lx_get hl rfl) ?_
  refine lv_iload_n (pc := 14) (i := 2) hx hb d_AB_newCapacity_14 rfl (lx_get hl rfl) ?_
  refine lv_isub (pc := 15) hx hb d_AB_newCapacity_15 ?_
  refine q_istore (pc := 16) (i := 4) (lo' := [some (.ref p0), some (.int p1), some (.int x6), some (.int (p1 <<< (x8 &&& 31))), some (.int ((p1 <<< (x8 &&& 31)) - x6)), none]) hx hb d_AB_newCapacity_16 hl (Nat.le_of_ble_eq_true rfl) (lx_ci rfl) rfl (fun ls hl => ?_)
  refine lv_iload_n (pc := 18) (i := 2) hx hb d_AB_newCapacity_18 rfl (lx_get hl rfl) ?_
  refine lv_iload (pc := 19) (i := 4) hx hb d_AB_newCapacity_19 (lx_get hl rfl) ?_
  refine lv_iload_n (pc := 21) (i := 2) hx hb d_AB_newCapacity_21 rfl (lx_get hl rfl) ?_
  refine lv_iconst (pc := 22) (v := 2) hx hb d_AB_newCapacity_22 (by decide) ?_
  refine q_aload_n (pc := 23) (i := 0) (v := .ref p0) hx hb d_AB_newCapacity_23 rfl rfl (lx_get hl rfl) ?_
  refine ob1 hm (fun x10 e11 hm => ?_)
  refine k_getI (pc := 24) (z := 7) (k := 1) (index := 22) B hR I (by decide) (by decide) mF_AB_22 rfl (fun _ _ => rfl) e11 d_AB_newCapacity_24 ?_
  refine lv_ishl (pc := 27) hx hb d_AB_newCapacity_27 ?_
  refine lv_iadd (pc := 28) hx hb d_AB_newCapacity_28 ?_
  refine ob1 hm (fun x13 e12 hm => ?_)
  refine k_callS (pc := 29) (As := [.int x6, .int ((p1 <<< (x8 &&& 31)) - x6), .int (x6 + (2 <<< (x10 &&& 31)))]) (rest := []) B hl rfl I (c_AS_newLength hR e12) kw_AB_114 rfl (Nat.le_of_ble_eq_true rfl) (Nat.le_of_ble_eq_true rfl) rfl (by simp [cat_i, cat_r, cat_l, va_rf_cat]) d_AB_newCapacity_29 (Nat.le_refl _) (Nat.le_refl _) (fun H locs I => ?_)
  refine q_istore (pc := 32) (i := 5) (lo' := [some (.ref p0), some (.int p1), some (.int x6), some (.int (p1 <<< (x8 &&& 31))), some (.int ((p1 <<< (x8 &&& 31)) - x6)), some (.int x13)]) hx hb d_AB_newCapacity_32 hl (Nat.le_of_ble_eq_true rfl) (lx_ci rfl) rfl (fun ls hl => ?_)
  refine lv_iload (pc := 34) (i := 5) hx hb d_AB_newCapacity_34 (lx_get hl rfl) ?_
  refine lv_ldc (pc := 36) (v := 2147483647) hx hb B.1.2.2.2.1 (B.1.2.2.2.2 _ (List.mem_cons_of_mem _ mK_AB_39)) d_AB_newCapacity_36 ?_
  refine lv_icmp_ne (pc := 38) (tgt := 51) hx hb d_AB_newCapacity_38 (by decide) (fun hcc => ?_) (fun hcc => ?_)
  · have hm := iff' hcc hm
    refine lv_iload (pc := 51) (i := 5) hx hb d_AB_newCapacity_51 (lx_get hl rfl) ?_
    refine q_aload_n (pc := 53) (i := 0) (v := .ref p0) hx hb d_AB_newCapacity_53 rfl rfl (lx_get hl rfl) ?_
    refine ob1 hm (fun x14 e15 hm => ?_)
    refine k_getI (pc := 54) (z := 7) (k := 1) (index := 22) B hR I (by decide) (by decide) mF_AB_22 rfl (fun _ _ => rfl) e15 d_AB_newCapacity_54 ?_
    refine lv_ishr (pc := 57) hx hb d_AB_newCapacity_57 ?_
    cases hm
    exact q_iret (pc := 58) B I rfl d_AB_newCapacity_58
  · have hm := ift hcc hm
    cases hm
def x_AB_ensureCapacityInternal (N b0 : Nat) (K : cS) (p0 : Nat) (p1 : Int32) (sz : Nat) (S : cS) : Option (cS × Nat × Nat) :=
  b1 (gR b0 K S 7 0 p0) (fun q1 => b1 q1 (fun a3 => b1 (aN b0 K S 12 a3) (fun x6 => b1 (gI b0 K S 7 1 p0) (fun x8 => if p1 - (x6 >>> (x8 &&& 31)) ≤ 0 then (some (S, 0, 0)) else (b1 (gR b0 K S 7 0 p0) (fun q10 => ifk b0 K S 7 p0 (b1 (x_AB_newCapacity N b0 K p0 p1 S) (fun x13 => b1 (gI b0 K S 7 1 p0) (fun x14 => b4 (x_Ar_copyOf N b0 K q10 (x13 <<< (x14 &&& 31)) sz S) (fun q17 S18 c19 d20 => wr3 c19 d20 (b1 (pR b0 S18 7 0 p0 q17) (fun S21 => some (S21, 0, 0)))))))))))))
set_option maxRecDepth 100000 in
set_option maxHeartbeats 4000000 in
theorem c_AB_ensureCapacityInternal {p0 : Nat} {p1 : Int32} {S S' : cS} {dc ds : Nat} (hR : CR b0 K Z) (hm : x_AB_ensureCapacityInternal N b0 K p0 p1 sz S = some (S', dc, ds)) : Ct l D vwCl (tyL dA) b0 Z y_AB_ensureCapacityInternal (.code y_AB_ensureCapacityInternal cb_AB_ensureCapacityInternal 3 none :: wsA) 5 168 [.ref p0, .int p1] (cH dA b0 S hp0) sz none (cH dA b0 S' hp0) dc ds := by
  refine ct_ofF (cc := cb_AB_ensureCapacityInternal) (maxL := 3) (ret := none) (lo0 := [some (.ref p0), some (.int p1), none]) hR.1 (by decide +kernel) rfl (by simp [lg_sl, cat_i, cat_r, cat_l, va_rf_cat]) rfl (by simp [lx_all, lv_args, cat_i, cat_r, cat_l, va_rf_cat]) ?_
  intro p e s m args below meth c ls B hnm hl I
  obtain ⟨hx, hb, -⟩ := B.1
  have hz : sz = sz + 0 := rfl
  have hc : 0 + dc = dc := Nat.zero_add _
  have hs : 0 + ds = ds := Nat.zero_add _
  unfold x_AB_ensureCapacityInternal at hm
  refine q_aload_n (pc := 0) (i := 0) (v := .ref p0) hx hb d_AB_ensureCapacityInternal_0 rfl rfl (lx_get hl rfl) ?_
  refine ob1 hm (fun q1 e2 hm => ?_)
  refine k_getR (pc := 1) (z := 7) (k := 0) (index := 15) B hR I (by decide) (by decide) mF_AB_15 rfl (fun _ _ => rfl) e2 d_AB_ensureCapacityInternal_1 ?_
  refine ob1 hm (fun a3 e4 hm => ?_)
  have hm_5 := hm; have hl_5 := hl; have I_5 := I
  subst e4
  have hm := hm_5; have hl := hl_5; have I := I_5
  refine ob1 hm (fun x6 e7 hm => ?_)
  refine k_alen (pc := 4) (z := 12) B hR I (by decide) e7 d_AB_ensureCapacityInternal_4 ?_
  refine q_aload_n (pc := 5) (i := 0) (v := .ref p0) hx hb d_AB_ensureCapacityInternal_5 rfl rfl (lx_get hl rfl) ?_
  refine ob1 hm (fun x8 e9 hm => ?_)
  refine k_getI (pc := 6) (z := 7) (k := 1) (index := 22) B hR I (by decide) (by decide) mF_AB_22 rfl (fun _ _ => rfl) e9 d_AB_ensureCapacityInternal_6 ?_
  refine lv_ishr (pc := 9) hx hb d_AB_ensureCapacityInternal_9 ?_
  refine q_istore_n (pc := 10) (i := 2) (lo' := [some (.ref p0), some (.int p1), some (.int (x6 >>> (x8 &&& 31)))]) hx hb d_AB_ensureCapacityInternal_10 rfl hl (Nat.le_of_ble_eq_true rfl) (lx_ci rfl) rfl (fun ls hl => ?_)
  refine lv_iload_n (pc := 11) (i := 1) hx hb d_AB_ensureCapacityInternal_11 rfl (lx_get hl rfl) ?_
  refine lv_iload_n (pc := 12) (i := 2) hx hb d_AB_ensureCapacityInternal_12 rfl (lx_get hl rfl) ?_
  refine lv_isub (pc := 13) hx hb d_AB_ensureCapacityInternal_13 ?_
  refine lv_if_le (pc := 14) (tgt := 38) hx hb d_AB_ensureCapacityInternal_14 (by decide) (fun hcc => ?_) (fun hcc => ?_)
  · have hm := ift hcc hm
    cases hm
    exact q_vretA (pc := 38) B I hz hc hs rfl d_AB_ensureCapacityInternal_38
  · have hm := iff' hcc hm
    refine q_aload_n (pc := 17) (i := 0) (v := .ref p0) hx hb d_AB_ensureCapacityInternal_17 rfl rfl (lx_get hl rfl) ?_
    refine q_aload_n (pc := 18) (i := 0) (v := .ref p0) hx hb d_AB_ensureCapacityInternal_18 rfl rfl (lx_get hl rfl) ?_
    refine ob1 hm (fun q10 e11 hm => ?_)
    refine k_getR (pc := 19) (z := 7) (k := 0) (index := 15) B hR I (by decide) (by decide) mF_AB_15 rfl (fun _ _ => rfl) e11 d_AB_ensureCapacityInternal_19 ?_
    refine q_aload_n (pc := 22) (i := 0) (v := .ref p0) hx hb d_AB_ensureCapacityInternal_22 rfl rfl (lx_get hl rfl) ?_
    refine lv_iload_n (pc := 23) (i := 1) hx hb d_AB_ensureCapacityInternal_23 rfl (lx_get hl rfl) ?_
    refine oifk hm (fun hk hm => ?_)
    refine ob1 hm (fun x13 e12 hm => ?_)
    refine k_callX (pc := 24) (As := [.int p1]) (rest := [va_rf q10, .ref p0]) (b := p0) B hR hl rfl I (c_AB_newCapacity hR e12) kw_AB_104 (k_selN B hR) (by decide) hk rfl (Nat.le_of_ble_eq_true rfl) (Nat.le_of_ble_eq_true rfl) rfl (by simp [cat_i, cat_r, cat_l, va_rf_cat]) d_AB_ensureCapacityInternal_24 (hr0 hc) (hr0 hs) (fun H locs I => ?_)
    refine q_aload_n (pc := 27) (i := 0) (v := .ref p0) hx hb d_AB_ensureCapacityInternal_27 rfl rfl (lx_get hl rfl) ?_
    refine ob1 hm (fun x14 e15 hm => ?_)
    refine k_getI (pc := 28) (z := 7) (k := 1) (index := 22) B hR I (by decide) (by decide) mF_AB_22 rfl (fun _ _ => rfl) e15 d_AB_ensureCapacityInternal_28 ?_
    refine lv_ishl (pc := 31) hx hb d_AB_ensureCapacityInternal_31 ?_
    refine ob4 hm (fun q17 S18 c19 d20 e16 hm => ?_)
    refine owr3 hm hc hs (fun dc ds hm hc hs => ?_)
    refine k_callS (pc := 32) (As := [va_rf q10, .int (x13 <<< (x14 &&& 31))]) (rest := [.ref p0]) B hl rfl I (c_Ar_copyOf hR e16) kw_AB_108 rfl (Nat.le_of_ble_eq_true rfl) (Nat.le_of_ble_eq_true rfl) rfl (by simp [cat_i, cat_r, cat_l, va_rf_cat]) d_AB_ensureCapacityInternal_32 (hr_ hc) (hr_ hs) (fun H locs I => ?_)
    have hz := hzn (n := c19) hz
    refine ob1 hm (fun S21 e22 hm => ?_)
    refine k_putR (pc := 35) (z := 7) (k := 0) (index := 15) (v := q17) B I (by decide) (by decide) mF_AB_15 rfl rfl (Or.inr ⟨_, rfl⟩) cset_7_0 e22 d_AB_ensureCapacityInternal_35 (fun H locs I => ?_)
    cases hm
    exact q_vretA (pc := 38) B I hz hc hs rfl d_AB_ensureCapacityInternal_38
def x_AB_append (N b0 : Nat) (K : cS) (p0 : Nat) (p1 : Int32) (sz : Nat) (S : cS) : Option (Option Nat × cS × Nat × Nat) :=
  b1 (gI b0 K S 7 3 p0) (fun x1 => ifk b0 K S 7 p0 (b3 (x_AB_ensureCapacityInternal N b0 K p0 (x1 + 1) sz S) (fun S4 c5 d6 => wr4 c5 d6 (ifk b0 K S4 7 p0 (b1 (x_AB_isLatin1 N b0 K p0 S4) (fun x8 => if x8 = 0 then (none) else (b1 (x_L1_canEncode N b0 K p1 S4) (fun x10 => if x10 = 0 then (none) else (b1 (gR b0 K S4 7 0 p0) (fun q11 => b1 (gI b0 K S4 7 3 p0) (fun x13 => b1 (pI b0 S4 7 3 p0 (x13 + 1)) (fun S15 => b1 q11 (fun a17 => b1 (aT b0 S15 12 a17 x13 (vp_nar .byte p1.toInt8.toInt32)) (fun S20 => some (some p0, S20, 0, 0)))))))))))))))
set_option maxRecDepth 100000 in
set_option maxHeartbeats 4000000 in
theorem c_AB_append {p0 : Nat} {p1 : Int32} {S S' : cS} {q : Option Nat} {dc ds : Nat} (hR : CR b0 K Z) (hm : x_AB_append N b0 K p0 p1 sz S = some (q, S', dc, ds)) : Ct l D vwCl (tyL dA) b0 Z y_AB_append (.code y_AB_append cb_AB_append 2 (some (.object "java/lang/AbstractStringBuilder")) :: wsA) 6 190 [.ref p0, .int p1] (cH dA b0 S hp0) sz (some (va_rf q)) (cH dA b0 S' hp0) dc ds := by
  refine ct_ofF (cc := cb_AB_append) (maxL := 2) (ret := (some (.object "java/lang/AbstractStringBuilder"))) (lo0 := [some (.ref p0), some (.int p1)]) hR.1 (by decide +kernel) rfl (by simp [lg_sl, cat_i, cat_r, cat_l, va_rf_cat]) rfl (by simp [lx_all, lv_args, cat_i, cat_r, cat_l, va_rf_cat]) ?_
  intro p e s m args below meth c ls B hnm hl I
  obtain ⟨hx, hb, -⟩ := B.1
  have hz : sz = sz + 0 := rfl
  have hc : 0 + dc = dc := Nat.zero_add _
  have hs : 0 + ds = ds := Nat.zero_add _
  unfold x_AB_append at hm
  refine q_aload_n (pc := 0) (i := 0) (v := .ref p0) hx hb d_AB_append_0 rfl rfl (lx_get hl rfl) ?_
  refine q_aload_n (pc := 1) (i := 0) (v := .ref p0) hx hb d_AB_append_1 rfl rfl (lx_get hl rfl) ?_
  refine ob1 hm (fun x1 e2 hm => ?_)
  refine k_getI (pc := 2) (z := 7) (k := 3) (index := 79) B hR I (by decide) (by decide) mF_AB_79 rfl (fun _ _ => rfl) e2 d_AB_append_2 ?_
  refine lv_iconst (pc := 5) (v := 1) hx hb d_AB_append_5 (by decide) ?_
  refine lv_iadd (pc := 6) hx hb d_AB_append_6 ?_
  refine oifk hm (fun hk hm => ?_)
  refine ob3 hm (fun S4 c5 d6 e3 hm => ?_)
  refine owr4 hm hc hs (fun dc ds hm hc hs => ?_)
  refine k_callX (pc := 7) (As := [.int (x1 + 1)]) (rest := []) (b := p0) B hR hl rfl I (c_AB_ensureCapacityInternal hR e3) kw_AB_100 (k_selE B hR) (by decide) hk rfl (Nat.le_of_ble_eq_true rfl) (Nat.le_of_ble_eq_true rfl) rfl (by simp [cat_i, cat_r, cat_l, va_rf_cat]) d_AB_append_7 (hr_ hc) (hr_ hs) (fun H locs I => ?_)
  have hz := hzn (n := c5) hz
  refine q_aload_n (pc := 10) (i := 0) (v := .ref p0) hx hb d_AB_append_10 rfl rfl (lx_get hl rfl) ?_
  refine oifk hm (fun hk hm => ?_)
  refine ob1 hm (fun x8 e7 hm => ?_)
  refine k_callX (pc := 11) (As := []) (rest := []) (b := p0) B hR hl rfl I (c_AB_isLatin1 hR e7) kw_AB_83 (B.1.2.2.2.2 _ (List.mem_cons_of_mem _ sel_AB_isLatin1)) (by decide) hk rfl (Nat.le_of_ble_eq_true rfl) (Nat.le_of_ble_eq_true rfl) rfl (by simp [cat_i, cat_r, cat_l, va_rf_cat]) d_AB_append_11 (hr0 hc) (hr0 hs) (fun H locs I => ?_)
  refine lv_if_eq (pc := 14) (tgt := 45) hx hb d_AB_append_14 (by decide) (fun hcc => ?_) (fun hcc => ?_)
  · have hm := ift hcc hm
    cases hm
  · have hm := iff' hcc hm
    refine lv_iload_n (pc := 17) (i := 1) hx hb d_AB_append_17 rfl (lx_get hl rfl) ?_
    refine ob1 hm (fun x10 e9 hm => ?_)
    refine k_callS (pc := 18) (As := [.int p1]) (rest := []) B hl rfl I (c_L1_canEncode hR e9) kw_AB_191 rfl (Nat.le_of_ble_eq_true rfl) (Nat.le_of_ble_eq_true rfl) rfl (by simp [cat_i, cat_r, cat_l, va_rf_cat]) d_AB_append_18 (hr0 hc) (hr0 hs) (fun H locs I => ?_)
    refine lv_if_eq (pc := 21) (tgt := 45) hx hb d_AB_append_21 (by decide) (fun hcc => ?_) (fun hcc => ?_)
    · have hm := ift hcc hm
      cases hm
    · have hm := iff' hcc hm
      refine q_aload_n (pc := 24) (i := 0) (v := .ref p0) hx hb d_AB_append_24 rfl rfl (lx_get hl rfl) ?_
      refine ob1 hm (fun q11 e12 hm => ?_)
      refine k_getR (pc := 25) (z := 7) (k := 0) (index := 15) B hR I (by decide) (by decide) mF_AB_15 rfl (fun _ _ => rfl) e12 d_AB_append_25 ?_
      refine q_aload_n (pc := 28) (i := 0) (v := .ref p0) hx hb d_AB_append_28 rfl rfl (lx_get hl rfl) ?_
      refine lv_dup (pc := 29) hx hb d_AB_append_29 rfl ?_
      refine ob1 hm (fun x13 e14 hm => ?_)
      refine k_getI (pc := 30) (z := 7) (k := 3) (index := 79) B hR I (by decide) (by decide) mF_AB_79 rfl (fun _ _ => rfl) e14 d_AB_append_30 ?_
      refine lv_dup_x1 (pc := 33) hx hb d_AB_append_33 rfl rfl ?_
      refine lv_iconst (pc := 34) (v := 1) hx hb d_AB_append_34 (by decide) ?_
      refine lv_iadd (pc := 35) hx hb d_AB_append_35 ?_
      refine ob1 hm (fun S15 e16 hm => ?_)
      refine k_putI (pc := 36) (z := 7) (k := 3) (index := 79) (v := (x13 + 1)) B I (by decide) (by decide) mF_AB_79 rfl rfl rfl rfl cset_7_3 e16 d_AB_append_36 (fun H locs I => ?_)
      refine lv_iload_n (pc := 39) (i := 1) hx hb d_AB_append_39 rfl (lx_get hl rfl) ?_
      refine lv_i2b (pc := 40) hx hb d_AB_append_40 rfl ?_
      refine ob1 hm (fun a17 e18 hm => ?_)
      have hm_19 := hm; have hl_19 := hl; have I_19 := I
      subst e18
      have hm := hm_19; have hl := hl_19; have I := I_19
      refine ob1 hm (fun S20 e21 hm => ?_)
      refine k_bast (pc := 41) B I e21 d_AB_append_41 (fun H locs I => ?_)
      refine lv_goto (pc := 42) (tgt := 75) hx hb d_AB_append_42 (by decide) ?_
      refine q_aload_n (pc := 75) (i := 0) (v := .ref p0) hx hb d_AB_append_75 rfl rfl (lx_get hl rfl) ?_
      cases hm
      exact q_aretA (pc := 76) B I hz hc hs rfl (Or.inl ⟨_, rfl⟩) d_AB_append_76
def x_AB_setLength_76 (N b0 : Nat) (K : cS) (y0 : Nat) (y1 : Int32) (sz : Nat) (S : cS) : Option (cS × Nat × Nat) :=
  b1 (pI b0 S 7 3 y0 y1) (fun S1 => some (S1, 0, 0))
set_option maxRecDepth 100000 in
set_option maxHeartbeats 4000000 in
theorem w_AB_setLength_76 {y0 : Nat} {y1 : Int32} {sz : Nat} {S : cS} (B : BX p m c cb_AB_setLength 2 s args (.code y_AB_setLength cb_AB_setLength 2 none :: wsA) RJ_AB meth none D vwCl (tyL dA) b0 Z) (hR : CR b0 K Z) (hl : lx ls [some (.ref y0), some (.int y1)]) (I : AI D vwCl b0 (cH dA b0 S hp0) sz s.heap H locs) (hz : sz = sz0 + cells) (hc : cells + dc = mc) (hs : slots + ds = ms) (hm : x_AB_setLength_76 N b0 K  y0 y1 sz S = some (S', dc, ds)) : W p l e { frames := 6, cells := mc, slots := ms, locals := 190 } s m args below meth c H locs cells slots (MQ below (CQ D vwCl b0 none (cH dA b0 S' hp0) (sz0 + mc)) args s mc ms (fun q => b0 ≤ q)) (F0 m 76 ls []) := by
  obtain ⟨hx, hb, -⟩ := B.1
  unfold x_AB_setLength_76 at hm
  refine q_aload_n (pc := 76) (i := 0) (v := .ref y0) hx hb d_AB_setLength_76 rfl rfl (lx_get hl rfl) ?_
  refine lv_iload_n (pc := 77) (i := 1) hx hb d_AB_setLength_77 rfl (lx_get hl rfl) ?_
  refine ob1 hm (fun S1 e2 hm => ?_)
  refine k_putI (pc := 78) (z := 7) (k := 3) (index := 79) (v := y1) B I (by decide) (by decide) mF_AB_79 rfl rfl rfl rfl cset_7_3 e2 d_AB_setLength_78 (fun H locs I => ?_)
  cases hm
  exact q_vretA (pc := 81) B I hz hc hs rfl d_AB_setLength_81
def x_AB_setLength (N b0 : Nat) (K : cS) (p0 : Nat) (p1 : Int32) (sz : Nat) (S : cS) : Option (cS × Nat × Nat) :=
  if 0 ≤ p1 then (ifk b0 K S 7 p0 (b3 (x_AB_ensureCapacityInternal N b0 K p0 p1 sz S) (fun S2 c3 d4 => wr3 c3 d4 (b1 (gI b0 K S2 7 3 p0) (fun x5 => if p1 ≤ x5 then (b1 (gI b0 K S2 7 3 p0) (fun x7 => if x7 ≤ p1 then (x_AB_setLength_76 N b0 K  p0 p1 (sz + c3) S2) else (b1 (pI b0 S2 7 2 p0 1) (fun S9 => x_AB_setLength_76 N b0 K  p0 p1 (sz + c3) S9)))) else (none)))))) else (none)
set_option maxRecDepth 100000 in
set_option maxHeartbeats 4000000 in
theorem c_AB_setLength {p0 : Nat} {p1 : Int32} {S S' : cS} {dc ds : Nat} (hR : CR b0 K Z) (hm : x_AB_setLength N b0 K p0 p1 sz S = some (S', dc, ds)) : Ct l D vwCl (tyL dA) b0 Z y_AB_setLength (.code y_AB_setLength cb_AB_setLength 2 none :: wsA) 6 190 [.ref p0, .int p1] (cH dA b0 S hp0) sz none (cH dA b0 S' hp0) dc ds := by
  refine ct_ofF (cc := cb_AB_setLength) (maxL := 2) (ret := none) (lo0 := [some (.ref p0), some (.int p1)]) hR.1 (by decide +kernel) rfl (by simp [lg_sl, cat_i, cat_r, cat_l, va_rf_cat]) rfl (by simp [lx_all, lv_args, cat_i, cat_r, cat_l, va_rf_cat]) ?_
  intro p e s m args below meth c ls B hnm hl I
  obtain ⟨hx, hb, -⟩ := B.1
  have hz : sz = sz + 0 := rfl
  have hc : 0 + dc = dc := Nat.zero_add _
  have hs : 0 + ds = ds := Nat.zero_add _
  unfold x_AB_setLength at hm
  refine lv_iload_n (pc := 0) (i := 1) hx hb d_AB_setLength_0 rfl (lx_get hl rfl) ?_
  refine lv_if_ge (pc := 1) (tgt := 13) hx hb d_AB_setLength_1 (by decide) (fun hcc => ?_) (fun hcc => ?_)
  · have hm := ift hcc hm
    refine q_aload_n (pc := 13) (i := 0) (v := .ref p0) hx hb d_AB_setLength_13 rfl rfl (lx_get hl rfl) ?_
    refine lv_iload_n (pc := 14) (i := 1) hx hb d_AB_setLength_14 rfl (lx_get hl rfl) ?_
    refine oifk hm (fun hk hm => ?_)
    refine ob3 hm (fun S2 c3 d4 e1 hm => ?_)
    refine owr3 hm hc hs (fun dc ds hm hc hs => ?_)
    refine k_callX (pc := 15) (As := [.int p1]) (rest := []) (b := p0) B hR hl rfl I (c_AB_ensureCapacityInternal hR e1) kw_AB_100 (k_selE B hR) (by decide) hk rfl (Nat.le_of_ble_eq_true rfl) (Nat.le_of_ble_eq_true rfl) rfl (by simp [cat_i, cat_r, cat_l, va_rf_cat]) d_AB_setLength_15 (hr_ hc) (hr_ hs) (fun H locs I => ?_)
    have hz := hzn (n := c3) hz
    refine q_aload_n (pc := 18) (i := 0) (v := .ref p0) hx hb d_AB_setLength_18 rfl rfl (lx_get hl rfl) ?_
    refine ob1 hm (fun x5 e6 hm => ?_)
    refine k_getI (pc := 19) (z := 7) (k := 3) (index := 79) B hR I (by decide) (by decide) mF_AB_79 rfl (fun _ _ => rfl) e6 d_AB_setLength_19 ?_
    refine lv_iload_n (pc := 22) (i := 1) hx hb d_AB_setLength_22 rfl (lx_get hl rfl) ?_
    refine lv_icmp_ge (pc := 23) (tgt := 63) hx hb d_AB_setLength_23 (by decide) (fun hcc => ?_) (fun hcc => ?_)
    · have hm := ift hcc hm
      refine q_aload_n (pc := 63) (i := 0) (v := .ref p0) hx hb d_AB_setLength_63 rfl rfl (lx_get hl rfl) ?_
      refine ob1 hm (fun x7 e8 hm => ?_)
      refine k_getI (pc := 64) (z := 7) (k := 3) (index := 79) B hR I (by decide) (by decide) mF_AB_79 rfl (fun _ _ => rfl) e8 d_AB_setLength_64 ?_
      refine lv_iload_n (pc := 67) (i := 1) hx hb d_AB_setLength_67 rfl (lx_get hl rfl) ?_
      refine lv_icmp_le (pc := 68) (tgt := 76) hx hb d_AB_setLength_68 (by decide) (fun hcc => ?_) (fun hcc => ?_)
      · have hm := ift hcc hm
        exact w_AB_setLength_76 (y0 := p0) (y1 := p1)  B hR hl I hz hc hs hm
      · have hm := iff' hcc hm
        refine q_aload_n (pc := 71) (i := 0) (v := .ref p0) hx hb d_AB_setLength_71 rfl rfl (lx_get hl rfl) ?_
        refine lv_iconst (pc := 72) (v := 1) hx hb d_AB_setLength_72 (by decide) ?_
        refine ob1 hm (fun S9 e10 hm => ?_)
        refine k_putI (pc := 73) (z := 7) (k := 2) (index := 73) (v := 1) B I (by decide) (by decide) mF_AB_73 rfl rfl rfl rfl cset_7_2 e10 d_AB_setLength_73 (fun H locs I => ?_)
        exact w_AB_setLength_76 (y0 := p0) (y1 := p1)  B hR hl I hz hc hs hm
    · have hm := iff' hcc hm
      cases hm
  · have hm := iff' hcc hm
    cases hm
def x_SB_append (N b0 : Nat) (K : cS) (p0 : Nat) (p1 : Int32) (sz : Nat) (S : cS) : Option (Option Nat × cS × Nat × Nat) :=
  ifk b0 K S 7 p0 (b4 (x_AB_append N b0 K p0 p1 sz S) (fun q2 S3 c4 d5 => wr4 c4 d5 (some (some p0, S3, 0, 0))))
set_option maxRecDepth 100000 in
set_option maxHeartbeats 4000000 in
theorem c_SB_append {p0 : Nat} {p1 : Int32} {S S' : cS} {q : Option Nat} {dc ds : Nat} (hR : CR b0 K Z) (hm : x_SB_append N b0 K p0 p1 sz S = some (q, S', dc, ds)) : Ct l D vwCl (tyL dA) b0 Z y_SB_append (.code y_SB_append cb_SB_append 2 (some (.object "java/lang/StringBuilder")) :: wsA) 7 211 [.ref p0, .int p1] (cH dA b0 S hp0) sz (some (va_rf q)) (cH dA b0 S' hp0) dc ds := by
  refine ct_ofF (cc := cb_SB_append) (maxL := 2) (ret := (some (.object "java/lang/StringBuilder"))) (lo0 := [some (.ref p0), some (.int p1)]) hR.1 (by decide +kernel) rfl (by simp [lg_sl, cat_i, cat_r, cat_l, va_rf_cat]) rfl (by simp [lx_all, lv_args, cat_i, cat_r, cat_l, va_rf_cat]) ?_
  intro p e s m args below meth c ls B hnm hl I
  obtain ⟨hx, hb, -⟩ := B.1
  have hz : sz = sz + 0 := rfl
  have hc : 0 + dc = dc := Nat.zero_add _
  have hs : 0 + ds = ds := Nat.zero_add _
  unfold x_SB_append at hm
  refine q_aload_n (pc := 0) (i := 0) (v := .ref p0) hx hb d_SB_append_0 rfl rfl (lx_get hl rfl) ?_
  refine lv_iload_n (pc := 1) (i := 1) hx hb d_SB_append_1 rfl (lx_get hl rfl) ?_
  refine oifk hm (fun hk hm => ?_)
  refine ob4 hm (fun q2 S3 c4 d5 e1 hm => ?_)
  refine owr4 hm hc hs (fun dc ds hm hc hs => ?_)
  refine k_callU (pc := 2) (As := [.int p1]) (rest := []) (b := p0) B hR hl rfl I (c_AB_append hR e1) kw_SB_50 (by decide) hk rfl (Nat.le_of_ble_eq_true rfl) (Nat.le_of_ble_eq_true rfl) rfl (by simp [cat_i, cat_r, cat_l, va_rf_cat]) d_SB_append_2 (hr_ hc) (hr_ hs) (fun H locs I => ?_)
  have hz := hzn (n := c4) hz
  refine lv_pop (pc := 5) hx hb d_SB_append_5 (va_rf_cat _) ?_
  refine q_aload_n (pc := 6) (i := 0) (v := .ref p0) hx hb d_SB_append_6 rfl rfl (lx_get hl rfl) ?_
  cases hm
  exact q_aretA (pc := 7) B I hz hc hs rfl (Or.inl ⟨_, rfl⟩) d_SB_append_7
def x_SB_setLength (N b0 : Nat) (K : cS) (p0 : Nat) (p1 : Int32) (sz : Nat) (S : cS) : Option (cS × Nat × Nat) :=
  ifk b0 K S 7 p0 (b3 (x_AB_setLength N b0 K p0 p1 sz S) (fun S2 c3 d4 => wr3 c3 d4 (some (S2, 0, 0))))
set_option maxRecDepth 100000 in
set_option maxHeartbeats 4000000 in
theorem c_SB_setLength {p0 : Nat} {p1 : Int32} {S S' : cS} {dc ds : Nat} (hR : CR b0 K Z) (hm : x_SB_setLength N b0 K p0 p1 sz S = some (S', dc, ds)) : Ct l D vwCl (tyL dA) b0 Z y_SB_setLength (.code y_SB_setLength cb_SB_setLength 2 none :: wsA) 7 211 [.ref p0, .int p1] (cH dA b0 S hp0) sz none (cH dA b0 S' hp0) dc ds := by
  refine ct_ofF (cc := cb_SB_setLength) (maxL := 2) (ret := none) (lo0 := [some (.ref p0), some (.int p1)]) hR.1 (by decide +kernel) rfl (by simp [lg_sl, cat_i, cat_r, cat_l, va_rf_cat]) rfl (by simp [lx_all, lv_args, cat_i, cat_r, cat_l, va_rf_cat]) ?_
  intro p e s m args below meth c ls B hnm hl I
  obtain ⟨hx, hb, -⟩ := B.1
  have hz : sz = sz + 0 := rfl
  have hc : 0 + dc = dc := Nat.zero_add _
  have hs : 0 + ds = ds := Nat.zero_add _
  unfold x_SB_setLength at hm
  refine q_aload_n (pc := 0) (i := 0) (v := .ref p0) hx hb d_SB_setLength_0 rfl rfl (lx_get hl rfl) ?_
  refine lv_iload_n (pc := 1) (i := 1) hx hb d_SB_setLength_1 rfl (lx_get hl rfl) ?_
  refine oifk hm (fun hk hm => ?_)
  refine ob3 hm (fun S2 c3 d4 e1 hm => ?_)
  refine owr3 hm hc hs (fun dc ds hm hc hs => ?_)
  refine k_callU (pc := 2) (As := [.int p1]) (rest := []) (b := p0) B hR hl rfl I (c_AB_setLength hR e1) kw_SB_333 (by decide) hk rfl (Nat.le_of_ble_eq_true rfl) (Nat.le_of_ble_eq_true rfl) rfl (by simp [cat_i, cat_r, cat_l, va_rf_cat]) d_SB_setLength_2 (hr_ hc) (hr_ hs) (fun H locs I => ?_)
  have hz := hzn (n := c3) hz
  cases hm
  exact q_vretA (pc := 5) B I hz hc hs rfl d_SB_setLength_5
def x_SB_length (N b0 : Nat) (K : cS) (p0 : Nat) (S : cS) : Option Int32 :=
  ifk b0 K S 7 p0 (b1 (x_AB_length N b0 K p0 S) (fun x2 => some x2))
set_option maxRecDepth 100000 in
set_option maxHeartbeats 4000000 in
theorem c_SB_length {p0 : Nat} {S : cS} {r : Int32} (hR : CR b0 K Z) (hm : x_SB_length N b0 K p0 S = some r) : Ct l D vwCl (tyL dA) b0 Z y_SB_length (.code y_SB_length cb_SB_length 1 (some .int) :: wsA) 1 20 [.ref p0] (cH dA b0 S hp0) sz (some (.int r)) (cH dA b0 S hp0) 0 0 := by
  refine ct_ofF (cc := cb_SB_length) (maxL := 1) (ret := (some .int)) (lo0 := [some (.ref p0)]) hR.1 (by decide +kernel) rfl (by simp [lg_sl, cat_i, cat_r, cat_l, va_rf_cat]) rfl (by simp [lx_all, lv_args, cat_i, cat_r, cat_l, va_rf_cat]) ?_
  intro p e s m args below meth c ls B hnm hl I
  obtain ⟨hx, hb, -⟩ := B.1
  unfold x_SB_length at hm
  refine q_aload_n (pc := 0) (i := 0) (v := .ref p0) hx hb d_SB_length_0 rfl rfl (lx_get hl rfl) ?_
  refine oifk hm (fun hk hm => ?_)
  refine ob1 hm (fun x2 e1 hm => ?_)
  refine k_callU (pc := 1) (As := []) (rest := []) (b := p0) B hR hl rfl I (c_AB_length hR e1) kw_SB_343 (by decide) hk rfl (Nat.le_of_ble_eq_true rfl) (Nat.le_of_ble_eq_true rfl) rfl (by simp [cat_i, cat_r, cat_l, va_rf_cat]) d_SB_length_1 (Nat.le_refl _) (Nat.le_refl _) (fun H locs I => ?_)
  cases hm
  exact q_iret (pc := 4) B I rfl d_SB_length_4
def x_Str_initAB (N b0 : Nat) (K : cS) (p0 : Nat) (p1 : Option Nat) (p2 : Option Nat) (sz : Nat) (S : cS) : Option (cS × Nat × Nat) :=
  b1 p1 (fun a1 => ifk b0 K S 7 a1 (b1 (x_AB_getValue N b0 K a1 S) (fun q5 => ifk b0 K S 7 a1 (b1 (x_SB_length N b0 K a1 S) (fun x7 => ifk b0 K S 7 a1 (b1 (x_AB_isLatin1 N b0 K a1 S) (fun x9 => if x9 = 0 then (none) else (b1 (pI b0 S 6 1 p0 0) (fun S10 => b4 (x_Ar_copyOfRange N b0 K q5 0 x7 sz S10) (fun q13 S14 c15 d16 => wr3 c15 d16 (b1 (pR b0 S14 6 0 p0 q13) (fun S17 => some (S17, 0, 0)))))))))))))
set_option maxRecDepth 100000 in
set_option maxHeartbeats 4000000 in
theorem c_Str_initAB {p0 : Nat} {p1 : Option Nat} {p2 : Option Nat} {S S' : cS} {dc ds : Nat} (hR : CR b0 K Z) (hm : x_Str_initAB N b0 K p0 p1 p2 sz S = some (S', dc, ds)) : Ct l D vwCl (tyL dA) b0 Z y_Str_initAB (.code y_Str_initAB cb_Str_initAB 5 none :: wsA) 8 228 [.ref p0, va_rf p1, va_rf p2] (cH dA b0 S hp0) sz none (cH dA b0 S' hp0) dc ds := by
  refine ct_ofF (cc := cb_Str_initAB) (maxL := 5) (ret := none) (lo0 := [some (.ref p0), some (va_rf p1), some (va_rf p2), none, none]) hR.1 (by decide +kernel) rfl (by simp [lg_sl, cat_i, cat_r, cat_l, va_rf_cat]) rfl (by simp [lx_all, lv_args, cat_i, cat_r, cat_l, va_rf_cat]) ?_
  intro p e s m args below meth c ls B hnm hl I
  obtain ⟨hx, hb, -⟩ := B.1
  have hz : sz = sz + 0 := rfl
  have hc : 0 + dc = dc := Nat.zero_add _
  have hs : 0 + ds = ds := Nat.zero_add _
  unfold x_Str_initAB at hm
  refine q_aload_n (pc := 0) (i := 0) (v := .ref p0) hx hb d_Str_initAB_0 rfl rfl (lx_get hl rfl) ?_
  refine k_obj (pc := 1) (index := 1) B hl rfl mO_Str_1 mA_oI mA_oC (Nat.le_of_ble_eq_true rfl) (Nat.le_of_ble_eq_true rfl) d_Str_initAB_1 ?_
  refine q_aload_n (pc := 4) (i := 1) (v := va_rf p1) hx hb d_Str_initAB_4 rfl (va_rf_isRef _) (lx_get hl rfl) ?_
  refine ob1 hm (fun a1 e2 hm => ?_)
  have hm_3 := hm; have hl_3 := hl; have I_3 := I
  subst e2
  have hm := hm_3; have hl := hl_3; have I := I_3
  refine oifk hm (fun hk hm => ?_)
  refine ob1 hm (fun q5 e4 hm => ?_)
  refine k_callX (pc := 5) (As := []) (rest := []) (b := a1) B hR hl rfl I (c_AB_getValue hR e4) kw_Str_552 (B.1.2.2.2.2 _ (List.mem_cons_of_mem _ sel_AB_getValue)) (by decide) hk rfl (Nat.le_of_ble_eq_true rfl) (Nat.le_of_ble_eq_true rfl) rfl (by simp [cat_i, cat_r, cat_l, va_rf_cat]) d_Str_initAB_5 (hr0 hc) (hr0 hs) (fun H locs I => ?_)
  refine q_astore_n (pc := 8) (i := 3) (v := va_rf q5) (lo' := [some (.ref p0), some (.ref a1), some (va_rf p2), some (va_rf q5), none]) hx hb d_Str_initAB_8 rfl (va_rf_isRef _) hl (Nat.le_of_ble_eq_true rfl) (lx_cq rfl) rfl (fun ls hl => ?_)
  refine q_aload_n (pc := 9) (i := 1) (v := .ref a1) hx hb d_Str_initAB_9 rfl rfl (lx_get hl rfl) ?_
  refine oifk hm (fun hk hm => ?_)
  refine ob1 hm (fun x7 e6 hm => ?_)
  refine k_callO (pc := 10) (As := []) (rest := []) (b := a1) B hR hl rfl I (c_SB_length hR e6) kw_Str_549 (by decide) hk rfl (Nat.le_of_ble_eq_true rfl) (Nat.le_of_ble_eq_true rfl) rfl (by simp [cat_i, cat_r, cat_l, va_rf_cat]) d_Str_initAB_10 (hr0 hc) (hr0 hs) (fun H locs I => ?_)
  refine q_istore (pc := 13) (i := 4) (lo' := [some (.ref p0), some (.ref a1), some (va_rf p2), some (va_rf q5), some (.int x7)]) hx hb d_Str_initAB_13 hl (Nat.le_of_ble_eq_true rfl) (lx_cq rfl) rfl (fun ls hl => ?_)
  refine q_aload_n (pc := 15) (i := 1) (v := .ref a1) hx hb d_Str_initAB_15 rfl rfl (lx_get hl rfl) ?_
  refine oifk hm (fun hk hm => ?_)
  refine ob1 hm (fun x9 e8 hm => ?_)
  refine k_callX (pc := 16) (As := []) (rest := []) (b := a1) B hR hl rfl I (c_AB_isLatin1 hR e8) kw_Str_1047 (B.1.2.2.2.2 _ (List.mem_cons_of_mem _ sel_AB_isLatin1)) (by decide) hk rfl (Nat.le_of_ble_eq_true rfl) (Nat.le_of_ble_eq_true rfl) rfl (by simp [cat_i, cat_r, cat_l, va_rf_cat]) d_Str_initAB_16 (hr0 hc) (hr0 hs) (fun H locs I => ?_)
  refine lv_if_eq (pc := 19) (tgt := 41) hx hb d_Str_initAB_19 (by decide) (fun hcc => ?_) (fun hcc => ?_)
  · have hm := ift hcc hm
    cases hm
  · have hm := iff' hcc hm
    refine q_aload_n (pc := 22) (i := 0) (v := .ref p0) hx hb d_Str_initAB_22 rfl rfl (lx_get hl rfl) ?_
    refine lv_iconst (pc := 23) (v := 0) hx hb d_Str_initAB_23 (by decide) ?_
    refine ob1 hm (fun S10 e11 hm => ?_)
    refine k_putIF (pc := 24) (z := 6) (k := 1) (index := 15) (v := 0) B I (by decide) (by decide) mF_Str_15 rfl rfl hnm rfl rfl rfl cset_6_1 e11 d_Str_initAB_24 (fun H locs I => ?_)
    refine q_aload_n (pc := 27) (i := 0) (v := .ref p0) hx hb d_Str_initAB_27 rfl rfl (lx_get hl rfl) ?_
    refine q_aload_n (pc := 28) (i := 3) (v := va_rf q5) hx hb d_Str_initAB_28 rfl (va_rf_isRef _) (lx_get hl rfl) ?_
    refine lv_iconst (pc := 29) (v := 0) hx hb d_Str_initAB_29 (by decide) ?_
    refine lv_iload (pc := 30) (i := 4) hx hb d_Str_initAB_30 (lx_get hl rfl) ?_
    refine ob4 hm (fun q13 S14 c15 d16 e12 hm => ?_)
    refine owr3 hm hc hs (fun dc ds hm hc hs => ?_)
    refine k_callS (pc := 32) (As := [va_rf q5, .int 0, .int x7]) (rest := [.ref p0]) B hl rfl I (c_Ar_copyOfRange hR e12) kw_Str_54 rfl (Nat.le_of_ble_eq_true rfl) (Nat.le_of_ble_eq_true rfl) rfl (by simp [cat_i, cat_r, cat_l, va_rf_cat]) d_Str_initAB_32 (hr_ hc) (hr_ hs) (fun H locs I => ?_)
    have hz := hzn (n := c15) hz
    refine ob1 hm (fun S17 e18 hm => ?_)
    refine k_putRF (pc := 35) (z := 6) (k := 0) (index := 9) (v := q13) B I (by decide) (by decide) mF_Str_9 rfl rfl hnm rfl (Or.inr ⟨_, rfl⟩) cset_6_0 e18 d_Str_initAB_35 (fun H locs I => ?_)
    refine lv_goto (pc := 38) (tgt := 97) hx hb d_Str_initAB_38 (by decide) ?_
    cases hm
    exact q_vretA (pc := 97) B I hz hc hs rfl d_Str_initAB_97
def x_Str_initSB (N b0 : Nat) (K : cS) (p0 : Nat) (p1 : Option Nat) (sz : Nat) (S : cS) : Option (cS × Nat × Nat) :=
  b3 (x_Str_initAB N b0 K p0 p1 none sz S) (fun S2 c3 d4 => wr3 c3 d4 (some (S2, 0, 0)))
set_option maxRecDepth 100000 in
set_option maxHeartbeats 4000000 in
theorem c_Str_initSB {p0 : Nat} {p1 : Option Nat} {S S' : cS} {dc ds : Nat} (hR : CR b0 K Z) (hm : x_Str_initSB N b0 K p0 p1 sz S = some (S', dc, ds)) : Ct l D vwCl (tyL dA) b0 Z y_Str_initSB (.code y_Str_initSB cb_Str_initSB 2 none :: wsA) 9 252 [.ref p0, va_rf p1] (cH dA b0 S hp0) sz none (cH dA b0 S' hp0) dc ds := by
  refine ct_ofF (cc := cb_Str_initSB) (maxL := 2) (ret := none) (lo0 := [some (.ref p0), some (va_rf p1)]) hR.1 (by decide +kernel) rfl (by simp [lg_sl, cat_i, cat_r, cat_l, va_rf_cat]) rfl (by simp [lx_all, lv_args, cat_i, cat_r, cat_l, va_rf_cat]) ?_
  intro p e s m args below meth c ls B hnm hl I
  obtain ⟨hx, hb, -⟩ := B.1
  have hz : sz = sz + 0 := rfl
  have hc : 0 + dc = dc := Nat.zero_add _
  have hs : 0 + ds = ds := Nat.zero_add _
  unfold x_Str_initSB at hm
  refine q_aload_n (pc := 0) (i := 0) (v := .ref p0) hx hb d_Str_initSB_0 rfl rfl (lx_get hl rfl) ?_
  refine q_aload_n (pc := 1) (i := 1) (v := va_rf p1) hx hb d_Str_initSB_1 rfl (va_rf_isRef _) (lx_get hl rfl) ?_
  refine lv_null (pc := 2) hx hb d_Str_initSB_2 ?_
  refine ob3 hm (fun S2 c3 d4 e1 hm => ?_)
  refine owr3 hm hc hs (fun dc ds hm hc hs => ?_)
  refine k_callI (pc := 3) (As := [va_rf p1, va_rf none]) (rest := []) (b := p0) B hl rfl I (c_Str_initAB hR e1) kw_Str_489 rfl (Nat.le_of_ble_eq_true rfl) (Nat.le_of_ble_eq_true rfl) rfl (by simp [cat_i, cat_r, cat_l, va_rf_cat]) d_Str_initSB_3 (hr_ hc) (hr_ hs) (fun H locs I => ?_)
  have hz := hzn (n := c3) hz
  cases hm
  exact q_vretA (pc := 6) B I hz hc hs rfl d_Str_initSB_6
def x_SB_toString (N b0 : Nat) (K : cS) (p0 : Nat) (sz : Nat) (S : cS) : Option (Option Nat × cS × Nat × Nat) :=
  wr4 1 4 (b1 (nOo b0 S 6 sz) (fun S1 => b3 (x_Str_initSB N b0 K sz (some p0) (sz + 1) S1) (fun S4 c5 d6 => wr4 c5 d6 (some (some sz, S4, 0, 0)))))
set_option maxRecDepth 100000 in
set_option maxHeartbeats 4000000 in
theorem c_SB_toString {p0 : Nat} {S S' : cS} {q : Option Nat} {dc ds : Nat} (hR : CR b0 K Z) (hm : x_SB_toString N b0 K p0 sz S = some (q, S', dc, ds)) : Ct l D vwCl (tyL dA) b0 Z y_SB_toString (.code y_SB_toString cb_SB_toString 1 (some (.object "java/lang/String")) :: wsA) 10 273 [.ref p0] (cH dA b0 S hp0) sz (some (va_rf q)) (cH dA b0 S' hp0) dc ds := by
  refine ct_ofF (cc := cb_SB_toString) (maxL := 1) (ret := (some (.object "java/lang/String"))) (lo0 := [some (.ref p0)]) hR.1 (by decide +kernel) rfl (by simp [lg_sl, cat_i, cat_r, cat_l, va_rf_cat]) rfl (by simp [lx_all, lv_args, cat_i, cat_r, cat_l, va_rf_cat]) ?_
  intro p e s m args below meth c ls B hnm hl I
  obtain ⟨hx, hb, -⟩ := B.1
  have hz : sz = sz + 0 := rfl
  have hc : 0 + dc = dc := Nat.zero_add _
  have hs : 0 + ds = ds := Nat.zero_add _
  unfold x_SB_toString at hm
  refine owr4 hm hc hs (fun dc ds hm hc hs => ?_)
  refine ob1 hm (fun S1 e2 hm => ?_)
  refine k_new (pc := 0) (z := 6) (index := 18) (n := 4) B I (by decide) mC_SB_18 mI_6 mN_6 nf_6 (hr_ hc) (hr_ hs) e2 d_SB_toString_0 (fun H I => ?_)
  have hz := hzn (n := 1) hz
  refine lv_dup (pc := 3) hx hb d_SB_toString_3 rfl ?_
  refine q_aload_n (pc := 4) (i := 0) (v := .ref p0) hx hb d_SB_toString_4 rfl rfl (lx_get hl rfl) ?_
  refine ob3 hm (fun S4 c5 d6 e3 hm => ?_)
  refine owr4 hm hc hs (fun dc ds hm hc hs => ?_)
  refine k_callI (pc := 5) (As := [va_rf (some p0)]) (rest := [.ref sz]) (b := sz) B hl rfl I (c_Str_initSB hR e3) kw_SB_137 rfl (Nat.le_of_ble_eq_true rfl) (Nat.le_of_ble_eq_true rfl) rfl (by simp [cat_i, cat_r, cat_l, va_rf_cat]) d_SB_toString_5 (hr_ hc) (hr_ hs) (fun H locs I => ?_)
  have hz := hzn (n := c5) hz
  cases hm
  exact q_aretA (pc := 8) B I hz hc hs rfl (Or.inl ⟨_, rfl⟩) d_SB_toString_8
end CW
