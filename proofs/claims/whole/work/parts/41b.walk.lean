section CW
variable {p : Program} {l : Launch} {e : Env} {s : State} {m : MethodId} {args : Array Value} {below : List Frame} {meth : Method} {c : Code} {H : Heap} {locs : List Loc}
variable {ls : Array Slot} {D : va_G} {dA : Nat → ClassId} {hp0 : aH} {sz sz0 b0 N : Nat} {cells slots dc ds mc ms : Nat} {S' K : cS} {r : Int32} {q : Option Nat} {Z : State → Prop}
def x_Str_coder (N b0 : Nat) (K : cS) (p0 : Nat) (S : cS) : Option Int32 :=
  b1 (gI b0 K S 6 1 p0) (fun x1 => if narrow .byte (.int x1) = .int x1 then (some x1) else none)
set_option maxRecDepth 100000 in
set_option maxHeartbeats 4000000 in
theorem c_Str_coder {p0 : Nat} {S : cS} {r : Int32} (hR : CR b0 K Z) (hm : x_Str_coder N b0 K p0 S = some r) : Ct l D vwCl (tyL dA) b0 Z y_Str_coder (.code y_Str_coder cb_Str_coder 1 (some .byte) :: wsA) 0 0 [.ref p0] (cH dA b0 S hp0) sz (some (.int r)) (cH dA b0 S hp0) 0 0 := by
  refine ct_ofF (cc := cb_Str_coder) (maxL := 1) (ret := (some .byte)) (lo0 := [some (.ref p0)]) hR.1 (by decide +kernel) rfl (by simp [lg_sl, cat_i, cat_r, cat_l, va_rf_cat]) rfl (by simp [lx_all, lv_args, cat_i, cat_r, cat_l, va_rf_cat]) ?_
  intro p e s m args below meth c ls B hnm hl I
  obtain ⟨hx, hb, -⟩ := B.1
  unfold x_Str_coder at hm
  refine k_compact (pc := 0) (index := 38) B hR I mF_Str_38 d_Str_coder_0 ?_
  refine lv_if_eq (pc := 3) (tgt := 13) hx hb d_Str_coder_3 (by decide) (fun hc => absurd hc (by decide)) (fun _ => ?_)
  refine q_aload_n (pc := 6) (i := 0) (v := .ref p0) hx hb d_Str_coder_6 rfl rfl (lx_get hl rfl) ?_
  refine ob1 hm (fun x1 e2 hm => ?_)
  refine k_getI (pc := 7) (z := 6) (k := 1) (index := 15) B hR I (by decide) (by decide) mF_Str_15 rfl (fun _ _ => rfl) e2 d_Str_coder_7 ?_
  refine lv_goto (pc := 10) (tgt := 14) hx hb d_Str_coder_10 (by decide) ?_
  by_cases hq : narrow .byte (.int x1) = .int x1
  · have hm := ift hq hm
    cases hm
    exact q_zret (pc := 14) B I rfl hq d_Str_coder_14
  · have hm := iff' hq hm
    cases hm
def x_Str_length (N b0 : Nat) (K : cS) (p0 : Nat) (S : cS) : Option Int32 :=
  b1 (gR b0 K S 6 0 p0) (fun q1 => b1 q1 (fun a3 => b1 (aN b0 K S 12 a3) (fun x6 => ifk b0 K S 6 p0 (b1 (x_Str_coder N b0 K p0 S) (fun x9 => some (x6 >>> (x9 &&& 31)))))))
set_option maxRecDepth 100000 in
set_option maxHeartbeats 4000000 in
theorem c_Str_length {p0 : Nat} {S : cS} {r : Int32} (hR : CR b0 K Z) (hm : x_Str_length N b0 K p0 S = some r) : Ct l D vwCl (tyL dA) b0 Z y_Str_length (.code y_Str_length cb_Str_length 1 (some .int) :: wsA) 1 20 [.ref p0] (cH dA b0 S hp0) sz (some (.int r)) (cH dA b0 S hp0) 0 0 := by
  refine ct_ofF (cc := cb_Str_length) (maxL := 1) (ret := (some .int)) (lo0 := [some (.ref p0)]) hR.1 (by decide +kernel) rfl (by simp [lg_sl, cat_i, cat_r, cat_l, va_rf_cat]) rfl (by simp [lx_all, lv_args, cat_i, cat_r, cat_l, va_rf_cat]) ?_
  intro p e s m args below meth c ls B hnm hl I
  obtain ⟨hx, hb, -⟩ := B.1
  unfold x_Str_length at hm
  refine q_aload_n (pc := 0) (i := 0) (v := .ref p0) hx hb d_Str_length_0 rfl rfl (lx_get hl rfl) ?_
  refine ob1 hm (fun q1 e2 hm => ?_)
  refine k_getR (pc := 1) (z := 6) (k := 0) (index := 9) B hR I (by decide) (by decide) mF_Str_9 rfl (fun _ _ => rfl) e2 d_Str_length_1 ?_
  refine ob1 hm (fun a3 e4 hm => ?_)
  have hm_5 := hm; have hl_5 := hl; have I_5 := I
  subst e4
  have hm := hm_5; have hl := hl_5; have I := I_5
  refine ob1 hm (fun x6 e7 hm => ?_)
  refine k_alen (pc := 4) (z := 12) B hR I (by decide) e7 d_Str_length_4 ?_
  refine q_aload_n (pc := 5) (i := 0) (v := .ref p0) hx hb d_Str_length_5 rfl rfl (lx_get hl rfl) ?_
  refine oifk hm (fun hk hm => ?_)
  refine ob1 hm (fun x9 e8 hm => ?_)
  refine k_callV (pc := 6) (As := []) (rest := [.int x6]) (b := p0) B hR hl rfl I (c_Str_coder hR e8) kw_Str_335 (by decide) hk rfl (Nat.le_of_ble_eq_true rfl) (Nat.le_of_ble_eq_true rfl) rfl (by simp [cat_i, cat_r, cat_l, va_rf_cat]) d_Str_length_6 (Nat.le_refl _) (Nat.le_refl _) (fun H locs I => ?_)
  refine lv_ishr (pc := 9) hx hb d_Str_length_9 ?_
  cases hm
  exact q_iret (pc := 10) B I rfl d_Str_length_10
def x_Str_isEmpty (N b0 : Nat) (K : cS) (p0 : Nat) (S : cS) : Option Int32 :=
  b1 (gR b0 K S 6 0 p0) (fun q1 => b1 q1 (fun a3 => b1 (aN b0 K S 12 a3) (fun x6 => if x6 = 0 then (some 1) else (some 0))))
set_option maxRecDepth 100000 in
set_option maxHeartbeats 4000000 in
theorem c_Str_isEmpty {p0 : Nat} {S : cS} {r : Int32} (hR : CR b0 K Z) (hm : x_Str_isEmpty N b0 K p0 S = some r) : Ct l D vwCl (tyL dA) b0 Z y_Str_isEmpty (.code y_Str_isEmpty cb_Str_isEmpty 1 (some .boolean) :: wsA) 0 0 [.ref p0] (cH dA b0 S hp0) sz (some (.int r)) (cH dA b0 S hp0) 0 0 := by
  refine ct_ofF (cc := cb_Str_isEmpty) (maxL := 1) (ret := (some .boolean)) (lo0 := [some (.ref p0)]) hR.1 (by decide +kernel) rfl (by simp [lg_sl, cat_i, cat_r, cat_l, va_rf_cat]) rfl (by simp [lx_all, lv_args, cat_i, cat_r, cat_l, va_rf_cat]) ?_
  intro p e s m args below meth c ls B hnm hl I
  obtain ⟨hx, hb, -⟩ := B.1
  unfold x_Str_isEmpty at hm
  refine q_aload_n (pc := 0) (i := 0) (v := .ref p0) hx hb d_Str_isEmpty_0 rfl rfl (lx_get hl rfl) ?_
  refine ob1 hm (fun q1 e2 hm => ?_)
  refine k_getR (pc := 1) (z := 6) (k := 0) (index := 9) B hR I (by decide) (by decide) mF_Str_9 rfl (fun _ _ => rfl) e2 d_Str_isEmpty_1 ?_
  refine ob1 hm (fun a3 e4 hm => ?_)
  have hm_5 := hm; have hl_5 := hl; have I_5 := I
  subst e4
  have hm := hm_5; have hl := hl_5; have I := I_5
  refine ob1 hm (fun x6 e7 hm => ?_)
  refine k_alen (pc := 4) (z := 12) B hR I (by decide) e7 d_Str_isEmpty_4 ?_
  refine lv_if_ne (pc := 5) (tgt := 12) hx hb d_Str_isEmpty_5 (by decide) (fun hc => ?_) (fun hc => ?_)
  · have hm := iff' hc hm
    refine lv_iconst (pc := 12) (v := 0) hx hb d_Str_isEmpty_12 (by decide) ?_
    cases hm
    exact q_zret (pc := 13) B I rfl (by decide) d_Str_isEmpty_13
  · have hm := ift hc hm
    refine lv_iconst (pc := 8) (v := 1) hx hb d_Str_isEmpty_8 (by decide) ?_
    refine lv_goto (pc := 9) (tgt := 13) hx hb d_Str_isEmpty_9 (by decide) ?_
    cases hm
    exact q_zret (pc := 13) B I rfl (by decide) d_Str_isEmpty_13
def x_Str_isLatin1 (N b0 : Nat) (K : cS) (p0 : Nat) (S : cS) : Option Int32 :=
  b1 (gI b0 K S 6 1 p0) (fun x1 => if x1 = 0 then (some 1) else (some 0))
set_option maxRecDepth 100000 in
set_option maxHeartbeats 4000000 in
theorem c_Str_isLatin1 {p0 : Nat} {S : cS} {r : Int32} (hR : CR b0 K Z) (hm : x_Str_isLatin1 N b0 K p0 S = some r) : Ct l D vwCl (tyL dA) b0 Z y_Str_isLatin1 (.code y_Str_isLatin1 cb_Str_isLatin1 1 (some .boolean) :: wsA) 0 0 [.ref p0] (cH dA b0 S hp0) sz (some (.int r)) (cH dA b0 S hp0) 0 0 := by
  refine ct_ofF (cc := cb_Str_isLatin1) (maxL := 1) (ret := (some .boolean)) (lo0 := [some (.ref p0)]) hR.1 (by decide +kernel) rfl (by simp [lg_sl, cat_i, cat_r, cat_l, va_rf_cat]) rfl (by simp [lx_all, lv_args, cat_i, cat_r, cat_l, va_rf_cat]) ?_
  intro p e s m args below meth c ls B hnm hl I
  obtain ⟨hx, hb, -⟩ := B.1
  unfold x_Str_isLatin1 at hm
  refine k_compact (pc := 0) (index := 38) B hR I mF_Str_38 d_Str_isLatin1_0 ?_
  refine lv_if_eq (pc := 3) (tgt := 17) hx hb d_Str_isLatin1_3 (by decide) (fun hc => absurd hc (by decide)) (fun _ => ?_)
  refine q_aload_n (pc := 6) (i := 0) (v := .ref p0) hx hb d_Str_isLatin1_6 rfl rfl (lx_get hl rfl) ?_
  refine ob1 hm (fun x1 e2 hm => ?_)
  refine k_getI (pc := 7) (z := 6) (k := 1) (index := 15) B hR I (by decide) (by decide) mF_Str_15 rfl (fun _ _ => rfl) e2 d_Str_isLatin1_7 ?_
  refine lv_if_ne (pc := 10) (tgt := 17) hx hb d_Str_isLatin1_10 (by decide) (fun hc => ?_) (fun hc => ?_)
  · have hm := iff' hc hm
    refine lv_iconst (pc := 17) (v := 0) hx hb d_Str_isLatin1_17 (by decide) ?_
    cases hm
    exact q_zret (pc := 18) B I rfl (by decide) d_Str_isLatin1_18
  · have hm := ift hc hm
    refine lv_iconst (pc := 13) (v := 1) hx hb d_Str_isLatin1_13 (by decide) ?_
    refine lv_goto (pc := 14) (tgt := 18) hx hb d_Str_isLatin1_14 (by decide) ?_
    cases hm
    exact q_zret (pc := 18) B I rfl (by decide) d_Str_isLatin1_18
def x_Pc_checkIndex (N b0 : Nat) (K : cS) (p1 : Int32) (p2 : Int32) (p3 : Option Nat) (S : cS) : Option Int32 :=
  if p1 < 0 then (none) else (if p1 < p2 then (some p1) else (none))
set_option maxRecDepth 100000 in
set_option maxHeartbeats 4000000 in
theorem c_Pc_checkIndex {p1 : Int32} {p2 : Int32} {p3 : Option Nat} {S : cS} {r : Int32} (hR : CR b0 K Z) (hm : x_Pc_checkIndex N b0 K p1 p2 p3 S = some r) : Ct l D vwCl (tyL dA) b0 Z y_Pc_checkIndex (.code y_Pc_checkIndex cb_Pc_checkIndex 3 (some .int) :: wsA) 3 120 [.int p1, .int p2, va_rf p3] (cH dA b0 S hp0) sz (some (.int r)) (cH dA b0 S hp0) 0 0 := by
  refine ct_ofF (cc := cb_Pc_checkIndex) (maxL := 3) (ret := (some .int)) (lo0 := [some (.int p1), some (.int p2), some (va_rf p3)]) hR.1 (by decide +kernel) rfl (by simp [lg_sl, cat_i, cat_r, cat_l, va_rf_cat]) rfl (by simp [lx_all, lv_args, cat_i, cat_r, cat_l, va_rf_cat]) ?_
  intro p e s m args below meth c ls B hnm hl I
  obtain ⟨hx, hb, -⟩ := B.1
  unfold x_Pc_checkIndex at hm
  refine lv_iload_n (pc := 0) (i := 0) hx hb d_Pc_checkIndex_0 rfl (lx_get hl rfl) ?_
  refine lv_if_lt (pc := 1) (tgt := 9) hx hb d_Pc_checkIndex_1 (by decide) (fun hc => ?_) (fun hc => ?_)
  · have hm := ift hc hm
    cases hm
  · have hm := iff' hc hm
    refine lv_iload_n (pc := 4) (i := 0) hx hb d_Pc_checkIndex_4 rfl (lx_get hl rfl) ?_
    refine lv_iload_n (pc := 5) (i := 1) hx hb d_Pc_checkIndex_5 rfl (lx_get hl rfl) ?_
    refine lv_icmp_lt (pc := 6) (tgt := 16) hx hb d_Pc_checkIndex_6 (by decide) (fun hc => ?_) (fun hc => ?_)
    · have hm := ift hc hm
      refine lv_iload_n (pc := 16) (i := 0) hx hb d_Pc_checkIndex_16 rfl (lx_get hl rfl) ?_
      cases hm
      exact q_iret (pc := 17) B I rfl d_Pc_checkIndex_17
    · have hm := iff' hc hm
      cases hm
def x_Str_checkIndex (N b0 : Nat) (K : cS) (p1 : Int32) (p2 : Int32) (S : cS) : Option Unit :=
  b1 (x_Pc_checkIndex N b0 K p1 p2 (K.2.2.2 0 100) S) (fun x2 => some ())
set_option maxRecDepth 100000 in
set_option maxHeartbeats 4000000 in
theorem c_Str_checkIndex {p1 : Int32} {p2 : Int32} {S : cS} (hR : CR b0 K Z) (hm : x_Str_checkIndex N b0 K p1 p2 S = some ()) : Ct l D vwCl (tyL dA) b0 Z y_Str_checkIndex (.code y_Str_checkIndex cb_Str_checkIndex 2 none :: wsA) 4 142 [.int p1, .int p2] (cH dA b0 S hp0) sz none (cH dA b0 S hp0) 0 0 := by
  refine ct_ofF (cc := cb_Str_checkIndex) (maxL := 2) (ret := none) (lo0 := [some (.int p1), some (.int p2)]) hR.1 (by decide +kernel) rfl (by simp [lg_sl, cat_i, cat_r, cat_l, va_rf_cat]) rfl (by simp [lx_all, lv_args, cat_i, cat_r, cat_l, va_rf_cat]) ?_
  intro p e s m args below meth c ls B hnm hl I
  obtain ⟨hx, hb, -⟩ := B.1
  unfold x_Str_checkIndex at hm
  refine lv_iload_n (pc := 0) (i := 0) hx hb d_Str_checkIndex_0 rfl (lx_get hl rfl) ?_
  refine lv_iload_n (pc := 1) (i := 1) hx hb d_Str_checkIndex_1 rfl (lx_get hl rfl) ?_
  refine k_sioobe (pc := 2) (index := 1053) B hR I mF_Str_1053 d_Str_checkIndex_2 ?_
  refine ob1 hm (fun x2 e1 hm => ?_)
  refine k_callS (pc := 5) (As := [.int p1, .int p2, va_rf (K.2.2.2 0 100)]) (rest := []) B hl rfl I (c_Pc_checkIndex hR e1) kw_Str_1059 rfl (Nat.le_of_ble_eq_true rfl) (Nat.le_of_ble_eq_true rfl) rfl (by simp [cat_i, cat_r, cat_l, va_rf_cat]) d_Str_checkIndex_5 (Nat.le_refl _) (Nat.le_refl _) (fun H locs I => ?_)
  refine lv_pop (pc := 8) hx hb d_Str_checkIndex_8 rfl ?_
  cases hm
  exact q_vret (pc := 9) B I rfl d_Str_checkIndex_9
def x_Ob_checkIndex (N b0 : Nat) (K : cS) (p1 : Int32) (p2 : Int32) (S : cS) : Option Int32 :=
  b1 (x_Pc_checkIndex N b0 K p1 p2 none S) (fun x2 => some x2)
set_option maxRecDepth 100000 in
set_option maxHeartbeats 4000000 in
theorem c_Ob_checkIndex {p1 : Int32} {p2 : Int32} {S : cS} {r : Int32} (hR : CR b0 K Z) (hm : x_Ob_checkIndex N b0 K p1 p2 S = some r) : Ct l D vwCl (tyL dA) b0 Z y_Ob_checkIndex (.code y_Ob_checkIndex cb_Ob_checkIndex 2 (some .int) :: wsA) 4 142 [.int p1, .int p2] (cH dA b0 S hp0) sz (some (.int r)) (cH dA b0 S hp0) 0 0 := by
  refine ct_ofF (cc := cb_Ob_checkIndex) (maxL := 2) (ret := (some .int)) (lo0 := [some (.int p1), some (.int p2)]) hR.1 (by decide +kernel) rfl (by simp [lg_sl, cat_i, cat_r, cat_l, va_rf_cat]) rfl (by simp [lx_all, lv_args, cat_i, cat_r, cat_l, va_rf_cat]) ?_
  intro p e s m args below meth c ls B hnm hl I
  obtain ⟨hx, hb, -⟩ := B.1
  unfold x_Ob_checkIndex at hm
  refine lv_iload_n (pc := 0) (i := 0) hx hb d_Ob_checkIndex_0 rfl (lx_get hl rfl) ?_
  refine lv_iload_n (pc := 1) (i := 1) hx hb d_Ob_checkIndex_1 rfl (lx_get hl rfl) ?_
  refine lv_null (pc := 2) hx hb d_Ob_checkIndex_2 ?_
  refine ob1 hm (fun x2 e1 hm => ?_)
  refine k_callS (pc := 3) (As := [.int p1, .int p2, va_rf none]) (rest := []) B hl rfl I (c_Pc_checkIndex hR e1) kw_Ob_105 rfl (Nat.le_of_ble_eq_true rfl) (Nat.le_of_ble_eq_true rfl) rfl (by simp [cat_i, cat_r, cat_l, va_rf_cat]) d_Ob_checkIndex_3 (Nat.le_refl _) (Nat.le_refl _) (fun H locs I => ?_)
  cases hm
  exact q_iret (pc := 6) B I rfl d_Ob_checkIndex_6
def x_L1_charAt (N b0 : Nat) (K : cS) (p1 : Option Nat) (p2 : Int32) (S : cS) : Option Int32 :=
  b1 p1 (fun a1 => b1 (aN b0 K S 12 a1) (fun x4 => b1 (x_Str_checkIndex N b0 K p2 x4 S) (fun u7 => b1 (aL b0 K S 12 a1 p2) (fun x8 => if narrow .char (.int (((x8 &&& 255).toUInt32 % 65536).toInt32)) = .int (((x8 &&& 255).toUInt32 % 65536).toInt32) then (some (((x8 &&& 255).toUInt32 % 65536).toInt32)) else none))))
set_option maxRecDepth 100000 in
set_option maxHeartbeats 4000000 in
theorem c_L1_charAt {p1 : Option Nat} {p2 : Int32} {S : cS} {r : Int32} (hR : CR b0 K Z) (hm : x_L1_charAt N b0 K p1 p2 S = some r) : Ct l D vwCl (tyL dA) b0 Z y_L1_charAt (.code y_L1_charAt cb_L1_charAt 2 (some .char) :: wsA) 5 163 [va_rf p1, .int p2] (cH dA b0 S hp0) sz (some (.int r)) (cH dA b0 S hp0) 0 0 := by
  refine ct_ofF (cc := cb_L1_charAt) (maxL := 2) (ret := (some .char)) (lo0 := [some (va_rf p1), some (.int p2)]) hR.1 (by decide +kernel) rfl (by simp [lg_sl, cat_i, cat_r, cat_l, va_rf_cat]) rfl (by simp [lx_all, lv_args, cat_i, cat_r, cat_l, va_rf_cat]) ?_
  intro p e s m args below meth c ls B hnm hl I
  obtain ⟨hx, hb, -⟩ := B.1
  unfold x_L1_charAt at hm
  refine lv_iload_n (pc := 0) (i := 1) hx hb d_L1_charAt_0 rfl (lx_get hl rfl) ?_
  refine q_aload_n (pc := 1) (i := 0) (v := va_rf p1) hx hb d_L1_charAt_1 rfl (va_rf_isRef _) (lx_get hl rfl) ?_
  refine ob1 hm (fun a1 e2 hm => ?_)
  have hm_3 := hm; have hl_3 := hl; have I_3 := I
  subst e2
  have hm := hm_3; have hl := hl_3; have I := I_3
  refine ob1 hm (fun x4 e5 hm => ?_)
  refine k_alen (pc := 2) (z := 12) B hR I (by decide) e5 d_L1_charAt_2 ?_
  refine ob1 hm (fun u7 e6 hm => ?_)
  refine k_callS (pc := 3) (As := [.int p2, .int x4]) (rest := []) B hl rfl I (c_Str_checkIndex hR e6) kw_L1_9 rfl (Nat.le_of_ble_eq_true rfl) (Nat.le_of_ble_eq_true rfl) rfl (by simp [cat_i, cat_r, cat_l, va_rf_cat]) d_L1_charAt_3 (Nat.le_refl _) (Nat.le_refl _) (fun H locs I => ?_)
  refine q_aload_n (pc := 6) (i := 0) (v := .ref a1) hx hb d_L1_charAt_6 rfl rfl (lx_get hl rfl) ?_
  refine lv_iload_n (pc := 7) (i := 1) hx hb d_L1_charAt_7 rfl (lx_get hl rfl) ?_
  refine ob1 hm (fun x8 e9 hm => ?_)
  refine k_bald (pc := 8) B hR I e9 d_L1_charAt_8 ?_
  refine lv_sipush (pc := 9) (v := 255) hx hb d_L1_charAt_9 (by decide) ?_
  refine lv_iand (pc := 12) hx hb d_L1_charAt_12 ?_
  refine lv_i2c (pc := 13) hx hb d_L1_charAt_13 rfl ?_
  by_cases hq : narrow .char (.int (((x8 &&& 255).toUInt32 % 65536).toInt32)) = .int (((x8 &&& 255).toUInt32 % 65536).toInt32)
  · have hm := ift hq hm
    cases hm
    exact q_zret (pc := 14) B I rfl hq d_L1_charAt_14
  · have hm := iff' hq hm
    cases hm
def x_Str_charAt (N b0 : Nat) (K : cS) (p0 : Nat) (p1 : Int32) (S : cS) : Option Int32 :=
  ifk b0 K S 6 p0 (b1 (x_Str_isLatin1 N b0 K p0 S) (fun x2 => if x2 = 0 then (none) else (b1 (gR b0 K S 6 0 p0) (fun q3 => b1 (x_L1_charAt N b0 K q3 p1 S) (fun x6 => if narrow .char (.int x6) = .int x6 then (some x6) else none)))))
set_option maxRecDepth 100000 in
set_option maxHeartbeats 4000000 in
theorem c_Str_charAt {p0 : Nat} {p1 : Int32} {S : cS} {r : Int32} (hR : CR b0 K Z) (hm : x_Str_charAt N b0 K p0 p1 S = some r) : Ct l D vwCl (tyL dA) b0 Z y_Str_charAt (.code y_Str_charAt cb_Str_charAt 2 (some .char) :: wsA) 6 184 [.ref p0, .int p1] (cH dA b0 S hp0) sz (some (.int r)) (cH dA b0 S hp0) 0 0 := by
  refine ct_ofF (cc := cb_Str_charAt) (maxL := 2) (ret := (some .char)) (lo0 := [some (.ref p0), some (.int p1)]) hR.1 (by decide +kernel) rfl (by simp [lg_sl, cat_i, cat_r, cat_l, va_rf_cat]) rfl (by simp [lx_all, lv_args, cat_i, cat_r, cat_l, va_rf_cat]) ?_
  intro p e s m args below meth c ls B hnm hl I
  obtain ⟨hx, hb, -⟩ := B.1
  unfold x_Str_charAt at hm
  refine q_aload_n (pc := 0) (i := 0) (v := .ref p0) hx hb d_Str_charAt_0 rfl rfl (lx_get hl rfl) ?_
  refine oifk hm (fun hk hm => ?_)
  refine ob1 hm (fun x2 e1 hm => ?_)
  refine k_callV (pc := 1) (As := []) (rest := []) (b := p0) B hR hl rfl I (c_Str_isLatin1 hR e1) kw_Str_492 (by decide) hk rfl (Nat.le_of_ble_eq_true rfl) (Nat.le_of_ble_eq_true rfl) rfl (by simp [cat_i, cat_r, cat_l, va_rf_cat]) d_Str_charAt_1 (Nat.le_refl _) (Nat.le_refl _) (fun H locs I => ?_)
  refine lv_if_eq (pc := 4) (tgt := 16) hx hb d_Str_charAt_4 (by decide) (fun hc => ?_) (fun hc => ?_)
  · have hm := ift hc hm
    cases hm
  · have hm := iff' hc hm
    refine q_aload_n (pc := 7) (i := 0) (v := .ref p0) hx hb d_Str_charAt_7 rfl rfl (lx_get hl rfl) ?_
    refine ob1 hm (fun q3 e4 hm => ?_)
    refine k_getR (pc := 8) (z := 6) (k := 0) (index := 9) B hR I (by decide) (by decide) mF_Str_9 rfl (fun _ _ => rfl) e4 d_Str_charAt_8 ?_
    refine lv_iload_n (pc := 11) (i := 1) hx hb d_Str_charAt_11 rfl (lx_get hl rfl) ?_
    refine ob1 hm (fun x6 e5 hm => ?_)
    refine k_callS (pc := 12) (As := [va_rf q3, .int p1]) (rest := []) B hl rfl I (c_L1_charAt hR e5) kw_Str_495 rfl (Nat.le_of_ble_eq_true rfl) (Nat.le_of_ble_eq_true rfl) rfl (by simp [cat_i, cat_r, cat_l, va_rf_cat]) d_Str_charAt_12 (Nat.le_refl _) (Nat.le_refl _) (fun H locs I => ?_)
    by_cases hq : narrow .char (.int x6) = .int x6
    · have hm := ift hq hm
      cases hm
      exact q_zret (pc := 15) B I rfl hq d_Str_charAt_15
    · have hm := iff' hq hm
      cases hm
def x_L1_equals_9F (N b0 : Nat) (K : cS) (K9 : Nat → Nat → Int32 → cS → Option Int32) (y0 : Nat) (y1 : Nat) (y2 : Int32) (S : cS) : Option Int32 :=
  b1 (aN b0 K S 12 y0) (fun x1 => if x1 ≤ y2 then (some 1) else (b1 (aL b0 K S 12 y0 y2) (fun x3 => b1 (aL b0 K S 12 y1 y2) (fun x5 => if x3 = x5 then (K9 y0 y1 (y2 + 1) S) else (some 0)))))
def x_L1_equals_9 (N b0 : Nat) (K : cS) : Nat → Nat → Nat → Int32 → cS → Option Int32
  | 0, _, _, _, _ => none
  | k + 1, y0, y1, y2, S => x_L1_equals_9F N b0 K  (x_L1_equals_9 N b0 K  k) y0 y1 y2 S
set_option maxRecDepth 100000 in
set_option maxHeartbeats 4000000 in
theorem w_L1_equals_9F {K9 : Nat → Nat → Int32 → cS → Option Int32} {y0 : Nat} {y1 : Nat} {y2 : Int32} {S : cS} (hK9 : ∀ (y0 : Nat) (y1 : Nat) (y2 : Int32) (S : cS) (ls : Array Slot) (H : Heap) (locs : List Loc), lx ls [some (.ref y0), some (.ref y1), some (.int y2)] → AI D vwCl b0 (cH dA b0 S hp0) sz s.heap H locs → K9 y0 y1 y2 S = some r → W p l e { frames := 0, cells := 0, slots := 0, locals := 0 } s m args below meth c H locs 0 0 (MQ below (CQ D vwCl b0 (some (.int r)) (cH dA b0 S hp0) sz) args s 0 0 (fun q => b0 ≤ q)) (F0 m 9 ls [])) (B : BX p m c cb_L1_equals 3 s args (.code y_L1_equals cb_L1_equals 3 (some .boolean) :: wsA) RJ_L1 meth (some .boolean) D vwCl (tyL dA) b0 Z) (hR : CR b0 K Z) (hl : lx ls [some (.ref y0), some (.ref y1), some (.int y2)]) (I : AI D vwCl b0 (cH dA b0 S hp0) sz s.heap H locs)  (hm : x_L1_equals_9F N b0 K  K9 y0 y1 y2 S = some r) : W p l e { frames := 0, cells := 0, slots := 0, locals := 0 } s m args below meth c H locs 0 0 (MQ below (CQ D vwCl b0 (some (.int r)) (cH dA b0 S hp0) sz) args s 0 0 (fun q => b0 ≤ q)) (F0 m 9 ls []) := by
  obtain ⟨hx, hb, -⟩ := B.1
  unfold x_L1_equals_9F at hm
  refine lv_iload_n (pc := 9) (i := 2) hx hb d_L1_equals_9 rfl (lx_get hl rfl) ?_
  refine q_aload_n (pc := 10) (i := 0) (v := .ref y0) hx hb d_L1_equals_10 rfl rfl (lx_get hl rfl) ?_
  refine ob1 hm (fun x1 e2 hm => ?_)
  refine k_alen (pc := 11) (z := 12) B hR I (by decide) e2 d_L1_equals_11 ?_
  refine lv_icmp_ge (pc := 12) (tgt := 32) hx hb d_L1_equals_12 (by decide) (fun hc => ?_) (fun hc => ?_)
  · have hm := ift hc hm
    refine lv_iconst (pc := 32) (v := 1) hx hb d_L1_equals_32 (by decide) ?_
    cases hm
    exact q_zret (pc := 33) B I rfl (by decide) d_L1_equals_33
  · have hm := iff' hc hm
    refine q_aload_n (pc := 15) (i := 0) (v := .ref y0) hx hb d_L1_equals_15 rfl rfl (lx_get hl rfl) ?_
    refine lv_iload_n (pc := 16) (i := 2) hx hb d_L1_equals_16 rfl (lx_get hl rfl) ?_
    refine ob1 hm (fun x3 e4 hm => ?_)
    refine k_bald (pc := 17) B hR I e4 d_L1_equals_17 ?_
    refine q_aload_n (pc := 18) (i := 1) (v := .ref y1) hx hb d_L1_equals_18 rfl rfl (lx_get hl rfl) ?_
    refine lv_iload_n (pc := 19) (i := 2) hx hb d_L1_equals_19 rfl (lx_get hl rfl) ?_
    refine ob1 hm (fun x5 e6 hm => ?_)
    refine k_bald (pc := 20) B hR I e6 d_L1_equals_20 ?_
    refine lv_icmp_eq (pc := 21) (tgt := 26) hx hb d_L1_equals_21 (by decide) (fun hc => ?_) (fun hc => ?_)
    · have hm := ift hc hm
      refine q_iinc (pc := 26) (i := 2) (v := y2 + 1) (lo' := [some (.ref y0), some (.ref y1), some (.int (y2 + 1))]) hx hb d_L1_equals_26 hl rfl rfl (Nat.le_of_ble_eq_true rfl) (lx_cr rfl) rfl (fun ls hl => ?_)
      refine lv_goto (pc := 29) (tgt := 9) hx hb d_L1_equals_29 (by decide) ?_
      exact hK9 _ _ _ _ _ _ _ hl I hm
    · have hm := iff' hc hm
      refine lv_iconst (pc := 24) (v := 0) hx hb d_L1_equals_24 (by decide) ?_
      cases hm
      exact q_zret (pc := 25) B I rfl (by decide) d_L1_equals_25
set_option maxRecDepth 100000 in
set_option maxHeartbeats 4000000 in
theorem w_L1_equals_9i (B : BX p m c cb_L1_equals 3 s args (.code y_L1_equals cb_L1_equals 3 (some .boolean) :: wsA) RJ_L1 meth (some .boolean) D vwCl (tyL dA) b0 Z) (hR : CR b0 K Z) (k : Nat) (y0 : Nat) (y1 : Nat) (y2 : Int32) (S : cS) (ls : Array Slot) (H : Heap) (locs : List Loc) (hl : lx ls [some (.ref y0), some (.ref y1), some (.int y2)]) (I : AI D vwCl b0 (cH dA b0 S hp0) sz s.heap H locs)  (hm : x_L1_equals_9 N b0 K  k y0 y1 y2 S = some r) : W p l e { frames := 0, cells := 0, slots := 0, locals := 0 } s m args below meth c H locs 0 0 (MQ below (CQ D vwCl b0 (some (.int r)) (cH dA b0 S hp0) sz) args s 0 0 (fun q => b0 ≤ q)) (F0 m 9 ls []) := by
  induction k generalizing y0 y1 y2 S ls H locs with
  | zero => cases hm
  | succ k ih => exact w_L1_equals_9F  (fun y0 y1 y2 S ls H locs hl I hm => ih y0 y1 y2 S ls H locs hl I hm) B hR hl I hm
theorem w_L1_equals_9 {y0 : Nat} {y1 : Nat} {y2 : Int32} {S : cS} (B : BX p m c cb_L1_equals 3 s args (.code y_L1_equals cb_L1_equals 3 (some .boolean) :: wsA) RJ_L1 meth (some .boolean) D vwCl (tyL dA) b0 Z) (hR : CR b0 K Z) (hl : lx ls [some (.ref y0), some (.ref y1), some (.int y2)]) (I : AI D vwCl b0 (cH dA b0 S hp0) sz s.heap H locs)  {k : Nat} (hm : x_L1_equals_9 N b0 K  k y0 y1 y2 S = some r) : W p l e { frames := 0, cells := 0, slots := 0, locals := 0 } s m args below meth c H locs 0 0 (MQ below (CQ D vwCl b0 (some (.int r)) (cH dA b0 S hp0) sz) args s 0 0 (fun q => b0 ≤ q)) (F0 m 9 ls []) := w_L1_equals_9i  B hR k _ _ _ S ls H locs hl I hm
def x_L1_equals (N b0 : Nat) (K : cS) (p1 : Option Nat) (p2 : Option Nat) (S : cS) : Option Int32 :=
  b1 p1 (fun a1 => b1 (aN b0 K S 12 a1) (fun x4 => b1 p2 (fun a6 => b1 (aN b0 K S 12 a6) (fun x9 => if x4 = x9 then (x_L1_equals_9 N b0 K  N a1 a6 0 S) else (some 0)))))
set_option maxRecDepth 100000 in
set_option maxHeartbeats 4000000 in
theorem c_L1_equals {p1 : Option Nat} {p2 : Option Nat} {S : cS} {r : Int32} (hR : CR b0 K Z) (hm : x_L1_equals N b0 K p1 p2 S = some r) : Ct l D vwCl (tyL dA) b0 Z y_L1_equals (.code y_L1_equals cb_L1_equals 3 (some .boolean) :: wsA) 0 0 [va_rf p1, va_rf p2] (cH dA b0 S hp0) sz (some (.int r)) (cH dA b0 S hp0) 0 0 := by
  refine ct_ofF (cc := cb_L1_equals) (maxL := 3) (ret := (some .boolean)) (lo0 := [some (va_rf p1), some (va_rf p2), none]) hR.1 (by decide +kernel) rfl (by simp [lg_sl, cat_i, cat_r, cat_l, va_rf_cat]) rfl (by simp [lx_all, lv_args, cat_i, cat_r, cat_l, va_rf_cat]) ?_
  intro p e s m args below meth c ls B hnm hl I
  obtain ⟨hx, hb, -⟩ := B.1
  unfold x_L1_equals at hm
  refine q_aload_n (pc := 0) (i := 0) (v := va_rf p1) hx hb d_L1_equals_0 rfl (va_rf_isRef _) (lx_get hl rfl) ?_
  refine ob1 hm (fun a1 e2 hm => ?_)
  have hm_3 := hm; have hl_3 := hl; have I_3 := I
  subst e2
  have hm := hm_3; have hl := hl_3; have I := I_3
  refine ob1 hm (fun x4 e5 hm => ?_)
  refine k_alen (pc := 1) (z := 12) B hR I (by decide) e5 d_L1_equals_1 ?_
  refine q_aload_n (pc := 2) (i := 1) (v := va_rf p2) hx hb d_L1_equals_2 rfl (va_rf_isRef _) (lx_get hl rfl) ?_
  refine ob1 hm (fun a6 e7 hm => ?_)
  have hm_8 := hm; have hl_8 := hl; have I_8 := I
  subst e7
  have hm := hm_8; have hl := hl_8; have I := I_8
  refine ob1 hm (fun x9 e10 hm => ?_)
  refine k_alen (pc := 3) (z := 12) B hR I (by decide) e10 d_L1_equals_3 ?_
  refine lv_icmp_ne (pc := 4) (tgt := 34) hx hb d_L1_equals_4 (by decide) (fun hc => ?_) (fun hc => ?_)
  · have hm := iff' hc hm
    refine lv_iconst (pc := 34) (v := 0) hx hb d_L1_equals_34 (by decide) ?_
    cases hm
    exact q_zret (pc := 35) B I rfl (by decide) d_L1_equals_35
  · have hm := ift hc hm
    refine lv_iconst (pc := 7) (v := 0) hx hb d_L1_equals_7 (by decide) ?_
    refine q_istore_n (pc := 8) (i := 2) (lo' := [some (.ref a1), some (.ref a6), some (.int 0)]) hx hb d_L1_equals_8 rfl hl (Nat.le_of_ble_eq_true rfl) (lx_cr rfl) rfl (fun ls hl => ?_)
    exact w_L1_equals_9  B hR hl I hm
def x_Str_equals_36 (N b0 : Nat) (K : cS) (y0 : Nat) (y2 : Nat) (S : cS) : Option Int32 :=
  b1 (gR b0 K S 6 0 y0) (fun q1 => b1 (gR b0 K S 6 0 y2) (fun q3 => b1 (x_L1_equals N b0 K q1 q3 S) (fun x6 => if x6 = 0 then (some 0) else (some 1))))
set_option maxRecDepth 100000 in
set_option maxHeartbeats 4000000 in
theorem w_Str_equals_36 {y0 : Nat} {y2 : Nat} {S : cS} (B : BX p m c cb_Str_equals 3 s args (.code y_Str_equals cb_Str_equals 3 (some .boolean) :: wsA) RZ6 meth (some .boolean) D vwCl (tyL dA) b0 Z) (hR : CR b0 K Z) (hl : lx ls [some (.ref y0), none, some (.ref y2)]) (I : AI D vwCl b0 (cH dA b0 S hp0) sz s.heap H locs)  (hm : x_Str_equals_36 N b0 K  y0 y2 S = some r) : W p l e { frames := 1, cells := 0, slots := 0, locals := 22 } s m args below meth c H locs 0 0 (MQ below (CQ D vwCl b0 (some (.int r)) (cH dA b0 S hp0) sz) args s 0 0 (fun q => b0 ≤ q)) (F0 m 36 ls []) := by
  obtain ⟨hx, hb, -⟩ := B.1
  unfold x_Str_equals_36 at hm
  refine q_aload_n (pc := 36) (i := 0) (v := .ref y0) hx hb d_Str_equals_36 rfl rfl (lx_get hl rfl) ?_
  refine ob1 hm (fun q1 e2 hm => ?_)
  refine k_getR (pc := 37) (z := 6) (k := 0) (index := 9) B hR I (by decide) (by decide) mF_Str_9 rfl (fun _ _ => rfl) e2 d_Str_equals_37 ?_
  refine q_aload_n (pc := 40) (i := 2) (v := .ref y2) hx hb d_Str_equals_40 rfl rfl (lx_get hl rfl) ?_
  refine ob1 hm (fun q3 e4 hm => ?_)
  refine k_getR (pc := 41) (z := 6) (k := 0) (index := 9) B hR I (by decide) (by decide) mF_Str_9 rfl (fun _ _ => rfl) e4 d_Str_equals_41 ?_
  refine ob1 hm (fun x6 e5 hm => ?_)
  refine k_callS (pc := 44) (As := [va_rf q1, va_rf q3]) (rest := []) B hl rfl I (c_L1_equals hR e5) kw_Str_541 rfl (Nat.le_of_ble_eq_true rfl) (Nat.le_of_ble_eq_true rfl) rfl (by simp [cat_i, cat_r, cat_l, va_rf_cat]) d_Str_equals_44 (Nat.le_refl _) (Nat.le_refl _) (fun H locs I => ?_)
  refine lv_if_eq (pc := 47) (tgt := 54) hx hb d_Str_equals_47 (by decide) (fun hc => ?_) (fun hc => ?_)
  · have hm := ift hc hm
    refine lv_iconst (pc := 54) (v := 0) hx hb d_Str_equals_54 (by decide) ?_
    cases hm
    exact q_zret (pc := 55) B I rfl (by decide) d_Str_equals_55
  · have hm := iff' hc hm
    refine lv_iconst (pc := 50) (v := 1) hx hb d_Str_equals_50 (by decide) ?_
    refine lv_goto (pc := 51) (tgt := 55) hx hb d_Str_equals_51 (by decide) ?_
    cases hm
    exact q_zret (pc := 55) B I rfl (by decide) d_Str_equals_55
def x_Str_equals (N b0 : Nat) (K : cS) (p0 : Nat) (p1 : Option Nat) (S : cS) : Option Int32 :=
  if some p0 = p1 then (some 1) else (b1 p1 (fun a1 => ifk b0 K S 6 a1 (ifk b0 K S 6 a1 (b1 (gI b0 K S 6 1 p0) (fun x4 => b1 (gI b0 K S 6 1 a1) (fun x6 => if x4 = x6 then (x_Str_equals_36 N b0 K  p0 a1 S) else (some 0)))))))
set_option maxRecDepth 100000 in
set_option maxHeartbeats 4000000 in
theorem c_Str_equals {p0 : Nat} {p1 : Option Nat} {S : cS} {r : Int32} (hR : CR b0 K Z) (hm : x_Str_equals N b0 K p0 p1 S = some r) : Ct l D vwCl (tyL dA) b0 Z y_Str_equals (.code y_Str_equals cb_Str_equals 3 (some .boolean) :: wsA) 1 22 [.ref p0, va_rf p1] (cH dA b0 S hp0) sz (some (.int r)) (cH dA b0 S hp0) 0 0 := by
  refine ct_ofF (cc := cb_Str_equals) (maxL := 3) (ret := (some .boolean)) (lo0 := [some (.ref p0), some (va_rf p1), none]) hR.1 (by decide +kernel) rfl (by simp [lg_sl, cat_i, cat_r, cat_l, va_rf_cat]) rfl (by simp [lx_all, lv_args, cat_i, cat_r, cat_l, va_rf_cat]) ?_
  intro p e s m args below meth c ls B hnm hl I
  obtain ⟨hx, hb, -⟩ := B.1
  unfold x_Str_equals at hm
  refine q_aload_n (pc := 0) (i := 0) (v := .ref p0) hx hb d_Str_equals_0 rfl rfl (lx_get hl rfl) ?_
  refine q_aload_n (pc := 1) (i := 1) (v := va_rf p1) hx hb d_Str_equals_1 rfl (va_rf_isRef _) (lx_get hl rfl) ?_
  refine lv_acmp_ne (pc := 2) (tgt := 7) (rx := some p0) (ry := p1) hx hb d_Str_equals_2 (by decide) (fun hc => ?_) (fun hc => ?_)
  · have hm := iff' hc hm
    refine q_aload_n (pc := 7) (i := 1) (v := va_rf p1) hx hb d_Str_equals_7 rfl (va_rf_isRef _) (lx_get hl rfl) ?_
    refine ob1 hm (fun a1 e2 hm => ?_)
    have hm_3 := hm; have hl_3 := hl; have I_3 := I
    subst e2
    have hm := hm_3; have hl := hl_3; have I := I_3
    refine oifk hm (fun hk hm => ?_)
    refine k_inst (pc := 8) (z := 6) (index := 10) B hR I (by decide) hk mC_Str_10 d_Str_equals_8 ?_
    refine lv_if_eq (pc := 11) (tgt := 54) hx hb d_Str_equals_11 (by decide) (fun hc => absurd hc (by decide)) (fun _ => ?_)
    refine q_aload_n (pc := 14) (i := 1) (v := .ref a1) hx hb d_Str_equals_14 rfl rfl (lx_get hl rfl) ?_
    refine oifk hm (fun hk hm => ?_)
    refine k_castY (pc := 15) (z := 6) (index := 10) B hR I (by decide) hk mC_Str_10 d_Str_equals_15 ?_
    refine q_astore_n (pc := 18) (i := 2) (v := .ref a1) (lo' := [some (.ref p0), some (.ref a1), some (.ref a1)]) hx hb d_Str_equals_18 rfl rfl hl (Nat.le_of_ble_eq_true rfl) (lx_cr rfl) rfl (fun ls hl => ?_)
    refine k_compact (pc := 19) (index := 38) B hR I mF_Str_38 d_Str_equals_19 ?_
    refine lv_if_eq (pc := 22) (tgt := 36) hx hb d_Str_equals_22 (by decide) (fun hc => absurd hc (by decide)) (fun _ => ?_)
    refine q_aload_n (pc := 25) (i := 0) (v := .ref p0) hx hb d_Str_equals_25 rfl rfl (lx_get hl rfl) ?_
    refine ob1 hm (fun x4 e5 hm => ?_)
    refine k_getI (pc := 26) (z := 6) (k := 1) (index := 15) B hR I (by decide) (by decide) mF_Str_15 rfl (fun _ _ => rfl) e5 d_Str_equals_26 ?_
    refine q_aload_n (pc := 29) (i := 2) (v := .ref a1) hx hb d_Str_equals_29 rfl rfl (lx_get hl rfl) ?_
    refine ob1 hm (fun x6 e7 hm => ?_)
    refine k_getI (pc := 30) (z := 6) (k := 1) (index := 15) B hR I (by decide) (by decide) mF_Str_15 rfl (fun _ _ => rfl) e7 d_Str_equals_30 ?_
    refine lv_icmp_ne (pc := 33) (tgt := 54) hx hb d_Str_equals_33 (by decide) (fun hc => ?_) (fun hc => ?_)
    · have hm := iff' hc hm
      refine lv_iconst (pc := 54) (v := 0) hx hb d_Str_equals_54 (by decide) ?_
      cases hm
      exact q_zret (pc := 55) B I rfl (by decide) d_Str_equals_55
    · have hm := ift hc hm
      exact w_Str_equals_36  B hR (lx_sub (lo' := [some (.ref p0), none, some (.ref a1)]) hl (by simp [lx_le])) I hm
  · have hm := ift hc hm
    refine lv_iconst (pc := 5) (v := 1) hx hb d_Str_equals_5 (by decide) ?_
    cases hm
    exact q_zret (pc := 6) B I rfl (by decide) d_Str_equals_6
def x_Ma_abs (N b0 : Nat) (K : cS) (p1 : Int32) (S : cS) : Option Int32 :=
  if 0 ≤ p1 then (some p1) else (some (-p1))
set_option maxRecDepth 100000 in
set_option maxHeartbeats 4000000 in
theorem c_Ma_abs {p1 : Int32} {S : cS} {r : Int32} (hR : CR b0 K Z) (hm : x_Ma_abs N b0 K p1 S = some r) : Ct l D vwCl (tyL dA) b0 Z y_Ma_abs (.code y_Ma_abs cb_Ma_abs 1 (some .int) :: wsA) 0 0 [.int p1] (cH dA b0 S hp0) sz (some (.int r)) (cH dA b0 S hp0) 0 0 := by
  refine ct_ofF (cc := cb_Ma_abs) (maxL := 1) (ret := (some .int)) (lo0 := [some (.int p1)]) hR.1 (by decide +kernel) rfl (by simp [lg_sl, cat_i, cat_r, cat_l, va_rf_cat]) rfl (by simp [lx_all, lv_args, cat_i, cat_r, cat_l, va_rf_cat]) ?_
  intro p e s m args below meth c ls B hnm hl I
  obtain ⟨hx, hb, -⟩ := B.1
  unfold x_Ma_abs at hm
  refine lv_iload_n (pc := 0) (i := 0) hx hb d_Ma_abs_0 rfl (lx_get hl rfl) ?_
  refine lv_if_ge (pc := 1) (tgt := 9) hx hb d_Ma_abs_1 (by decide) (fun hc => ?_) (fun hc => ?_)
  · have hm := ift hc hm
    refine lv_iload_n (pc := 9) (i := 0) hx hb d_Ma_abs_9 rfl (lx_get hl rfl) ?_
    cases hm
    exact q_iret (pc := 10) B I rfl d_Ma_abs_10
  · have hm := iff' hc hm
    refine lv_iload_n (pc := 4) (i := 0) hx hb d_Ma_abs_4 rfl (lx_get hl rfl) ?_
    refine lv_ineg (pc := 5) hx hb d_Ma_abs_5 ?_
    refine lv_goto (pc := 6) (tgt := 10) hx hb d_Ma_abs_6 (by decide) ?_
    cases hm
    exact q_iret (pc := 10) B I rfl d_Ma_abs_10
def x_AL_size (N b0 : Nat) (K : cS) (p0 : Nat) (S : cS) : Option Int32 :=
  b1 (gI b0 K S 8 2 p0) (fun x1 => some x1)
set_option maxRecDepth 100000 in
set_option maxHeartbeats 4000000 in
theorem c_AL_size {p0 : Nat} {S : cS} {r : Int32} (hR : CR b0 K Z) (hm : x_AL_size N b0 K p0 S = some r) : Ct l D vwCl (tyL dA) b0 Z y_AL_size (.code y_AL_size cb_AL_size 1 (some .int) :: wsA) 0 0 [.ref p0] (cH dA b0 S hp0) sz (some (.int r)) (cH dA b0 S hp0) 0 0 := by
  refine ct_ofF (cc := cb_AL_size) (maxL := 1) (ret := (some .int)) (lo0 := [some (.ref p0)]) hR.1 (by decide +kernel) rfl (by simp [lg_sl, cat_i, cat_r, cat_l, va_rf_cat]) rfl (by simp [lx_all, lv_args, cat_i, cat_r, cat_l, va_rf_cat]) ?_
  intro p e s m args below meth c ls B hnm hl I
  obtain ⟨hx, hb, -⟩ := B.1
  unfold x_AL_size at hm
  refine q_aload_n (pc := 0) (i := 0) (v := .ref p0) hx hb d_AL_size_0 rfl rfl (lx_get hl rfl) ?_
  refine ob1 hm (fun x1 e2 hm => ?_)
  refine k_getI (pc := 1) (z := 8) (k := 2) (index := 48) B hR I (by decide) (by decide) mF_AL_48 rfl (fun _ _ => rfl) e2 d_AL_size_1 ?_
  cases hm
  exact q_iret (pc := 4) B I rfl d_AL_size_4
def x_AL_elementData (N b0 : Nat) (K : cS) (p0 : Nat) (p1 : Int32) (S : cS) : Option (Option Nat) :=
  b1 (gR b0 K S 8 1 p0) (fun q1 => b1 q1 (fun a3 => b1 (aLR b0 S a3 p1) (fun q6 => some q6)))
set_option maxRecDepth 100000 in
set_option maxHeartbeats 4000000 in
theorem c_AL_elementData {p0 : Nat} {p1 : Int32} {S : cS} {q : Option Nat} (hR : CR b0 K Z) (hm : x_AL_elementData N b0 K p0 p1 S = some q) : Ct l D vwCl (tyL dA) b0 Z y_AL_elementData (.code y_AL_elementData cb_AL_elementData 2 (some (.object "java/lang/Object")) :: wsA) 0 0 [.ref p0, .int p1] (cH dA b0 S hp0) sz (some (va_rf q)) (cH dA b0 S hp0) 0 0 := by
  refine ct_ofF (cc := cb_AL_elementData) (maxL := 2) (ret := (some (.object "java/lang/Object"))) (lo0 := [some (.ref p0), some (.int p1)]) hR.1 (by decide +kernel) rfl (by simp [lg_sl, cat_i, cat_r, cat_l, va_rf_cat]) rfl (by simp [lx_all, lv_args, cat_i, cat_r, cat_l, va_rf_cat]) ?_
  intro p e s m args below meth c ls B hnm hl I
  obtain ⟨hx, hb, -⟩ := B.1
  unfold x_AL_elementData at hm
  refine q_aload_n (pc := 0) (i := 0) (v := .ref p0) hx hb d_AL_elementData_0 rfl rfl (lx_get hl rfl) ?_
  refine ob1 hm (fun q1 e2 hm => ?_)
  refine k_getR (pc := 1) (z := 8) (k := 1) (index := 9) B hR I (by decide) (by decide) mF_AL_9 rfl (fun _ _ => rfl) e2 d_AL_elementData_1 ?_
  refine lv_iload_n (pc := 4) (i := 1) hx hb d_AL_elementData_4 rfl (lx_get hl rfl) ?_
  refine ob1 hm (fun a3 e4 hm => ?_)
  have hm_5 := hm; have hl_5 := hl; have I_5 := I
  subst e4
  have hm := hm_5; have hl := hl_5; have I := I_5
  refine ob1 hm (fun q6 e7 hm => ?_)
  refine k_aald (pc := 5) B hR I e7 d_AL_elementData_5 ?_
  cases hm
  exact q_aret (pc := 6) B I rfl (Or.inl ⟨_, rfl⟩) d_AL_elementData_6
def x_AL_get (N b0 : Nat) (K : cS) (p0 : Nat) (p1 : Int32) (S : cS) : Option (Option Nat) :=
  b1 (gI b0 K S 8 2 p0) (fun x1 => b1 (x_Ob_checkIndex N b0 K p1 x1 S) (fun x4 => ifk b0 K S 8 p0 (b1 (x_AL_elementData N b0 K p0 p1 S) (fun q6 => some q6))))
set_option maxRecDepth 100000 in
set_option maxHeartbeats 4000000 in
theorem c_AL_get {p0 : Nat} {p1 : Int32} {S : cS} {q : Option Nat} (hR : CR b0 K Z) (hm : x_AL_get N b0 K p0 p1 S = some q) : Ct l D vwCl (tyL dA) b0 Z y_AL_get (.code y_AL_get cb_AL_get 2 (some (.object "java/lang/Object")) :: wsA) 5 163 [.ref p0, .int p1] (cH dA b0 S hp0) sz (some (va_rf q)) (cH dA b0 S hp0) 0 0 := by
  refine ct_ofF (cc := cb_AL_get) (maxL := 2) (ret := (some (.object "java/lang/Object"))) (lo0 := [some (.ref p0), some (.int p1)]) hR.1 (by decide +kernel) rfl (by simp [lg_sl, cat_i, cat_r, cat_l, va_rf_cat]) rfl (by simp [lx_all, lv_args, cat_i, cat_r, cat_l, va_rf_cat]) ?_
  intro p e s m args below meth c ls B hnm hl I
  obtain ⟨hx, hb, -⟩ := B.1
  unfold x_AL_get at hm
  refine lv_iload_n (pc := 0) (i := 1) hx hb d_AL_get_0 rfl (lx_get hl rfl) ?_
  refine q_aload_n (pc := 1) (i := 0) (v := .ref p0) hx hb d_AL_get_1 rfl rfl (lx_get hl rfl) ?_
  refine ob1 hm (fun x1 e2 hm => ?_)
  refine k_getI (pc := 2) (z := 8) (k := 2) (index := 48) B hR I (by decide) (by decide) mF_AL_48 rfl (fun _ _ => rfl) e2 d_AL_get_2 ?_
  refine ob1 hm (fun x4 e3 hm => ?_)
  refine k_callS (pc := 5) (As := [.int p1, .int x1]) (rest := []) B hl rfl I (c_Ob_checkIndex hR e3) kw_AL_118 rfl (Nat.le_of_ble_eq_true rfl) (Nat.le_of_ble_eq_true rfl) rfl (by simp [cat_i, cat_r, cat_l, va_rf_cat]) d_AL_get_5 (Nat.le_refl _) (Nat.le_refl _) (fun H locs I => ?_)
  refine lv_pop (pc := 8) hx hb d_AL_get_8 rfl ?_
  refine q_aload_n (pc := 9) (i := 0) (v := .ref p0) hx hb d_AL_get_9 rfl rfl (lx_get hl rfl) ?_
  refine lv_iload_n (pc := 10) (i := 1) hx hb d_AL_get_10 rfl (lx_get hl rfl) ?_
  refine oifk hm (fun hk hm => ?_)
  refine ob1 hm (fun q6 e5 hm => ?_)
  refine k_callV (pc := 11) (As := [.int p1]) (rest := []) (b := p0) B hR hl rfl I (c_AL_elementData hR e5) kw_AL_123 (by decide) hk rfl (Nat.le_of_ble_eq_true rfl) (Nat.le_of_ble_eq_true rfl) rfl (by simp [cat_i, cat_r, cat_l, va_rf_cat]) d_AL_get_11 (Nat.le_refl _) (Nat.le_refl _) (fun H locs I => ?_)
  cases hm
  exact q_aret (pc := 14) B I rfl (Or.inl ⟨_, rfl⟩) d_AL_get_14
def x_AbC_init (N b0 : Nat) (K : cS) (p0 : Nat) (S : cS) : Option Unit :=
  some ()
set_option maxRecDepth 100000 in
set_option maxHeartbeats 4000000 in
theorem c_AbC_init {p0 : Nat} {S : cS} (hR : CR b0 K Z) (hm : x_AbC_init N b0 K p0 S = some ()) : Ct l D vwCl (tyL dA) b0 Z y_AbC_init (.code y_AbC_init cb_AbC_init 1 none :: wsA) 1 20 [.ref p0] (cH dA b0 S hp0) sz none (cH dA b0 S hp0) 0 0 := by
  refine ct_ofF (cc := cb_AbC_init) (maxL := 1) (ret := none) (lo0 := [some (.ref p0)]) hR.1 (by decide +kernel) rfl (by simp [lg_sl, cat_i, cat_r, cat_l, va_rf_cat]) rfl (by simp [lx_all, lv_args, cat_i, cat_r, cat_l, va_rf_cat]) ?_
  intro p e s m args below meth c ls B hnm hl I
  obtain ⟨hx, hb, -⟩ := B.1
  unfold x_AbC_init at hm
  refine q_aload_n (pc := 0) (i := 0) (v := .ref p0) hx hb d_AbC_init_0 rfl rfl (lx_get hl rfl) ?_
  refine k_obj (pc := 1) (index := 1) B hl rfl mO_AbC_1 mA_oI mA_oC (Nat.le_of_ble_eq_true rfl) (Nat.le_of_ble_eq_true rfl) d_AbC_init_1 ?_
  cases hm
  exact q_vret (pc := 4) B I rfl d_AbC_init_4
def x_AbL_init (N b0 : Nat) (K : cS) (p0 : Nat) (S : cS) : Option cS :=
  b1 (x_AbC_init N b0 K p0 S) (fun u2 => b1 (pI b0 S 8 0 p0 0) (fun S3 => some S3))
set_option maxRecDepth 100000 in
set_option maxHeartbeats 4000000 in
theorem c_AbL_init {p0 : Nat} {S S' : cS} (hR : CR b0 K Z) (hm : x_AbL_init N b0 K p0 S = some S') : Ct l D vwCl (tyL dA) b0 Z y_AbL_init (.code y_AbL_init cb_AbL_init 1 none :: wsA) 2 40 [.ref p0] (cH dA b0 S hp0) sz none (cH dA b0 S' hp0) 0 0 := by
  refine ct_ofF (cc := cb_AbL_init) (maxL := 1) (ret := none) (lo0 := [some (.ref p0)]) hR.1 (by decide +kernel) rfl (by simp [lg_sl, cat_i, cat_r, cat_l, va_rf_cat]) rfl (by simp [lx_all, lv_args, cat_i, cat_r, cat_l, va_rf_cat]) ?_
  intro p e s m args below meth c ls B hnm hl I
  obtain ⟨hx, hb, -⟩ := B.1
  unfold x_AbL_init at hm
  refine q_aload_n (pc := 0) (i := 0) (v := .ref p0) hx hb d_AbL_init_0 rfl rfl (lx_get hl rfl) ?_
  refine ob1 hm (fun u2 e1 hm => ?_)
  refine k_callI (pc := 1) (As := []) (rest := []) (b := p0) B hl rfl I (c_AbC_init hR e1) kw_AbL_1 rfl (Nat.le_of_ble_eq_true rfl) (Nat.le_of_ble_eq_true rfl) rfl (by simp [cat_i, cat_r, cat_l, va_rf_cat]) d_AbL_init_1 (Nat.le_refl _) (Nat.le_refl _) (fun H locs I => ?_)
  refine q_aload_n (pc := 4) (i := 0) (v := .ref p0) hx hb d_AbL_init_4 rfl rfl (lx_get hl rfl) ?_
  refine lv_iconst (pc := 5) (v := 0) hx hb d_AbL_init_5 (by decide) ?_
  refine ob1 hm (fun S3 e4 hm => ?_)
  refine k_putI (pc := 6) (z := 8) (k := 0) (index := 7) (v := 0) B I (by decide) (by decide) mF_AbL_7 rfl rfl rfl rfl cset_8_0 e4 d_AbL_init_6 (fun H locs I => ?_)
  cases hm
  exact q_vret (pc := 9) B I rfl d_AbL_init_9
def x_AL_init (N b0 : Nat) (K : cS) (p0 : Nat) (S : cS) : Option cS :=
  b1 (x_AbL_init N b0 K p0 S) (fun S2 => b1 (K.2.2.2 0 102) (fun a3 => b1 (pR b0 S2 8 1 p0 (some a3)) (fun S5 => some S5)))
set_option maxRecDepth 100000 in
set_option maxHeartbeats 4000000 in
theorem c_AL_init {p0 : Nat} {S S' : cS} (hR : CR b0 K Z) (hm : x_AL_init N b0 K p0 S = some S') : Ct l D vwCl (tyL dA) b0 Z y_AL_init (.code y_AL_init cb_AL_init 1 none :: wsA) 3 60 [.ref p0] (cH dA b0 S hp0) sz none (cH dA b0 S' hp0) 0 0 := by
  refine ct_ofF (cc := cb_AL_init) (maxL := 1) (ret := none) (lo0 := [some (.ref p0)]) hR.1 (by decide +kernel) rfl (by simp [lg_sl, cat_i, cat_r, cat_l, va_rf_cat]) rfl (by simp [lx_all, lv_args, cat_i, cat_r, cat_l, va_rf_cat]) ?_
  intro p e s m args below meth c ls B hnm hl I
  obtain ⟨hx, hb, -⟩ := B.1
  unfold x_AL_init at hm
  refine q_aload_n (pc := 0) (i := 0) (v := .ref p0) hx hb d_AL_init_0 rfl rfl (lx_get hl rfl) ?_
  refine ob1 hm (fun S2 e1 hm => ?_)
  refine k_callI (pc := 1) (As := []) (rest := []) (b := p0) B hl rfl I (c_AbL_init hR e1) kw_AL_1 rfl (Nat.le_of_ble_eq_true rfl) (Nat.le_of_ble_eq_true rfl) rfl (by simp [cat_i, cat_r, cat_l, va_rf_cat]) d_AL_init_1 (Nat.le_refl _) (Nat.le_refl _) (fun H locs I => ?_)
  refine q_aload_n (pc := 4) (i := 0) (v := .ref p0) hx hb d_AL_init_4 rfl rfl (lx_get hl rfl) ?_
  refine ob1 hm (fun a3 e4 hm => ?_)
  refine k_dflt (pc := 5) (index := 39) B hR I mF_AL_39 e4 d_AL_init_5 ?_
  refine ob1 hm (fun S5 e6 hm => ?_)
  refine k_putR (pc := 8) (z := 8) (k := 1) (index := 9) (v := (some a3)) B I (by decide) (by decide) mF_AL_9 rfl rfl (Or.inr ⟨_, rfl⟩) cset_8_1 e6 d_AL_init_8 (fun H locs I => ?_)
  cases hm
  exact q_vret (pc := 11) B I rfl d_AL_init_11
def x_AB_isLatin1 (N b0 : Nat) (K : cS) (p0 : Nat) (S : cS) : Option Int32 :=
  b1 (gI b0 K S 7 1 p0) (fun x1 => if x1 = 0 then (some 1) else (some 0))
set_option maxRecDepth 100000 in
set_option maxHeartbeats 4000000 in
theorem c_AB_isLatin1 {p0 : Nat} {S : cS} {r : Int32} (hR : CR b0 K Z) (hm : x_AB_isLatin1 N b0 K p0 S = some r) : Ct l D vwCl (tyL dA) b0 Z y_AB_isLatin1 (.code y_AB_isLatin1 cb_AB_isLatin1 1 (some .boolean) :: wsA) 0 0 [.ref p0] (cH dA b0 S hp0) sz (some (.int r)) (cH dA b0 S hp0) 0 0 := by
  refine ct_ofF (cc := cb_AB_isLatin1) (maxL := 1) (ret := (some .boolean)) (lo0 := [some (.ref p0)]) hR.1 (by decide +kernel) rfl (by simp [lg_sl, cat_i, cat_r, cat_l, va_rf_cat]) rfl (by simp [lx_all, lv_args, cat_i, cat_r, cat_l, va_rf_cat]) ?_
  intro p e s m args below meth c ls B hnm hl I
  obtain ⟨hx, hb, -⟩ := B.1
  unfold x_AB_isLatin1 at hm
  refine k_compact (pc := 0) (index := 18) B hR I mF_AB_18 d_AB_isLatin1_0 ?_
  refine lv_if_eq (pc := 3) (tgt := 17) hx hb d_AB_isLatin1_3 (by decide) (fun hc => absurd hc (by decide)) (fun _ => ?_)
  refine q_aload_n (pc := 6) (i := 0) (v := .ref p0) hx hb d_AB_isLatin1_6 rfl rfl (lx_get hl rfl) ?_
  refine ob1 hm (fun x1 e2 hm => ?_)
  refine k_getI (pc := 7) (z := 7) (k := 1) (index := 22) B hR I (by decide) (by decide) mF_AB_22 rfl (fun _ _ => rfl) e2 d_AB_isLatin1_7 ?_
  refine lv_if_ne (pc := 10) (tgt := 17) hx hb d_AB_isLatin1_10 (by decide) (fun hc => ?_) (fun hc => ?_)
  · have hm := iff' hc hm
    refine lv_iconst (pc := 17) (v := 0) hx hb d_AB_isLatin1_17 (by decide) ?_
    cases hm
    exact q_zret (pc := 18) B I rfl (by decide) d_AB_isLatin1_18
  · have hm := ift hc hm
    refine lv_iconst (pc := 13) (v := 1) hx hb d_AB_isLatin1_13 (by decide) ?_
    refine lv_goto (pc := 14) (tgt := 18) hx hb d_AB_isLatin1_14 (by decide) ?_
    cases hm
    exact q_zret (pc := 18) B I rfl (by decide) d_AB_isLatin1_18
def x_AB_getValue (N b0 : Nat) (K : cS) (p0 : Nat) (S : cS) : Option (Option Nat) :=
  b1 (gR b0 K S 7 0 p0) (fun q1 => some q1)
set_option maxRecDepth 100000 in
set_option maxHeartbeats 4000000 in
theorem c_AB_getValue {p0 : Nat} {S : cS} {q : Option Nat} (hR : CR b0 K Z) (hm : x_AB_getValue N b0 K p0 S = some q) : Ct l D vwCl (tyL dA) b0 Z y_AB_getValue (.code y_AB_getValue cb_AB_getValue 1 (some (.array .byte)) :: wsA) 0 0 [.ref p0] (cH dA b0 S hp0) sz (some (va_rf q)) (cH dA b0 S hp0) 0 0 := by
  refine ct_ofF (cc := cb_AB_getValue) (maxL := 1) (ret := (some (.array .byte))) (lo0 := [some (.ref p0)]) hR.1 (by decide +kernel) rfl (by simp [lg_sl, cat_i, cat_r, cat_l, va_rf_cat]) rfl (by simp [lx_all, lv_args, cat_i, cat_r, cat_l, va_rf_cat]) ?_
  intro p e s m args below meth c ls B hnm hl I
  obtain ⟨hx, hb, -⟩ := B.1
  unfold x_AB_getValue at hm
  refine q_aload_n (pc := 0) (i := 0) (v := .ref p0) hx hb d_AB_getValue_0 rfl rfl (lx_get hl rfl) ?_
  refine ob1 hm (fun q1 e2 hm => ?_)
  refine k_getR (pc := 1) (z := 7) (k := 0) (index := 15) B hR I (by decide) (by decide) mF_AB_15 rfl (fun _ _ => rfl) e2 d_AB_getValue_1 ?_
  cases hm
  exact q_aret (pc := 4) B I rfl (Or.inr ⟨_, rfl⟩) d_AB_getValue_4
def x_AB_length (N b0 : Nat) (K : cS) (p0 : Nat) (S : cS) : Option Int32 :=
  b1 (gI b0 K S 7 3 p0) (fun x1 => some x1)
set_option maxRecDepth 100000 in
set_option maxHeartbeats 4000000 in
theorem c_AB_length {p0 : Nat} {S : cS} {r : Int32} (hR : CR b0 K Z) (hm : x_AB_length N b0 K p0 S = some r) : Ct l D vwCl (tyL dA) b0 Z y_AB_length (.code y_AB_length cb_AB_length 1 (some .int) :: wsA) 0 0 [.ref p0] (cH dA b0 S hp0) sz (some (.int r)) (cH dA b0 S hp0) 0 0 := by
  refine ct_ofF (cc := cb_AB_length) (maxL := 1) (ret := (some .int)) (lo0 := [some (.ref p0)]) hR.1 (by decide +kernel) rfl (by simp [lg_sl, cat_i, cat_r, cat_l, va_rf_cat]) rfl (by simp [lx_all, lv_args, cat_i, cat_r, cat_l, va_rf_cat]) ?_
  intro p e s m args below meth c ls B hnm hl I
  obtain ⟨hx, hb, -⟩ := B.1
  unfold x_AB_length at hm
  refine q_aload_n (pc := 0) (i := 0) (v := .ref p0) hx hb d_AB_length_0 rfl rfl (lx_get hl rfl) ?_
  refine ob1 hm (fun x1 e2 hm => ?_)
  refine k_getI (pc := 1) (z := 7) (k := 3) (index := 79) B hR I (by decide) (by decide) mF_AB_79 rfl (fun _ _ => rfl) e2 d_AB_length_1 ?_
  cases hm
  exact q_iret (pc := 4) B I rfl d_AB_length_4
def x_L1_canEncode (N b0 : Nat) (K : cS) (p1 : Int32) (S : cS) : Option Int32 :=
  if 255 < p1 then (some 0) else (some 1)
set_option maxRecDepth 100000 in
set_option maxHeartbeats 4000000 in
theorem c_L1_canEncode {p1 : Int32} {S : cS} {r : Int32} (hR : CR b0 K Z) (hm : x_L1_canEncode N b0 K p1 S = some r) : Ct l D vwCl (tyL dA) b0 Z y_L1_canEncode (.code y_L1_canEncode cb_L1_canEncode 1 (some .boolean) :: wsA) 0 0 [.int p1] (cH dA b0 S hp0) sz (some (.int r)) (cH dA b0 S hp0) 0 0 := by
  refine ct_ofF (cc := cb_L1_canEncode) (maxL := 1) (ret := (some .boolean)) (lo0 := [some (.int p1)]) hR.1 (by decide +kernel) rfl (by simp [lg_sl, cat_i, cat_r, cat_l, va_rf_cat]) rfl (by simp [lx_all, lv_args, cat_i, cat_r, cat_l, va_rf_cat]) ?_
  intro p e s m args below meth c ls B hnm hl I
  obtain ⟨hx, hb, -⟩ := B.1
  unfold x_L1_canEncode at hm
  refine lv_iload_n (pc := 0) (i := 0) hx hb d_L1_canEncode_0 rfl (lx_get hl rfl) ?_
  refine lv_sipush (pc := 1) (v := 255) hx hb d_L1_canEncode_1 (by decide) ?_
  refine lv_icmp_gt (pc := 4) (tgt := 11) hx hb d_L1_canEncode_4 (by decide) (fun hc => ?_) (fun hc => ?_)
  · have hm := ift hc hm
    refine lv_iconst (pc := 11) (v := 0) hx hb d_L1_canEncode_11 (by decide) ?_
    cases hm
    exact q_zret (pc := 12) B I rfl (by decide) d_L1_canEncode_12
  · have hm := iff' hc hm
    refine lv_iconst (pc := 7) (v := 1) hx hb d_L1_canEncode_7 (by decide) ?_
    refine lv_goto (pc := 8) (tgt := 12) hx hb d_L1_canEncode_8 (by decide) ?_
    cases hm
    exact q_zret (pc := 12) B I rfl (by decide) d_L1_canEncode_12
def x_AB_init (N b0 : Nat) (K : cS) (p0 : Nat) (p1 : Int32) (sz : Nat) (S : cS) : Option (cS × Nat × Nat) :=
  b1 (nAo b0 S 12 sz p1) (fun S1 => wr3 1 (p1 : Int32).toNatClampNeg (b1 (pR b0 S1 7 0 p0 (some sz)) (fun S3 => b1 (pI b0 S3 7 1 p0 0) (fun S5 => some (S5, 0, 0)))))
set_option maxRecDepth 100000 in
set_option maxHeartbeats 4000000 in
theorem c_AB_init {p0 : Nat} {p1 : Int32} {S S' : cS} {dc ds : Nat} (hR : CR b0 K Z) (hm : x_AB_init N b0 K p0 p1 sz S = some (S', dc, ds)) : Ct l D vwCl (tyL dA) b0 Z y_AB_init (.code y_AB_init cb_AB_init 2 none :: wsA) 3 120 [.ref p0, .int p1] (cH dA b0 S hp0) sz none (cH dA b0 S' hp0) dc ds := by
  refine ct_ofF (cc := cb_AB_init) (maxL := 2) (ret := none) (lo0 := [some (.ref p0), some (.int p1)]) hR.1 (by decide +kernel) rfl (by simp [lg_sl, cat_i, cat_r, cat_l, va_rf_cat]) rfl (by simp [lx_all, lv_args, cat_i, cat_r, cat_l, va_rf_cat]) ?_
  intro p e s m args below meth c ls B hnm hl I
  obtain ⟨hx, hb, -⟩ := B.1
  have hz : sz = sz + 0 := rfl
  have hc : 0 + dc = dc := Nat.zero_add _
  have hs : 0 + ds = ds := Nat.zero_add _
  unfold x_AB_init at hm
  refine q_aload_n (pc := 0) (i := 0) (v := .ref p0) hx hb d_AB_init_0 rfl rfl (lx_get hl rfl) ?_
  refine k_obj (pc := 1) (index := 3) B hl rfl mO_AB_3 mA_oI mA_oC (Nat.le_of_ble_eq_true rfl) (Nat.le_of_ble_eq_true rfl) d_AB_init_1 ?_
  refine k_compact (pc := 4) (index := 18) B hR I mF_AB_18 d_AB_init_4 ?_
  refine lv_if_eq (pc := 7) (tgt := 25) hx hb d_AB_init_7 (by decide) (fun hc => absurd hc (by decide)) (fun _ => ?_)
  refine q_aload_n (pc := 10) (i := 0) (v := .ref p0) hx hb d_AB_init_10 rfl rfl (lx_get hl rfl) ?_
  refine lv_iload_n (pc := 11) (i := 1) hx hb d_AB_init_11 rfl (lx_get hl rfl) ?_
  refine ob1 hm (fun S1 e2 hm => ?_)
  refine owr3 hm hc hs (fun dc ds hm hc hs => ?_)
  refine k_newa_b (pc := 12) B I mA_byte (hr_ hc) (hr_ hs) e2 d_AB_init_12 (fun H I => ?_)
  have hz := hzn (n := 1) hz
  refine ob1 hm (fun S3 e4 hm => ?_)
  refine k_putR (pc := 14) (z := 7) (k := 0) (index := 15) (v := (some sz)) B I (by decide) (by decide) mF_AB_15 rfl rfl (Or.inr ⟨_, rfl⟩) cset_7_0 e4 d_AB_init_14 (fun H locs I => ?_)
  refine q_aload_n (pc := 17) (i := 0) (v := .ref p0) hx hb d_AB_init_17 rfl rfl (lx_get hl rfl) ?_
  refine lv_iconst (pc := 18) (v := 0) hx hb d_AB_init_18 (by decide) ?_
  refine ob1 hm (fun S5 e6 hm => ?_)
  refine k_putI (pc := 19) (z := 7) (k := 1) (index := 22) (v := 0) B I (by decide) (by decide) mF_AB_22 rfl rfl rfl rfl cset_7_1 e6 d_AB_init_19 (fun H locs I => ?_)
  refine lv_goto (pc := 22) (tgt := 38) hx hb d_AB_init_22 (by decide) ?_
  cases hm
  exact q_vretA (pc := 38) B I hz hc hs rfl d_AB_init_38
def x_SB_init (N b0 : Nat) (K : cS) (p0 : Nat) (sz : Nat) (S : cS) : Option (cS × Nat × Nat) :=
  b3 (x_AB_init N b0 K p0 16 sz S) (fun S2 c3 d4 => wr3 c3 d4 (some (S2, 0, 0)))
set_option maxRecDepth 100000 in
set_option maxHeartbeats 4000000 in
theorem c_SB_init {p0 : Nat} {S S' : cS} {dc ds : Nat} (hR : CR b0 K Z) (hm : x_SB_init N b0 K p0 sz S = some (S', dc, ds)) : Ct l D vwCl (tyL dA) b0 Z y_SB_init (.code y_SB_init cb_SB_init 1 none :: wsA) 4 141 [.ref p0] (cH dA b0 S hp0) sz none (cH dA b0 S' hp0) dc ds := by
  refine ct_ofF (cc := cb_SB_init) (maxL := 1) (ret := none) (lo0 := [some (.ref p0)]) hR.1 (by decide +kernel) rfl (by simp [lg_sl, cat_i, cat_r, cat_l, va_rf_cat]) rfl (by simp [lx_all, lv_args, cat_i, cat_r, cat_l, va_rf_cat]) ?_
  intro p e s m args below meth c ls B hnm hl I
  obtain ⟨hx, hb, -⟩ := B.1
  have hz : sz = sz + 0 := rfl
  have hc : 0 + dc = dc := Nat.zero_add _
  have hs : 0 + ds = ds := Nat.zero_add _
  unfold x_SB_init at hm
  refine q_aload_n (pc := 0) (i := 0) (v := .ref p0) hx hb d_SB_init_0 rfl rfl (lx_get hl rfl) ?_
  refine lv_bipush (pc := 1) (v := 16) hx hb d_SB_init_1 (by decide) ?_
  refine ob3 hm (fun S2 c3 d4 e1 hm => ?_)
  refine owr3 hm hc hs (fun dc ds hm hc hs => ?_)
  refine k_callI (pc := 3) (As := [.int 16]) (rest := []) (b := p0) B hl rfl I (c_AB_init hR e1) kw_SB_1 rfl (Nat.le_of_ble_eq_true rfl) (Nat.le_of_ble_eq_true rfl) rfl (by simp [cat_i, cat_r, cat_l, va_rf_cat]) d_SB_init_3 (hr_ hc) (hr_ hs) (fun H locs I => ?_)
  have hz := hzn (n := c3) hz
  cases hm
  exact q_vretA (pc := 6) B I hz hc hs rfl d_SB_init_6
end CW
